abbrev G_X8_isPerson (p : Program) (l : Launch) (e : Env) (s : State) (m : MethodId) (below : List Frame) (meth : Method) (c : Code) (G : va_G) (cA : Nat → ClassId) (A : Nat → Prop) (aa : Nat → Nat) (S : Tr) (L : Lo) (x1 : Int32) (r0 : Int32) (H : Heap) (locs : List Loc) (g : JFrame) : Prop := W p l e (headSpec (.code yX8_isPerson cX8_isPerson 2 (some .boolean) :: T0) ({ frames := 0, cells := 0, slots := 0, locals := 0 } : Room)).room s m ([.ref (aa 0), .int x1] : List Value).toArray below meth c H locs 0 0 (MQ below (tqQi G cA (fun (r : Int32) (_ : Unit) => r = r0) (fun (_ : Unit) => wM cA aa S L) A) ([.ref (aa 0), .int x1] : List Value).toArray s 0 0 A) g
set_option maxHeartbeats 4000000 in
set_option maxRecDepth 100000 in
theorem c_X8_isPerson (l : Launch) (G : va_G) (cA : Nat → ClassId) (sz : Nat) (aa : Nat → Nat) (S : Tr) (L : Lo) (x1 : Int32)  (r0 : Int32) (h : f_X8_isPerson S x1 = some r0) : Met l yX8_isPerson (.code yX8_isPerson cX8_isPerson 2 (some .boolean) :: T0) ({ frames := 0, cells := 0, slots := 0, locals := 0 } : Room) (tqP G cA [.ref (aa 0), .int x1] (wM cA aa S L) sz) (tqQi G cA (fun (r : Int32) (_ : Unit) => r = r0) (fun (_ : Unit) => wM cA aa S L) (va_A (wM cA aa S L) sz)) 0 0 (va_A (wM cA aa S L) sz) := by
  refine Met.ofW (cc := cX8_isPerson) (maxL := 2) (ret := (some .boolean)) (by decide) rfl ?_
  intro p e s m args below meth c s₁ B hml hv
  obtain ⟨rfl, hsz, hP, hK, hD0, hN⟩ := hv
  have hx := B.exec
  have hb := B.bytes
  have hr := B.returns
  have hts := atoms_spec (ws := .code yX8_isPerson cX8_isPerson 2 (some .boolean) :: T0) B.pre
  have hT : ∀ w ∈ T0, w.before _ s = true := fun w h => hts w (List.mem_cons_of_mem _ h)
  have hown : s.vm.findClass RX8 = some m.cls := findClass_of_methodNamed B.named
  have hlocks := B.notSynchronized
  subst hsz
  have hD := hD0.self (sz := s.heap.size)
  generalize hAe : va_A (wM cA aa S L) s.heap.size = A at hD ⊢
  have hA : ∀ q : Nat, s.heap.size ≤ q → A q := fun q h => by rw [← hAe]; exact Or.inr h
  have hS : va_S A s.heap s.heap [] := va_S.rf
  have hl := lv_entry ([.ref (aa 0), .int x1]) (n := 2) (Nat.le_of_ble_eq_true rfl)
  rw [lg_entry_eq]
  generalize (lg_sl ([.ref (aa 0), .int x1]) ++ List.replicate (2 - (lg_sl ([.ref (aa 0), .int x1])).length) Slot.unset).toArray = ls at hl ⊢
  have hl : lv_has ls 2 [(0, .ref (aa 0)), (1, .int x1)] := hl
  have F : tF p s m ([.ref (aa 0), .int x1] : List Value).toArray meth c G cA A RX8 cX8_isPerson 2 (some .boolean) := ⟨hx, hb, hr, hml, hT, hown, hlocks, hK, hN, hA⟩
  obtain ⟨H, hH⟩ : ∃ z, z = s.heap := ⟨_, rfl⟩
  rw [← hH] at hP
  have hS : va_S A s.heap H [] := by rw [hH]; exact hS
  suffices hgo : G_X8_isPerson p l e s m below meth c G cA A aa S L x1 r0 H [] (F0 m 0 ls []) by rw [hH] at hgo; exact hgo
  generalize ([] : List Loc) = locs at hS ⊢
  unfold f_X8_isPerson at h
  refine lv_iload_n hx hb dX8_isPerson_0 rfl (lv_at hl 1 rfl) ?_
  refine lv_if_lt (tgt := 16) hx hb dX8_isPerson_1 (by decide) (fun c1 => ?_) (fun c1 => ?_)
  · have h := tx_pos c1 h
    refine lv_iconst (v := 0) hx hb dX8_isPerson_16 (by decide) ?_
    obtain rfl := tx_1 h
    exact W.zret (ty := .boolean) hx hb hr rfl (fun t ht hW => ⟨⟨_, (), rfl, rfl, by rw [ht]; exact hP, hD⟩, hS.F ht⟩) hS.2.2 dX8_isPerson_17
  · have h := tx_neg c1 h
    refine lv_iload_n hx hb dX8_isPerson_4 rfl (lv_at hl 1 rfl) ?_
    refine lv_aload_n hx hb dX8_isPerson_5 rfl (lv_at hl 0 rfl) ?_
    refine va_get (D := G) (ci := 8) (v := .int (S 0 13)) (C := RX8) (T := TX8) (N := 91) hx hb hT ku_8 hown hK hP 0 rfl rfl 13 (by decide) (hT _ kw_12_4) (fun _ h9 => h9) rfl dX8_isPerson_6 ?_
    refine lv_icmp_ge (tgt := 16) hx hb dX8_isPerson_9 (by decide) (fun c2 => ?_) (fun c2 => ?_)
    · have h := tx_pos c2 h
      refine lv_iconst (v := 0) hx hb dX8_isPerson_16 (by decide) ?_
      obtain rfl := tx_1 h
      exact W.zret (ty := .boolean) hx hb hr rfl (fun t ht hW => ⟨⟨_, (), rfl, rfl, by rw [ht]; exact hP, hD⟩, hS.F ht⟩) hS.2.2 dX8_isPerson_17
    · have h := tx_neg c2 h
      refine lv_iconst (v := 1) hx hb dX8_isPerson_12 (by decide) ?_
      refine lv_goto (tgt := 17) hx hb dX8_isPerson_13 (by decide) ?_
      obtain rfl := tx_1 h
      exact W.zret (ty := .boolean) hx hb hr rfl (fun t ht hW => ⟨⟨_, (), rfl, rfl, by rw [ht]; exact hP, hD⟩, hS.F ht⟩) hS.2.2 dX8_isPerson_17
abbrev G_X8_got (p : Program) (l : Launch) (e : Env) (s : State) (m : MethodId) (below : List Frame) (meth : Method) (c : Code) (G : va_G) (cA : Nat → ClassId) (A : Nat → Prop) (aa : Nat → Nat) (x1 : Int32) (r0 : Int32) (S' : Tr) (L' : Lo) (H : Heap) (locs : List Loc) (g : JFrame) : Prop := W p l e (headSpec (.code yX8_got cX8_got 4 (some .int) :: T0) ({ frames := 8, cells := 0, slots := 0, locals := 192 } : Room)).room s m ([.ref (aa 0), .int x1] : List Value).toArray below meth c H locs 0 0 (MQ below (tqQi G cA (fun (r : Int32) (_ : Unit) => r = r0) (fun (_ : Unit) => wM cA aa S' L') A) ([.ref (aa 0), .int x1] : List Value).toArray s 0 0 A) g
set_option maxHeartbeats 4000000 in
set_option maxRecDepth 100000 in
theorem w_X8_got_L95 {p : Program} {l : Launch} {e : Env} {s : State} {m : MethodId} {below : List Frame} {meth : Method} {c : Code} {G : va_G} {cA : Nat → ClassId} {A : Nat → Prop} {aa : Nat → Nat} {x1₀ : Int32} {r0 : Int32} {S' : Tr} {L' : Lo} {x1 : Int32} (F : tF p s m ([.ref (aa 0), .int x1₀] : List Value).toArray meth c G cA A RX8 cX8_got 4 (some .int))    (N : Nat) : ∀ (x2 : Int32) (x3 : Int32) (S : Tr) (L : Lo) (H : Heap) (locs : List Loc) (ls : Array Slot), lpF (fun _ _ _ _ => none) (fB_X8_got_L95 x1) N x2 x3 S L = some (r0, S', L') → va_P G vwCl (wM cA aa S L) H → va_D A (wM cA aa S L) → va_S A s.heap H locs → lv_has ls 4 [(0, .ref (aa 0)), (1, .int x1), (2, .int x2), (3, .int x3)] → G_X8_got p l e s m below meth c G cA A aa x1₀ r0 S' L' H locs (F0 m 95 ls []) := by
  obtain ⟨hx, hb, hr, hml, hT, hown, hlocks, hK, hN, hA⟩ := id F
  induction N with
  | zero =>
    intro x2 x3 S L H locs ls h
    have h : (none : Option (Int32 × Tr × Lo)) = some (r0, S', L') := h
    cases h
  | succ N hk95 =>
    intro x2 x3 S L H locs ls h hP hD hS hl
    have h : fB_X8_got_L95 x1 (lpF (fun _ _ _ _ => none) (fB_X8_got_L95 x1) N) x2 x3 S L = some (r0, S', L') := h
    generalize hk95e : lpF (fun _ _ _ _ => none) (fB_X8_got_L95 x1) N = k95 at h hk95
    unfold fB_X8_got_L95 at h
    refine lv_iload_n hx hb dX8_got_95 rfl (lv_at hl 3 rfl) ?_
    refine lv_aload_n hx hb dX8_got_96 rfl (lv_at hl 0 rfl) ?_
    refine va_get (D := G) (ci := 8) (v := .ref (aa 28)) (C := RX8) (T := TX8) (N := 91) hx hb hT ku_8 hown hK hP 0 rfl rfl 27 (by decide) (hT _ kw_9_19) (fun _ h9 => h9) rfl dX8_got_97 ?_
    refine lv_iload_n hx hb dX8_got_100 rfl (lv_at hl 1 rfl) ?_
    obtain ⟨g15, h⟩ := tx_ck h
    refine va_iald (i := x1) hx hb hK hP 9 0 rfl rfl (tx_in g15) dX8_got_101 ?_
    refine lv_icmp_ge (tgt := 130) hx hb dX8_got_102 (by decide) (fun c16 => ?_) (fun c16 => ?_)
    · have h := tx_pos c16 h
      refine lv_iload_n hx hb dX8_got_130 rfl (lv_at hl 2 rfl) ?_
      obtain ⟨rfl, rfl, rfl⟩ := tx_3 h
      exact W.iret hx hb hr (fun t ht hW => ⟨⟨_, (), rfl, rfl, by rw [ht]; exact hP, hD⟩, hS.F ht⟩) hS.2.2 dX8_got_131
    · have h := tx_neg c16 h
      refine lv_iload_n hx hb dX8_got_105 rfl (lv_at hl 2 rfl) ?_
      refine lv_aload_n hx hb dX8_got_106 rfl (lv_at hl 0 rfl) ?_
      refine lv_iload_n hx hb dX8_got_107 rfl (lv_at hl 1 rfl) ?_
      refine lv_iload_n hx hb dX8_got_108 rfl (lv_at hl 3 rfl) ?_
      obtain ⟨⟨r17, S_18, L_19⟩, hc20, h⟩ := tx_bd h
      replace h := tx_let (y := r17) rfl h
      replace h := tx_let (y := S_18) rfl h
      replace h := tx_let (y := L_19) rfl h
      refine tw_ci tw_all hP hD hS hA (va_runV (As := [.int x1, .int x3]) (rest := [.int x2]) ⟨hx, hb, hml, hown, hT⟩ (c_X8_fits l G cA H.size aa S L x1 x3  r17 S_18 L_19 hc20) (cwV 2 hT (tq_gV kw_56_14 kw_56_15 kw_56_16 kw_1_5 kw_56_17) rfl rfl rfl (by decide +kernel) ⟨Nat.le_of_ble_eq_true rfl, Nat.le_of_ble_eq_true rfl⟩) ⟨(tw_pre tw_all hP hD hK hN).1, va_recv hK hP (ci := 8) (q0 := 0) rfl rfl, (tw_pre tw_all hP hD hK hN).2⟩ rfl rfl hl.1 rfl (lv_room (Nat.le_of_ble_eq_true rfl)) dX8_got_109 ⟨Nat.le_of_ble_eq_true rfl, Nat.le_of_ble_eq_true rfl⟩) (fun _ _ H locs z21 hP hD hS => ?_)
      subst z21
      rw [List.append_nil] at hP hD
      have hP : va_P G vwCl (wM cA aa S_18 L_19) H := hP
      have hD : va_D A (wM cA aa S_18 L_19) := hD
      refine lv_if_eq (tgt := 121) hx hb dX8_got_112 (by decide) (fun c22 => ?_) (fun c22 => ?_)
      · have h := tx_pos c22 h
        refine lv_iconst (v := 0) hx hb dX8_got_121 (by decide) ?_
        refine lv_ior hx hb dX8_got_122 ?_
        refine lv_topi (fun y23 ey23 => ?_)
        have h := tx_let ey23 h
        refine lv_istore_n (lv' := [(2, .int y23), (0, .ref (aa 0)), (1, .int x1), (3, .int x3)]) hx hb dX8_got_123 rfl hl (by decide) rfl (fun ls hl => ?_)
        obtain ⟨y24, ey24, h⟩ := tx_lt h
        refine lv_iinc (v := y24) (lv' := [(3, .int y24), (2, .int y23), (0, .ref (aa 0)), (1, .int x1)]) hx hb dX8_got_124 hl (k := 3) rfl ey24 (by decide) rfl (fun ls hl => ?_)
        refine lv_goto (tgt := 95) hx hb dX8_got_127 (by decide) ?_
        exact hk95 y23 y24 S_18 L_19 H locs ls h hP hD hS (lv_sub hl [2, 3, 1, 0] rfl)
      · have h := tx_neg c22 h
        refine lv_iconst (v := 1) hx hb dX8_got_115 (by decide) ?_
        refine lv_iload_n hx hb dX8_got_116 rfl (lv_at hl 3 rfl) ?_
        refine lv_ishl hx hb dX8_got_117 ?_
        refine lv_goto (tgt := 122) hx hb dX8_got_118 (by decide) ?_
        refine lv_ior hx hb dX8_got_122 ?_
        refine lv_topi (fun y25 ey25 => ?_)
        have h := tx_let ey25 h
        refine lv_istore_n (lv' := [(2, .int y25), (0, .ref (aa 0)), (1, .int x1), (3, .int x3)]) hx hb dX8_got_123 rfl hl (by decide) rfl (fun ls hl => ?_)
        obtain ⟨y26, ey26, h⟩ := tx_lt h
        refine lv_iinc (v := y26) (lv' := [(3, .int y26), (2, .int y25), (0, .ref (aa 0)), (1, .int x1)]) hx hb dX8_got_124 hl (k := 3) rfl ey26 (by decide) rfl (fun ls hl => ?_)
        refine lv_goto (tgt := 95) hx hb dX8_got_127 (by decide) ?_
        exact hk95 y25 y26 S_18 L_19 H locs ls h hP hD hS (lv_sub hl [2, 3, 1, 0] rfl)
set_option maxHeartbeats 4000000 in
set_option maxRecDepth 100000 in
theorem w_X8_got_L45 {p : Program} {l : Launch} {e : Env} {s : State} {m : MethodId} {below : List Frame} {meth : Method} {c : Code} {G : va_G} {cA : Nat → ClassId} {A : Nat → Prop} {aa : Nat → Nat} {x1₀ : Int32} {r0 : Int32} {S' : Tr} {L' : Lo} {L : Lo} {x1 : Int32} (F : tF p s m ([.ref (aa 0), .int x1₀] : List Value).toArray meth c G cA A RX8 cX8_got 4 (some .int))    (N : Nat) : ∀ (x2 : Int32) (S : Tr) (H : Heap) (locs : List Loc) (ls : Array Slot), lpF (fun _ _ => none) (fB_X8_got_L45 L x1) N x2 S = some (r0, S', L') → va_P G vwCl (wM cA aa S L) H → va_D A (wM cA aa S L) → va_S A s.heap H locs → lv_has ls 4 [(0, .ref (aa 0)), (1, .int x1), (2, .int x2)] → G_X8_got p l e s m below meth c G cA A aa x1₀ r0 S' L' H locs (F0 m 45 ls []) := by
  obtain ⟨hx, hb, hr, hml, hT, hown, hlocks, hK, hN, hA⟩ := id F
  induction N with
  | zero =>
    intro x2 S H locs ls h
    have h : (none : Option (Int32 × Tr × Lo)) = some (r0, S', L') := h
    cases h
  | succ N hk45 =>
    intro x2 S H locs ls h hP hD hS hl
    have h : fB_X8_got_L45 L x1 (lpF (fun _ _ => none) (fB_X8_got_L45 L x1) N) x2 S = some (r0, S', L') := h
    generalize hk45e : lpF (fun _ _ => none) (fB_X8_got_L45 L x1) N = k45 at h hk45
    unfold fB_X8_got_L45 at h
    refine lv_iload_n hx hb dX8_got_45 rfl (lv_at hl 2 rfl) ?_
    refine lv_if_lt (tgt := 91) hx hb dX8_got_46 (by decide) (fun c14 => ?_) (fun c14 => ?_)
    · have h := tx_pos c14 h
      refine lv_iconst (v := 0) hx hb dX8_got_91 (by decide) ?_
      refine lv_istore_n (lv' := [(2, .int 0), (0, .ref (aa 0)), (1, .int x1)]) hx hb dX8_got_92 rfl hl (by decide) rfl (fun ls hl => ?_)
      refine lv_iconst (v := 0) hx hb dX8_got_93 (by decide) ?_
      refine lv_istore_n (lv' := [(3, .int 0), (2, .int 0), (0, .ref (aa 0)), (1, .int x1)]) hx hb dX8_got_94 rfl hl (by decide) rfl (fun ls hl => ?_)
      exact w_X8_got_L95 F 2000 0 0 S L H locs ls h hP hD hS (lv_sub hl [2, 3, 1, 0] rfl)
    · have h := tx_neg c14 h
      refine lv_aload_n hx hb dX8_got_49 rfl (lv_at hl 0 rfl) ?_
      refine va_get (D := G) (ci := 8) (v := .ref (aa 82)) (C := RX8) (T := TX8) (N := 91) hx hb hT ku_8 hown hK hP 0 rfl rfl 81 (by decide) (hT _ kw_11_8) (fun _ h9 => h9) rfl dX8_got_50 ?_
      refine lv_iload_n hx hb dX8_got_53 rfl (lv_at hl 2 rfl) ?_
      obtain ⟨g27, h⟩ := tx_ck h
      refine va_zald (i := x2) hx hb hK hP 45 1 rfl rfl (tx_in g27) dX8_got_54 ?_
      refine lv_if_eq (tgt := 85) hx hb dX8_got_55 (by decide) (fun c28 => ?_) (fun c28 => ?_)
      · have h := tx_pos c28 h
        obtain ⟨y29, ey29, h⟩ := tx_lt h
        refine lv_iinc (v := y29) (lv' := [(2, .int y29), (0, .ref (aa 0)), (1, .int x1)]) hx hb dX8_got_85 hl (k := 2) rfl ey29 (by decide) rfl (fun ls hl => ?_)
        refine lv_goto (tgt := 45) hx hb dX8_got_88 (by decide) ?_
        exact hk45 y29 S H locs ls h hP hD hS (lv_sub hl [1, 2, 0] rfl)
      · have h := tx_neg c28 h
        refine lv_aload_n hx hb dX8_got_58 rfl (lv_at hl 0 rfl) ?_
        refine va_get (D := G) (ci := 8) (v := .ref (aa 81)) (C := RX8) (T := TX8) (N := 91) hx hb hT ku_8 hown hK hP 0 rfl rfl 80 (by decide) (hT _ kw_11_7) (fun _ h9 => h9) rfl dX8_got_59 ?_
        refine lv_iconst (v := 4) hx hb dX8_got_62 (by decide) ?_
        refine lv_iload_n hx hb dX8_got_63 rfl (lv_at hl 2 rfl) ?_
        refine lv_imul hx hb dX8_got_64 ?_
        obtain ⟨g30, h⟩ := tx_ck h
        refine va_iald (i := ((4 : Int32) * x2)) hx hb hK hP 44 0 rfl rfl (tx_in g30) dX8_got_65 ?_
        refine lv_if_ge (tgt := 85) hx hb dX8_got_66 (by decide) (fun c31 => ?_) (fun c31 => ?_)
        · have h := tx_pos c31 h
          obtain ⟨y32, ey32, h⟩ := tx_lt h
          refine lv_iinc (v := y32) (lv' := [(2, .int y32), (0, .ref (aa 0)), (1, .int x1)]) hx hb dX8_got_85 hl (k := 2) rfl ey32 (by decide) rfl (fun ls hl => ?_)
          refine lv_goto (tgt := 45) hx hb dX8_got_88 (by decide) ?_
          exact hk45 y32 S H locs ls h hP hD hS (lv_sub hl [1, 2, 0] rfl)
        · have h := tx_neg c31 h
          refine lv_aload_n hx hb dX8_got_69 rfl (lv_at hl 0 rfl) ?_
          refine va_get (D := G) (ci := 8) (v := .ref (aa 82)) (C := RX8) (T := TX8) (N := 91) hx hb hT ku_8 hown hK hP 0 rfl rfl 81 (by decide) (hT _ kw_11_8) (fun _ h9 => h9) rfl dX8_got_70 ?_
          refine lv_aload_n hx hb dX8_got_73 rfl (lv_at hl 0 rfl) ?_
          refine va_get (D := G) (ci := 8) (v := .ref (aa 81)) (C := RX8) (T := TX8) (N := 91) hx hb hT ku_8 hown hK hP 0 rfl rfl 80 (by decide) (hT _ kw_11_7) (fun _ h9 => h9) rfl dX8_got_74 ?_
          refine lv_iconst (v := 4) hx hb dX8_got_77 (by decide) ?_
          refine lv_iload_n hx hb dX8_got_78 rfl (lv_at hl 2 rfl) ?_
          refine lv_imul hx hb dX8_got_79 ?_
          refine lv_iconst (v := 1) hx hb dX8_got_80 (by decide) ?_
          refine lv_iadd hx hb dX8_got_81 ?_
          obtain ⟨g33, h⟩ := tx_ck h
          refine va_iald (i := (((4 : Int32) * x2) + 1)) hx hb hK hP 44 0 rfl rfl (tx_in g33) dX8_got_82 ?_
          refine lv_iconst (v := 0) hx hb dX8_got_83 (by decide) ?_
          obtain ⟨g34, h⟩ := tx_ck h
          refine va_zast (i := (S 81 (((4 : Int32) * x2) + 1).toNatClampNeg)) hx hb hK hP hD hS 45 1 rfl rfl (tx_in g34) dX8_got_84 (fun H locs hP hD hS => ?_)
          obtain ⟨S_35, eS_35, h⟩ := tx_lt h
          rw [sM_a81, eS_35] at hP hD
          obtain ⟨y36, ey36, h⟩ := tx_lt h
          refine lv_iinc (v := y36) (lv' := [(2, .int y36), (0, .ref (aa 0)), (1, .int x1)]) hx hb dX8_got_85 hl (k := 2) rfl ey36 (by decide) rfl (fun ls hl => ?_)
          refine lv_goto (tgt := 45) hx hb dX8_got_88 (by decide) ?_
          exact hk45 y36 S_35 H locs ls h hP hD hS (lv_sub hl [1, 2, 0] rfl)
set_option maxHeartbeats 4000000 in
set_option maxRecDepth 100000 in
theorem w_X8_got_J38 {p : Program} {l : Launch} {e : Env} {s : State} {m : MethodId} {below : List Frame} {meth : Method} {c : Code} {G : va_G} {cA : Nat → ClassId} {A : Nat → Prop} {aa : Nat → Nat} {x1₀ : Int32} {r0 : Int32} {S' : Tr} {L' : Lo} (F : tF p s m ([.ref (aa 0), .int x1₀] : List Value).toArray meth c G cA A RX8 cX8_got 4 (some .int))    (x1 : Int32) (S : Tr) (L : Lo) (H : Heap) (locs : List Loc) (ls : Array Slot) (h : fJ_X8_got_J38 x1 S L = some (r0, S', L')) (hP : va_P G vwCl (wM cA aa S L) H) (hD : va_D A (wM cA aa S L)) (hS : va_S A s.heap H locs) (hl : lv_has ls 4 [(2, .int y13), (0, .ref (aa 0)), (1, .int x1)]) : G_X8_got p l e s m below meth c G cA A aa x1₀ r0 S' L' H locs (F0 m 38 ls []) := by
  obtain ⟨hx, hb, hr, hml, hT, hown, hlocks, hK, hN, hA⟩ := id F
  unfold fJ_X8_got_J38 at h
  refine lv_aload_n hx hb dX8_got_38 rfl (lv_at hl 0 rfl) ?_
  obtain ⟨r10, hc11, h⟩ := tx_bd h
  refine tw_ci tw_all hP hD hS hA (va_runV (As := []) (rest := []) ⟨hx, hb, hml, hown, hT⟩ (c_X8_knownBy l G cA H.size aa S L  r10 hc11) (cwV 0 hT (tq_gV kw_56_10 kw_56_11 kw_56_12 kw_1_5 kw_56_13) rfl rfl rfl (by decide +kernel) ⟨Nat.le_of_ble_eq_true rfl, Nat.le_of_ble_eq_true rfl⟩) ⟨(tw_pre tw_all hP hD hK hN).1, va_recv hK hP (ci := 8) (q0 := 0) rfl rfl, (tw_pre tw_all hP hD hK hN).2⟩ rfl rfl hl.1 rfl (lv_room (Nat.le_of_ble_eq_true rfl)) dX8_got_39 ⟨Nat.le_of_ble_eq_true rfl, Nat.le_of_ble_eq_true rfl⟩) (fun _ _ H locs z12 hP hD hS => ?_)
  subst z12
  rw [List.append_nil] at hP hD
  have hP : va_P G vwCl (wM cA aa S L) H := hP
  have hD : va_D A (wM cA aa S L) := hD
  refine lv_iconst (v := 1) hx hb dX8_got_42 (by decide) ?_
  refine lv_isub hx hb dX8_got_43 ?_
  refine lv_topi (fun y13 ey13 => ?_)
  have h := tx_let ey13 h
  refine lv_istore_n (lv' := [(2, .int y13), (0, .ref (aa 0)), (1, .int x1)]) hx hb dX8_got_44 rfl hl (by decide) rfl (fun ls hl => ?_)
  exact w_X8_got_L45 F 2000 y13 S H locs ls h hP hD hS (lv_sub hl [1, 2, 0] rfl)
set_option maxHeartbeats 4000000 in
set_option maxRecDepth 100000 in
theorem w_X8_got_L17 {p : Program} {l : Launch} {e : Env} {s : State} {m : MethodId} {below : List Frame} {meth : Method} {c : Code} {G : va_G} {cA : Nat → ClassId} {A : Nat → Prop} {aa : Nat → Nat} {x1₀ : Int32} {r0 : Int32} {S' : Tr} {L' : Lo} {L : Lo} {x1 : Int32} (F : tF p s m ([.ref (aa 0), .int x1₀] : List Value).toArray meth c G cA A RX8 cX8_got 4 (some .int))    (N : Nat) : ∀ (x2 : Int32) (S : Tr) (H : Heap) (locs : List Loc) (ls : Array Slot), lpF (fun _ _ => none) (fB_X8_got_L17 L x1) N x2 S = some (r0, S', L') → va_P G vwCl (wM cA aa S L) H → va_D A (wM cA aa S L) → va_S A s.heap H locs → lv_has ls 4 [(0, .ref (aa 0)), (1, .int x1), (2, .int x2)] → G_X8_got p l e s m below meth c G cA A aa x1₀ r0 S' L' H locs (F0 m 17 ls []) := by
  obtain ⟨hx, hb, hr, hml, hT, hown, hlocks, hK, hN, hA⟩ := id F
  induction N with
  | zero =>
    intro x2 S H locs ls h
    have h : (none : Option (Int32 × Tr × Lo)) = some (r0, S', L') := h
    cases h
  | succ N hk17 =>
    intro x2 S H locs ls h hP hD hS hl
    have h : fB_X8_got_L17 L x1 (lpF (fun _ _ => none) (fB_X8_got_L17 L x1) N) x2 S = some (r0, S', L') := h
    generalize hk17e : lpF (fun _ _ => none) (fB_X8_got_L17 L x1) N = k17 at h hk17
    unfold fB_X8_got_L17 at h
    refine lv_iload_n hx hb dX8_got_17 rfl (lv_at hl 2 rfl) ?_
    refine lv_aload_n hx hb dX8_got_18 rfl (lv_at hl 0 rfl) ?_
    obtain ⟨r6, hc7, h⟩ := tx_bd h
    refine tw_ci tw_all hP hD hS hA (va_runV (As := []) (rest := [.int x2]) ⟨hx, hb, hml, hown, hT⟩ (c_X8_knownBy l G cA H.size aa S L  r6 hc7) (cwV 0 hT (tq_gV kw_56_10 kw_56_11 kw_56_12 kw_1_5 kw_56_13) rfl rfl rfl (by decide +kernel) ⟨Nat.le_of_ble_eq_true rfl, Nat.le_of_ble_eq_true rfl⟩) ⟨(tw_pre tw_all hP hD hK hN).1, va_recv hK hP (ci := 8) (q0 := 0) rfl rfl, (tw_pre tw_all hP hD hK hN).2⟩ rfl rfl hl.1 rfl (lv_room (Nat.le_of_ble_eq_true rfl)) dX8_got_19 ⟨Nat.le_of_ble_eq_true rfl, Nat.le_of_ble_eq_true rfl⟩) (fun _ _ H locs z8 hP hD hS => ?_)
    subst z8
    rw [List.append_nil] at hP hD
    have hP : va_P G vwCl (wM cA aa S L) H := hP
    have hD : va_D A (wM cA aa S L) := hD
    refine lv_icmp_ge (tgt := 38) hx hb dX8_got_22 (by decide) (fun c9 => ?_) (fun c9 => ?_)
    · have h := tx_pos c9 h
      exact w_X8_got_J38 F x1 S L H locs ls h hP hD hS (lv_sub hl [0, 1] rfl)
    · have h := tx_neg c9 h
      refine lv_aload_n hx hb dX8_got_25 rfl (lv_at hl 0 rfl) ?_
      refine va_get (D := G) (ci := 8) (v := .ref (aa 82)) (C := RX8) (T := TX8) (N := 91) hx hb hT ku_8 hown hK hP 0 rfl rfl 81 (by decide) (hT _ kw_11_8) (fun _ h9 => h9) rfl dX8_got_26 ?_
      refine lv_iload_n hx hb dX8_got_29 rfl (lv_at hl 2 rfl) ?_
      refine lv_iconst (v := 1) hx hb dX8_got_30 (by decide) ?_
      obtain ⟨g37, h⟩ := tx_ck h
      refine va_zast (i := x2) hx hb hK hP hD hS 45 1 rfl rfl (tx_in g37) dX8_got_31 (fun H locs hP hD hS => ?_)
      obtain ⟨S_38, eS_38, h⟩ := tx_lt h
      rw [sM_a81, eS_38] at hP hD
      obtain ⟨y39, ey39, h⟩ := tx_lt h
      refine lv_iinc (v := y39) (lv' := [(2, .int y39), (0, .ref (aa 0)), (1, .int x1)]) hx hb dX8_got_32 hl (k := 2) rfl ey39 (by decide) rfl (fun ls hl => ?_)
      refine lv_goto (tgt := 17) hx hb dX8_got_35 (by decide) ?_
      exact hk17 y39 S_38 H locs ls h hP hD hS (lv_sub hl [1, 2, 0] rfl)
set_option maxHeartbeats 4000000 in
set_option maxRecDepth 100000 in
theorem c_X8_got (l : Launch) (G : va_G) (cA : Nat → ClassId) (sz : Nat) (aa : Nat → Nat) (S : Tr) (L : Lo) (x1 : Int32)  (r0 : Int32) (S' : Tr) (L' : Lo) (h : f_X8_got S L x1 = some (r0, S', L')) : Met l yX8_got (.code yX8_got cX8_got 4 (some .int) :: T0) ({ frames := 8, cells := 0, slots := 0, locals := 192 } : Room) (tqP G cA [.ref (aa 0), .int x1] (wM cA aa S L) sz) (tqQi G cA (fun (r : Int32) (_ : Unit) => r = r0) (fun (_ : Unit) => wM cA aa S' L') (va_A (wM cA aa S L) sz)) 0 0 (va_A (wM cA aa S L) sz) := by
  refine Met.ofW (cc := cX8_got) (maxL := 4) (ret := (some .int)) (by decide) rfl ?_
  intro p e s m args below meth c s₁ B hml hv
  obtain ⟨rfl, hsz, hP, hK, hD0, hN⟩ := hv
  have hx := B.exec
  have hb := B.bytes
  have hr := B.returns
  have hts := atoms_spec (ws := .code yX8_got cX8_got 4 (some .int) :: T0) B.pre
  have hT : ∀ w ∈ T0, w.before _ s = true := fun w h => hts w (List.mem_cons_of_mem _ h)
  have hown : s.vm.findClass RX8 = some m.cls := findClass_of_methodNamed B.named
  have hlocks := B.notSynchronized
  subst hsz
  have hD := hD0.self (sz := s.heap.size)
  generalize hAe : va_A (wM cA aa S L) s.heap.size = A at hD ⊢
  have hA : ∀ q : Nat, s.heap.size ≤ q → A q := fun q h => by rw [← hAe]; exact Or.inr h
  have hS : va_S A s.heap s.heap [] := va_S.rf
  have hl := lv_entry ([.ref (aa 0), .int x1]) (n := 4) (Nat.le_of_ble_eq_true rfl)
  rw [lg_entry_eq]
  generalize (lg_sl ([.ref (aa 0), .int x1]) ++ List.replicate (4 - (lg_sl ([.ref (aa 0), .int x1])).length) Slot.unset).toArray = ls at hl ⊢
  have hl : lv_has ls 4 [(0, .ref (aa 0)), (1, .int x1)] := hl
  have F : tF p s m ([.ref (aa 0), .int x1] : List Value).toArray meth c G cA A RX8 cX8_got 4 (some .int) := ⟨hx, hb, hr, hml, hT, hown, hlocks, hK, hN, hA⟩
  obtain ⟨H, hH⟩ : ∃ z, z = s.heap := ⟨_, rfl⟩
  rw [← hH] at hP
  have hS : va_S A s.heap H [] := by rw [hH]; exact hS
  suffices hgo : G_X8_got p l e s m below meth c G cA A aa x1 r0 S' L' H [] (F0 m 0 ls []) by rw [hH] at hgo; exact hgo
  generalize ([] : List Loc) = locs at hS ⊢
  unfold f_X8_got at h
  refine lv_aload_n hx hb dX8_got_0 rfl (lv_at hl 0 rfl) ?_
  refine lv_iconst (v := 0) hx hb dX8_got_1 (by decide) ?_
  refine va_put (D := G) (ci := 8) (v := .int 0) (ty := .int) (C := RX8) (T := TX8) (N := 91) hx hb hT ku_8 tyX8 tyX8_ok nmX8 hown hK hP hD hS 0 rfl rfl 2 (by decide) (hT _ kw_14_0) (fun _ h9 => h9) rfl (by decide +kernel) rfl rfl (Nat.le_of_ble_eq_true rfl) dX8_got_2 (fun H locs hP hD hS => ?_)
  obtain ⟨S_1, eS_1, h⟩ := tx_lt h
  rw [sM_f2, eS_1] at hP hD
  refine lv_aload_n hx hb dX8_got_5 rfl (lv_at hl 0 rfl) ?_
  refine lv_iload_n hx hb dX8_got_6 rfl (lv_at hl 1 rfl) ?_
  obtain ⟨r2, hc3, h⟩ := tx_bd h
  refine tw_ci tw_all hP hD hS hA (va_runV (As := [.int x1]) (rest := []) ⟨hx, hb, hml, hown, hT⟩ (c_X8_isPerson l G cA H.size aa S_1 L x1  r2 hc3) (cwV 1 hT (tq_gV kw_29_12 kw_29_13 kw_29_14 kw_1_5 kw_29_15) rfl rfl rfl (by decide +kernel) ⟨Nat.le_of_ble_eq_true rfl, Nat.le_of_ble_eq_true rfl⟩) ⟨(tw_pre tw_all hP hD hK hN).1, va_recv hK hP (ci := 8) (q0 := 0) rfl rfl, (tw_pre tw_all hP hD hK hN).2⟩ rfl rfl hl.1 rfl (lv_room (Nat.le_of_ble_eq_true rfl)) dX8_got_7 ⟨Nat.le_of_ble_eq_true rfl, Nat.le_of_ble_eq_true rfl⟩) (fun _ _ H locs z4 hP hD hS => ?_)
  subst z4
  rw [List.append_nil] at hP hD
  have hP : va_P G vwCl (wM cA aa S_1 L) H := hP
  have hD : va_D A (wM cA aa S_1 L) := hD
  refine lv_if_ne (tgt := 15) hx hb dX8_got_10 (by decide) (fun c5 => ?_) (fun c5 => ?_)
  · have h := tx_neg c5 h
    refine lv_iconst (v := 0) hx hb dX8_got_15 (by decide) ?_
    refine lv_istore_n (lv' := [(2, .int 0), (0, .ref (aa 0)), (1, .int x1)]) hx hb dX8_got_16 rfl hl (by decide) rfl (fun ls hl => ?_)
    exact w_X8_got_L17 F 2000 0 S_1 H locs ls h hP hD hS (lv_sub hl [1, 2, 0] rfl)
  · have h := tx_pos c5 h
    refine lv_iconst (v := (-1)) hx hb dX8_got_13 (by decide) ?_
    obtain ⟨rfl, rfl, rfl⟩ := tx_3 h
    exact W.iret hx hb hr (fun t ht hW => ⟨⟨_, (), rfl, rfl, by rw [ht]; exact hP, hD⟩, hS.F ht⟩) hS.2.2 dX8_got_14
abbrev G_X8_put_84 (p : Program) (l : Launch) (e : Env) (s : State) (m : MethodId) (below : List Frame) (meth : Method) (c : Code) (G : va_G) (cA : Nat → ClassId) (A : Nat → Prop) (aa : Nat → Nat) (L : Lo) (x2 : Int32) (S' : Tr) (H : Heap) (locs : List Loc) (g : JFrame) : Prop := W p l e (headSpec (.code yX8_put cX8_put 4 none :: T0) ({ frames := 0, cells := 0, slots := 0, locals := 0 } : Room)).room s m ([.ref (aa 0), .ref (aa 84), .int x2] : List Value).toArray below meth c H locs 0 0 (MQ below (tqQv G cA (fun (_ : Unit) => True) (fun (_ : Unit) => wM cA aa S' L) A) ([.ref (aa 0), .ref (aa 84), .int x2] : List Value).toArray s 0 0 A) g
set_option maxHeartbeats 4000000 in
set_option maxRecDepth 100000 in
theorem w_X8_put_84_L54 {p : Program} {l : Launch} {e : Env} {s : State} {m : MethodId} {below : List Frame} {meth : Method} {c : Code} {G : va_G} {cA : Nat → ClassId} {A : Nat → Prop} {aa : Nat → Nat} {L : Lo} {x2₀ : Int32} {S' : Tr} {x2 : Int32} (F : tF p s m ([.ref (aa 0), .ref (aa 84), .int x2₀] : List Value).toArray meth c G cA A RX8 cX8_put 4 none)    (N : Nat) : ∀ (x3 : Int32) (S : Tr) (H : Heap) (locs : List Loc) (ls : Array Slot), lpF (fun _ _ => none) (fB_X8_put_84_L54 x2) N x3 S = some S' → va_P G vwCl (wM cA aa S L) H → va_D A (wM cA aa S L) → va_S A s.heap H locs → lv_has ls 4 [(0, .ref (aa 0)), (1, .ref (aa 84)), (2, .int x2), (3, .int x3)] → G_X8_put_84 p l e s m below meth c G cA A aa L x2₀ S' H locs (F0 m 54 ls []) := by
  obtain ⟨hx, hb, hr, hml, hT, hown, hlocks, hK, hN, hA⟩ := id F
  induction N with
  | zero =>
    intro x3 S H locs ls h
    have h : (none : Option (Tr)) = some S' := h
    cases h
  | succ N hk54 =>
    intro x3 S H locs ls h hP hD hS hl
    have h : fB_X8_put_84_L54 x2 (lpF (fun _ _ => none) (fB_X8_put_84_L54 x2) N) x3 S = some S' := h
    generalize hk54e : lpF (fun _ _ => none) (fB_X8_put_84_L54 x2) N = k54 at h hk54
    unfold fB_X8_put_84_L54 at h
    refine lv_iload_n hx hb dX8_put_54 rfl (lv_at hl 3 rfl) ?_
    refine lv_bipush (v := 6) hx hb dX8_put_55 (by decide) ?_
    refine lv_icmp_ge (tgt := 80) hx hb dX8_put_57 (by decide) (fun c3 => ?_) (fun c3 => ?_)
    · have h := tx_pos c3 h
      obtain rfl := tx_1 h
      exact W.vret hx hb hr (fun t ht hW => ⟨⟨(), rfl, trivial, by rw [ht]; exact hP, hD⟩, hS.F ht⟩) hS.2.2 dX8_put_80
    · have h := tx_neg c3 h
      refine lv_aload_n hx hb dX8_put_60 rfl (lv_at hl 1 rfl) ?_
      refine lv_iload_n hx hb dX8_put_61 rfl (lv_at hl 2 rfl) ?_
      refine lv_bipush (v := 55) hx hb dX8_put_62 (by decide) ?_
      refine lv_iadd hx hb dX8_put_64 ?_
      refine lv_iload_n hx hb dX8_put_65 rfl (lv_at hl 3 rfl) ?_
      refine lv_iadd hx hb dX8_put_66 ?_
      refine lv_aload_n hx hb dX8_put_67 rfl (lv_at hl 0 rfl) ?_
      refine va_get (D := G) (ci := 8) (v := .ref (aa 58)) (C := RX8) (T := TX8) (N := 91) hx hb hT ku_8 hown hK hP 0 rfl rfl 57 (by decide) (hT _ kw_10_18) (fun _ h9 => h9) rfl dX8_put_68 ?_
      refine lv_iload_n hx hb dX8_put_71 rfl (lv_at hl 3 rfl) ?_
      obtain ⟨g4, h⟩ := tx_ck h
      refine va_iald (i := x3) hx hb hK hP 32 0 rfl rfl (tx_in g4) dX8_put_72 ?_
      obtain ⟨g5, h⟩ := tx_ck h
      refine va_iast (i := ((x2 + 55) + x3)) hx hb hK hP hD hS 46 0 rfl rfl (tx_in g5) dX8_put_73 (fun H locs hP hD hS => ?_)
      obtain ⟨S_6, eS_6, h⟩ := tx_lt h
      rw [sM_a83, eS_6] at hP hD
      obtain ⟨y7, ey7, h⟩ := tx_lt h
      refine lv_iinc (v := y7) (lv' := [(3, .int y7), (0, .ref (aa 0)), (1, .ref (aa 84)), (2, .int x2)]) hx hb dX8_put_74 hl (k := 3) rfl ey7 (by decide) rfl (fun ls hl => ?_)
      refine lv_goto (tgt := 54) hx hb dX8_put_77 (by decide) ?_
      exact hk54 y7 S_6 H locs ls h hP hD hS (lv_sub hl [1, 2, 3, 0] rfl)
set_option maxHeartbeats 4000000 in
set_option maxRecDepth 100000 in
theorem w_X8_put_84_L27 {p : Program} {l : Launch} {e : Env} {s : State} {m : MethodId} {below : List Frame} {meth : Method} {c : Code} {G : va_G} {cA : Nat → ClassId} {A : Nat → Prop} {aa : Nat → Nat} {L : Lo} {x2₀ : Int32} {S' : Tr} {x2 : Int32} (F : tF p s m ([.ref (aa 0), .ref (aa 84), .int x2₀] : List Value).toArray meth c G cA A RX8 cX8_put 4 none)    (N : Nat) : ∀ (x3 : Int32) (S : Tr) (H : Heap) (locs : List Loc) (ls : Array Slot), lpF (fun _ _ => none) (fB_X8_put_84_L27 x2) N x3 S = some S' → va_P G vwCl (wM cA aa S L) H → va_D A (wM cA aa S L) → va_S A s.heap H locs → lv_has ls 4 [(0, .ref (aa 0)), (1, .ref (aa 84)), (2, .int x2), (3, .int x3)] → G_X8_put_84 p l e s m below meth c G cA A aa L x2₀ S' H locs (F0 m 27 ls []) := by
  obtain ⟨hx, hb, hr, hml, hT, hown, hlocks, hK, hN, hA⟩ := id F
  induction N with
  | zero =>
    intro x3 S H locs ls h
    have h : (none : Option (Tr)) = some S' := h
    cases h
  | succ N hk27 =>
    intro x3 S H locs ls h hP hD hS hl
    have h : fB_X8_put_84_L27 x2 (lpF (fun _ _ => none) (fB_X8_put_84_L27 x2) N) x3 S = some S' := h
    generalize hk27e : lpF (fun _ _ => none) (fB_X8_put_84_L27 x2) N = k27 at h hk27
    unfold fB_X8_put_84_L27 at h
    refine lv_iload_n hx hb dX8_put_27 rfl (lv_at hl 3 rfl) ?_
    refine lv_iconst (v := 5) hx hb dX8_put_28 (by decide) ?_
    refine lv_icmp_ge (tgt := 52) hx hb dX8_put_29 (by decide) (fun c2 => ?_) (fun c2 => ?_)
    · have h := tx_pos c2 h
      refine lv_iconst (v := 0) hx hb dX8_put_52 (by decide) ?_
      refine lv_istore_n (lv' := [(3, .int 0), (0, .ref (aa 0)), (1, .ref (aa 84)), (2, .int x2)]) hx hb dX8_put_53 rfl hl (by decide) rfl (fun ls hl => ?_)
      exact w_X8_put_84_L54 F 2000 0 S H locs ls h hP hD hS (lv_sub hl [1, 2, 3, 0] rfl)
    · have h := tx_neg c2 h
      refine lv_aload_n hx hb dX8_put_32 rfl (lv_at hl 1 rfl) ?_
      refine lv_iload_n hx hb dX8_put_33 rfl (lv_at hl 2 rfl) ?_
      refine lv_bipush (v := 50) hx hb dX8_put_34 (by decide) ?_
      refine lv_iadd hx hb dX8_put_36 ?_
      refine lv_iload_n hx hb dX8_put_37 rfl (lv_at hl 3 rfl) ?_
      refine lv_iadd hx hb dX8_put_38 ?_
      refine lv_aload_n hx hb dX8_put_39 rfl (lv_at hl 0 rfl) ?_
      refine va_get (D := G) (ci := 8) (v := .ref (aa 56)) (C := RX8) (T := TX8) (N := 91) hx hb hT ku_8 hown hK hP 0 rfl rfl 55 (by decide) (hT _ kw_10_16) (fun _ h9 => h9) rfl dX8_put_40 ?_
      refine lv_iload_n hx hb dX8_put_43 rfl (lv_at hl 3 rfl) ?_
      obtain ⟨g8, h⟩ := tx_ck h
      refine va_iald (i := x3) hx hb hK hP 30 0 rfl rfl (tx_in g8) dX8_put_44 ?_
      obtain ⟨g9, h⟩ := tx_ck h
      refine va_iast (i := ((x2 + 50) + x3)) hx hb hK hP hD hS 46 0 rfl rfl (tx_in g9) dX8_put_45 (fun H locs hP hD hS => ?_)
      obtain ⟨S_10, eS_10, h⟩ := tx_lt h
      rw [sM_a83, eS_10] at hP hD
      obtain ⟨y11, ey11, h⟩ := tx_lt h
      refine lv_iinc (v := y11) (lv' := [(3, .int y11), (0, .ref (aa 0)), (1, .ref (aa 84)), (2, .int x2)]) hx hb dX8_put_46 hl (k := 3) rfl ey11 (by decide) rfl (fun ls hl => ?_)
      refine lv_goto (tgt := 27) hx hb dX8_put_49 (by decide) ?_
      exact hk27 y11 S_10 H locs ls h hP hD hS (lv_sub hl [1, 2, 3, 0] rfl)
set_option maxHeartbeats 4000000 in
set_option maxRecDepth 100000 in
theorem w_X8_put_84_L2 {p : Program} {l : Launch} {e : Env} {s : State} {m : MethodId} {below : List Frame} {meth : Method} {c : Code} {G : va_G} {cA : Nat → ClassId} {A : Nat → Prop} {aa : Nat → Nat} {L : Lo} {x2₀ : Int32} {S' : Tr} {x2 : Int32} (F : tF p s m ([.ref (aa 0), .ref (aa 84), .int x2₀] : List Value).toArray meth c G cA A RX8 cX8_put 4 none)    (N : Nat) : ∀ (x3 : Int32) (S : Tr) (H : Heap) (locs : List Loc) (ls : Array Slot), lpF (fun _ _ => none) (fB_X8_put_84_L2 x2) N x3 S = some S' → va_P G vwCl (wM cA aa S L) H → va_D A (wM cA aa S L) → va_S A s.heap H locs → lv_has ls 4 [(0, .ref (aa 0)), (1, .ref (aa 84)), (2, .int x2), (3, .int x3)] → G_X8_put_84 p l e s m below meth c G cA A aa L x2₀ S' H locs (F0 m 2 ls []) := by
  obtain ⟨hx, hb, hr, hml, hT, hown, hlocks, hK, hN, hA⟩ := id F
  induction N with
  | zero =>
    intro x3 S H locs ls h
    have h : (none : Option (Tr)) = some S' := h
    cases h
  | succ N hk2 =>
    intro x3 S H locs ls h hP hD hS hl
    have h : fB_X8_put_84_L2 x2 (lpF (fun _ _ => none) (fB_X8_put_84_L2 x2) N) x3 S = some S' := h
    generalize hk2e : lpF (fun _ _ => none) (fB_X8_put_84_L2 x2) N = k2 at h hk2
    unfold fB_X8_put_84_L2 at h
    refine lv_iload_n hx hb dX8_put_2 rfl (lv_at hl 3 rfl) ?_
    refine lv_bipush (v := 50) hx hb dX8_put_3 (by decide) ?_
    refine lv_icmp_ge (tgt := 25) hx hb dX8_put_5 (by decide) (fun c1 => ?_) (fun c1 => ?_)
    · have h := tx_pos c1 h
      refine lv_iconst (v := 0) hx hb dX8_put_25 (by decide) ?_
      refine lv_istore_n (lv' := [(3, .int 0), (0, .ref (aa 0)), (1, .ref (aa 84)), (2, .int x2)]) hx hb dX8_put_26 rfl hl (by decide) rfl (fun ls hl => ?_)
      exact w_X8_put_84_L27 F 2000 0 S H locs ls h hP hD hS (lv_sub hl [1, 2, 3, 0] rfl)
    · have h := tx_neg c1 h
      refine lv_aload_n hx hb dX8_put_8 rfl (lv_at hl 1 rfl) ?_
      refine lv_iload_n hx hb dX8_put_9 rfl (lv_at hl 2 rfl) ?_
      refine lv_iload_n hx hb dX8_put_10 rfl (lv_at hl 3 rfl) ?_
      refine lv_iadd hx hb dX8_put_11 ?_
      refine lv_aload_n hx hb dX8_put_12 rfl (lv_at hl 0 rfl) ?_
      refine va_get (D := G) (ci := 8) (v := .ref (aa 55)) (C := RX8) (T := TX8) (N := 91) hx hb hT ku_8 hown hK hP 0 rfl rfl 54 (by decide) (hT _ kw_10_15) (fun _ h9 => h9) rfl dX8_put_13 ?_
      refine lv_iload_n hx hb dX8_put_16 rfl (lv_at hl 3 rfl) ?_
      obtain ⟨g12, h⟩ := tx_ck h
      refine va_iald (i := x3) hx hb hK hP 29 0 rfl rfl (tx_in g12) dX8_put_17 ?_
      obtain ⟨g13, h⟩ := tx_ck h
      refine va_iast (i := (x2 + x3)) hx hb hK hP hD hS 46 0 rfl rfl (tx_in g13) dX8_put_18 (fun H locs hP hD hS => ?_)
      obtain ⟨S_14, eS_14, h⟩ := tx_lt h
      rw [sM_a83, eS_14] at hP hD
      obtain ⟨y15, ey15, h⟩ := tx_lt h
      refine lv_iinc (v := y15) (lv' := [(3, .int y15), (0, .ref (aa 0)), (1, .ref (aa 84)), (2, .int x2)]) hx hb dX8_put_19 hl (k := 3) rfl ey15 (by decide) rfl (fun ls hl => ?_)
      refine lv_goto (tgt := 2) hx hb dX8_put_22 (by decide) ?_
      exact hk2 y15 S_14 H locs ls h hP hD hS (lv_sub hl [1, 2, 3, 0] rfl)
set_option maxHeartbeats 4000000 in
set_option maxRecDepth 100000 in
theorem c_X8_put_84 (l : Launch) (G : va_G) (cA : Nat → ClassId) (sz : Nat) (aa : Nat → Nat) (S : Tr) (L : Lo) (x2 : Int32)  (S' : Tr) (h : f_X8_put_84 S x2 = some S') : Met l yX8_put (.code yX8_put cX8_put 4 none :: T0) ({ frames := 0, cells := 0, slots := 0, locals := 0 } : Room) (tqP G cA [.ref (aa 0), .ref (aa 84), .int x2] (wM cA aa S L) sz) (tqQv G cA (fun (_ : Unit) => True) (fun (_ : Unit) => wM cA aa S' L) (va_A (wM cA aa S L) sz)) 0 0 (va_A (wM cA aa S L) sz) := by
  refine Met.ofW (cc := cX8_put) (maxL := 4) (ret := none) (by decide) rfl ?_
  intro p e s m args below meth c s₁ B hml hv
  obtain ⟨rfl, hsz, hP, hK, hD0, hN⟩ := hv
  have hx := B.exec
  have hb := B.bytes
  have hr := B.returns
  have hts := atoms_spec (ws := .code yX8_put cX8_put 4 none :: T0) B.pre
  have hT : ∀ w ∈ T0, w.before _ s = true := fun w h => hts w (List.mem_cons_of_mem _ h)
  have hown : s.vm.findClass RX8 = some m.cls := findClass_of_methodNamed B.named
  have hlocks := B.notSynchronized
  subst hsz
  have hD := hD0.self (sz := s.heap.size)
  generalize hAe : va_A (wM cA aa S L) s.heap.size = A at hD ⊢
  have hA : ∀ q : Nat, s.heap.size ≤ q → A q := fun q h => by rw [← hAe]; exact Or.inr h
  have hS : va_S A s.heap s.heap [] := va_S.rf
  have hl := lv_entry ([.ref (aa 0), .ref (aa 84), .int x2]) (n := 4) (Nat.le_of_ble_eq_true rfl)
  rw [lg_entry_eq]
  generalize (lg_sl ([.ref (aa 0), .ref (aa 84), .int x2]) ++ List.replicate (4 - (lg_sl ([.ref (aa 0), .ref (aa 84), .int x2])).length) Slot.unset).toArray = ls at hl ⊢
  have hl : lv_has ls 4 [(0, .ref (aa 0)), (1, .ref (aa 84)), (2, .int x2)] := hl
  have F : tF p s m ([.ref (aa 0), .ref (aa 84), .int x2] : List Value).toArray meth c G cA A RX8 cX8_put 4 none := ⟨hx, hb, hr, hml, hT, hown, hlocks, hK, hN, hA⟩
  obtain ⟨H, hH⟩ : ∃ z, z = s.heap := ⟨_, rfl⟩
  rw [← hH] at hP
  have hS : va_S A s.heap H [] := by rw [hH]; exact hS
  suffices hgo : G_X8_put_84 p l e s m below meth c G cA A aa L x2 S' H [] (F0 m 0 ls []) by rw [hH] at hgo; exact hgo
  generalize ([] : List Loc) = locs at hS ⊢
  unfold f_X8_put_84 at h
  refine lv_iconst (v := 0) hx hb dX8_put_0 (by decide) ?_
  refine lv_istore_n (lv' := [(3, .int 0), (0, .ref (aa 0)), (1, .ref (aa 84)), (2, .int x2)]) hx hb dX8_put_1 rfl hl (by decide) rfl (fun ls hl => ?_)
  exact w_X8_put_84_L2 F 2000 0 S H locs ls h hP hD hS (lv_sub hl [1, 2, 3, 0] rfl)
abbrev G_X8_remember (p : Program) (l : Launch) (e : Env) (s : State) (m : MethodId) (below : List Frame) (meth : Method) (c : Code) (G : va_G) (cA : Nat → ClassId) (A : Nat → Prop) (aa : Nat → Nat) (L : Lo) (S' : Tr) (H : Heap) (locs : List Loc) (g : JFrame) : Prop := W p l e (headSpec (.code yX8_remember cX8_remember 2 none :: T0) ({ frames := 1, cells := 0, slots := 0, locals := 23 } : Room)).room s m ([.ref (aa 0)] : List Value).toArray below meth c H locs 0 0 (MQ below (tqQv G cA (fun (_ : Unit) => True) (fun (_ : Unit) => wM cA aa S' L) A) ([.ref (aa 0)] : List Value).toArray s 0 0 A) g
set_option maxHeartbeats 4000000 in
set_option maxRecDepth 100000 in
theorem w_X8_remember_J49 {p : Program} {l : Launch} {e : Env} {s : State} {m : MethodId} {below : List Frame} {meth : Method} {c : Code} {G : va_G} {cA : Nat → ClassId} {A : Nat → Prop} {aa : Nat → Nat} {L : Lo} {S' : Tr} (F : tF p s m ([.ref (aa 0)] : List Value).toArray meth c G cA A RX8 cX8_remember 2 none)    (S : Tr) (H : Heap) (locs : List Loc) (ls : Array Slot) (h : fJ_X8_remember_J49 S = some S') (hP : va_P G vwCl (wM cA aa S_5 L) H) (hD : va_D A (wM cA aa S_5 L)) (hS : va_S A s.heap H locs) (hl : lv_has ls 2 [(0, .ref (aa 0))]) : G_X8_remember p l e s m below meth c G cA A aa L S' H locs (F0 m 49 ls []) := by
  obtain ⟨hx, hb, hr, hml, hT, hown, hlocks, hK, hN, hA⟩ := id F
  unfold fJ_X8_remember_J49 at h
  refine lv_aload_n hx hb dX8_remember_49 rfl (lv_at hl 0 rfl) ?_
  refine lv_aload_n hx hb dX8_remember_50 rfl (lv_at hl 0 rfl) ?_
  refine va_get (D := G) (ci := 8) (v := .ref (aa 84)) (C := RX8) (T := TX8) (N := 91) hx hb hT ku_8 hown hK hP 0 rfl rfl 83 (by decide) (hT _ kw_11_9) (fun _ h9 => h9) rfl dX8_remember_51 ?_
  refine lv_bipush (v := 61) hx hb dX8_remember_54 (by decide) ?_
  refine lv_aload_n hx hb dX8_remember_56 rfl (lv_at hl 0 rfl) ?_
  refine va_get (D := G) (ci := 8) (v := .int (S 0 82)) (C := RX8) (T := TX8) (N := 91) hx hb hT ku_8 hown hK hP 0 rfl rfl 82 (by decide) (hT _ kw_12_16) (fun _ h9 => h9) rfl dX8_remember_57 ?_
  refine lv_imul hx hb dX8_remember_60 ?_
  obtain ⟨S_2, hc3, h⟩ := tx_bd h
  refine tw_cv tw_all hP hD hS hA (va_runV (As := [.ref (aa 84), .int ((61 : Int32) * (S 0 82))]) (rest := []) ⟨hx, hb, hml, hown, hT⟩ (c_X8_put_84 l G cA H.size aa S L ((61 : Int32) * (S 0 82))  S_2 hc3) (cwV 2 hT (tq_gV kw_37_14 kw_37_15 kw_37_16 kw_1_5 kw_37_17) rfl rfl rfl (by decide +kernel) ⟨Nat.le_of_ble_eq_true rfl, Nat.le_of_ble_eq_true rfl⟩) ⟨(tw_pre tw_all hP hD hK hN).1, va_recv hK hP (ci := 8) (q0 := 0) rfl rfl, (tw_pre tw_all hP hD hK hN).2⟩ rfl rfl hl.1 rfl (lv_room (Nat.le_of_ble_eq_true rfl)) dX8_remember_61 ⟨Nat.le_of_ble_eq_true rfl, Nat.le_of_ble_eq_true rfl⟩) (fun _ H locs z4 hP hD hS => ?_)
  rw [List.append_nil] at hP hD
  have hP : va_P G vwCl (wM cA aa S_2 L) H := hP
  have hD : va_D A (wM cA aa S_2 L) := hD
  refine lv_aload_n hx hb dX8_remember_64 rfl (lv_at hl 0 rfl) ?_
  refine lv_dup hx hb dX8_remember_65 rfl ?_
  refine va_get (D := G) (ci := 8) (v := .int (S_2 0 82)) (C := RX8) (T := TX8) (N := 91) hx hb hT ku_8 hown hK hP 0 rfl rfl 82 (by decide) (hT _ kw_12_16) (fun _ h9 => h9) rfl dX8_remember_66 ?_
  refine lv_iconst (v := 1) hx hb dX8_remember_69 (by decide) ?_
  refine lv_iadd hx hb dX8_remember_70 ?_
  refine va_put (D := G) (ci := 8) (v := .int ((S_2 0 82) + 1)) (ty := .int) (C := RX8) (T := TX8) (N := 91) hx hb hT ku_8 tyX8 tyX8_ok nmX8 hown hK hP hD hS 0 rfl rfl 82 (by decide) (hT _ kw_12_16) (fun _ h9 => h9) rfl (by decide +kernel) rfl rfl (Nat.le_of_ble_eq_true rfl) dX8_remember_71 (fun H locs hP hD hS => ?_)
  obtain ⟨S_5, eS_5, h⟩ := tx_lt h
  rw [sM_f82, eS_5] at hP hD
  obtain rfl := tx_1 h
  exact W.vret hx hb hr (fun t ht hW => ⟨⟨(), rfl, trivial, by rw [ht]; exact hP, hD⟩, hS.F ht⟩) hS.2.2 dX8_remember_74
set_option maxHeartbeats 4000000 in
set_option maxRecDepth 100000 in
theorem w_X8_remember_J39 {p : Program} {l : Launch} {e : Env} {s : State} {m : MethodId} {below : List Frame} {meth : Method} {c : Code} {G : va_G} {cA : Nat → ClassId} {A : Nat → Prop} {aa : Nat → Nat} {L : Lo} {S' : Tr} (F : tF p s m ([.ref (aa 0)] : List Value).toArray meth c G cA A RX8 cX8_remember 2 none)    (S : Tr) (H : Heap) (locs : List Loc) (ls : Array Slot) (h : fJ_X8_remember_J39 S = some S') (hP : va_P G vwCl (wM cA aa S_7 L) H) (hD : va_D A (wM cA aa S_7 L)) (hS : va_S A s.heap H locs) (hl : lv_has ls 2 [(0, .ref (aa 0))]) : G_X8_remember p l e s m below meth c G cA A aa L S' H locs (F0 m 39 ls []) := by
  obtain ⟨hx, hb, hr, hml, hT, hown, hlocks, hK, hN, hA⟩ := id F
  unfold fJ_X8_remember_J39 at h
  refine lv_aload_n hx hb dX8_remember_39 rfl (lv_at hl 0 rfl) ?_
  refine lv_dup hx hb dX8_remember_40 rfl ?_
  refine va_get (D := G) (ci := 8) (v := .int (S 0 82)) (C := RX8) (T := TX8) (N := 91) hx hb hT ku_8 hown hK hP 0 rfl rfl 82 (by decide) (hT _ kw_12_16) (fun _ h9 => h9) rfl dX8_remember_41 ?_
  refine lv_iconst (v := 1) hx hb dX8_remember_44 (by decide) ?_
  refine lv_isub hx hb dX8_remember_45 ?_
  refine va_put (D := G) (ci := 8) (v := .int ((S 0 82) - 1)) (ty := .int) (C := RX8) (T := TX8) (N := 91) hx hb hT ku_8 tyX8 tyX8_ok nmX8 hown hK hP hD hS 0 rfl rfl 82 (by decide) (hT _ kw_12_16) (fun _ h9 => h9) rfl (by decide +kernel) rfl rfl (Nat.le_of_ble_eq_true rfl) dX8_remember_46 (fun H locs hP hD hS => ?_)
  obtain ⟨S_7, eS_7, h⟩ := tx_lt h
  rw [sM_f82, eS_7] at hP hD
  exact w_X8_remember_J49 F S_7 H locs ls h hP hD hS (lv_sub hl [0] rfl)
set_option maxHeartbeats 4000000 in
set_option maxRecDepth 100000 in
theorem w_X8_remember_L11 {p : Program} {l : Launch} {e : Env} {s : State} {m : MethodId} {below : List Frame} {meth : Method} {c : Code} {G : va_G} {cA : Nat → ClassId} {A : Nat → Prop} {aa : Nat → Nat} {L : Lo} {S' : Tr} (F : tF p s m ([.ref (aa 0)] : List Value).toArray meth c G cA A RX8 cX8_remember 2 none)    (N : Nat) : ∀ (x1 : Int32) (S : Tr) (H : Heap) (locs : List Loc) (ls : Array Slot), lpF (fun _ _ => none) (fB_X8_remember_L11 ) N x1 S = some S' → va_P G vwCl (wM cA aa S L) H → va_D A (wM cA aa S L) → va_S A s.heap H locs → lv_has ls 2 [(0, .ref (aa 0)), (1, .int x1)] → G_X8_remember p l e s m below meth c G cA A aa L S' H locs (F0 m 11 ls []) := by
  obtain ⟨hx, hb, hr, hml, hT, hown, hlocks, hK, hN, hA⟩ := id F
  induction N with
  | zero =>
    intro x1 S H locs ls h
    have h : (none : Option (Tr)) = some S' := h
    cases h
  | succ N hk11 =>
    intro x1 S H locs ls h hP hD hS hl
    have h : fB_X8_remember_L11  (lpF (fun _ _ => none) (fB_X8_remember_L11 ) N) x1 S = some S' := h
    generalize hk11e : lpF (fun _ _ => none) (fB_X8_remember_L11 ) N = k11 at h hk11
    unfold fB_X8_remember_L11 at h
    refine lv_iload_n hx hb dX8_remember_11 rfl (lv_at hl 1 rfl) ?_
    refine lv_sipush (v := 1159) hx hb dX8_remember_12 (by decide) ?_
    refine lv_icmp_ge (tgt := 39) hx hb dX8_remember_15 (by decide) (fun c6 => ?_) (fun c6 => ?_)
    · have h := tx_pos c6 h
      exact w_X8_remember_J39 F S H locs ls h hP hD hS (lv_sub hl [0] rfl)
    · have h := tx_neg c6 h
      refine lv_aload_n hx hb dX8_remember_18 rfl (lv_at hl 0 rfl) ?_
      refine va_get (D := G) (ci := 8) (v := .ref (aa 84)) (C := RX8) (T := TX8) (N := 91) hx hb hT ku_8 hown hK hP 0 rfl rfl 83 (by decide) (hT _ kw_11_9) (fun _ h9 => h9) rfl dX8_remember_19 ?_
      refine lv_iload_n hx hb dX8_remember_22 rfl (lv_at hl 1 rfl) ?_
      refine lv_aload_n hx hb dX8_remember_23 rfl (lv_at hl 0 rfl) ?_
      refine va_get (D := G) (ci := 8) (v := .ref (aa 84)) (C := RX8) (T := TX8) (N := 91) hx hb hT ku_8 hown hK hP 0 rfl rfl 83 (by decide) (hT _ kw_11_9) (fun _ h9 => h9) rfl dX8_remember_24 ?_
      refine lv_iload_n hx hb dX8_remember_27 rfl (lv_at hl 1 rfl) ?_
      refine lv_bipush (v := 61) hx hb dX8_remember_28 (by decide) ?_
      refine lv_iadd hx hb dX8_remember_30 ?_
      obtain ⟨g8, h⟩ := tx_ck h
      refine va_iald (i := (x1 + 61)) hx hb hK hP 46 0 rfl rfl (tx_in g8) dX8_remember_31 ?_
      obtain ⟨g9, h⟩ := tx_ck h
      refine va_iast (i := x1) hx hb hK hP hD hS 46 0 rfl rfl (tx_in g9) dX8_remember_32 (fun H locs hP hD hS => ?_)
      obtain ⟨S_10, eS_10, h⟩ := tx_lt h
      rw [sM_a83, eS_10] at hP hD
      obtain ⟨y11, ey11, h⟩ := tx_lt h
      refine lv_iinc (v := y11) (lv' := [(1, .int y11), (0, .ref (aa 0))]) hx hb dX8_remember_33 hl (k := 1) rfl ey11 (by decide) rfl (fun ls hl => ?_)
      refine lv_goto (tgt := 11) hx hb dX8_remember_36 (by decide) ?_
      exact hk11 y11 S_10 H locs ls h hP hD hS (lv_sub hl [1, 0] rfl)
set_option maxHeartbeats 4000000 in
set_option maxRecDepth 100000 in
theorem c_X8_remember (l : Launch) (G : va_G) (cA : Nat → ClassId) (sz : Nat) (aa : Nat → Nat) (S : Tr) (L : Lo)  (S' : Tr) (h : f_X8_remember S = some S') : Met l yX8_remember (.code yX8_remember cX8_remember 2 none :: T0) ({ frames := 1, cells := 0, slots := 0, locals := 23 } : Room) (tqP G cA [.ref (aa 0)] (wM cA aa S L) sz) (tqQv G cA (fun (_ : Unit) => True) (fun (_ : Unit) => wM cA aa S' L) (va_A (wM cA aa S L) sz)) 0 0 (va_A (wM cA aa S L) sz) := by
  refine Met.ofW (cc := cX8_remember) (maxL := 2) (ret := none) (by decide) rfl ?_
  intro p e s m args below meth c s₁ B hml hv
  obtain ⟨rfl, hsz, hP, hK, hD0, hN⟩ := hv
  have hx := B.exec
  have hb := B.bytes
  have hr := B.returns
  have hts := atoms_spec (ws := .code yX8_remember cX8_remember 2 none :: T0) B.pre
  have hT : ∀ w ∈ T0, w.before _ s = true := fun w h => hts w (List.mem_cons_of_mem _ h)
  have hown : s.vm.findClass RX8 = some m.cls := findClass_of_methodNamed B.named
  have hlocks := B.notSynchronized
  subst hsz
  have hD := hD0.self (sz := s.heap.size)
  generalize hAe : va_A (wM cA aa S L) s.heap.size = A at hD ⊢
  have hA : ∀ q : Nat, s.heap.size ≤ q → A q := fun q h => by rw [← hAe]; exact Or.inr h
  have hS : va_S A s.heap s.heap [] := va_S.rf
  have hl := lv_entry ([.ref (aa 0)]) (n := 2) (Nat.le_of_ble_eq_true rfl)
  rw [lg_entry_eq]
  generalize (lg_sl ([.ref (aa 0)]) ++ List.replicate (2 - (lg_sl ([.ref (aa 0)])).length) Slot.unset).toArray = ls at hl ⊢
  have hl : lv_has ls 2 [(0, .ref (aa 0))] := hl
  have F : tF p s m ([.ref (aa 0)] : List Value).toArray meth c G cA A RX8 cX8_remember 2 none := ⟨hx, hb, hr, hml, hT, hown, hlocks, hK, hN, hA⟩
  obtain ⟨H, hH⟩ : ∃ z, z = s.heap := ⟨_, rfl⟩
  rw [← hH] at hP
  have hS : va_S A s.heap H [] := by rw [hH]; exact hS
  suffices hgo : G_X8_remember p l e s m below meth c G cA A aa L S' H [] (F0 m 0 ls []) by rw [hH] at hgo; exact hgo
  generalize ([] : List Loc) = locs at hS ⊢
  unfold f_X8_remember at h
  refine lv_aload_n hx hb dX8_remember_0 rfl (lv_at hl 0 rfl) ?_
  refine va_get (D := G) (ci := 8) (v := .int (S 0 82)) (C := RX8) (T := TX8) (N := 91) hx hb hT ku_8 hown hK hP 0 rfl rfl 82 (by decide) (hT _ kw_12_16) (fun _ h9 => h9) rfl dX8_remember_1 ?_
  refine lv_bipush (v := 20) hx hb dX8_remember_4 (by decide) ?_
  refine lv_icmp_ne (tgt := 49) hx hb dX8_remember_6 (by decide) (fun c1 => ?_) (fun c1 => ?_)
  · have h := tx_neg c1 h
    exact w_X8_remember_J49 F S H locs ls h hP hD hS (lv_sub hl [0] rfl)
  · have h := tx_pos c1 h
    refine lv_iconst (v := 0) hx hb dX8_remember_9 (by decide) ?_
    refine lv_istore_n (lv' := [(1, .int 0), (0, .ref (aa 0))]) hx hb dX8_remember_10 rfl hl (by decide) rfl (fun ls hl => ?_)
    exact w_X8_remember_L11 F 2000 0 S H locs ls h hP hD hS (lv_sub hl [1, 0] rfl)
abbrev G_X8_help (p : Program) (l : Launch) (e : Env) (s : State) (m : MethodId) (below : List Frame) (meth : Method) (c : Code) (G : va_G) (cA : Nat → ClassId) (A : Nat → Prop) (aa : Nat → Nat) (L : Lo) (x1 : Int32) (x2 : Int32) (r0 : Int32) (S' : Tr) (H : Heap) (locs : List Loc) (g : JFrame) : Prop := W p l e (headSpec (.code yX8_help cX8_help 3 (some .boolean) :: T0) ({ frames := 2, cells := 0, slots := 0, locals := 44 } : Room)).room s m ([.ref (aa 0), .int x1, .int x2] : List Value).toArray below meth c H locs 0 0 (MQ below (tqQi G cA (fun (r : Int32) (_ : Unit) => r = r0) (fun (_ : Unit) => wM cA aa S' L) A) ([.ref (aa 0), .int x1, .int x2] : List Value).toArray s 0 0 A) g
set_option maxHeartbeats 4000000 in
set_option maxRecDepth 100000 in
theorem c_X8_help (l : Launch) (G : va_G) (cA : Nat → ClassId) (sz : Nat) (aa : Nat → Nat) (S : Tr) (L : Lo) (x1 : Int32) (x2 : Int32)  (r0 : Int32) (S' : Tr) (h : f_X8_help S x1 x2 = some (r0, S')) : Met l yX8_help (.code yX8_help cX8_help 3 (some .boolean) :: T0) ({ frames := 2, cells := 0, slots := 0, locals := 44 } : Room) (tqP G cA [.ref (aa 0), .int x1, .int x2] (wM cA aa S L) sz) (tqQi G cA (fun (r : Int32) (_ : Unit) => r = r0) (fun (_ : Unit) => wM cA aa S' L) (va_A (wM cA aa S L) sz)) 0 0 (va_A (wM cA aa S L) sz) := by
  refine Met.ofW (cc := cX8_help) (maxL := 3) (ret := (some .boolean)) (by decide) rfl ?_
  intro p e s m args below meth c s₁ B hml hv
  obtain ⟨rfl, hsz, hP, hK, hD0, hN⟩ := hv
  have hx := B.exec
  have hb := B.bytes
  have hr := B.returns
  have hts := atoms_spec (ws := .code yX8_help cX8_help 3 (some .boolean) :: T0) B.pre
  have hT : ∀ w ∈ T0, w.before _ s = true := fun w h => hts w (List.mem_cons_of_mem _ h)
  have hown : s.vm.findClass RX8 = some m.cls := findClass_of_methodNamed B.named
  have hlocks := B.notSynchronized
  subst hsz
  have hD := hD0.self (sz := s.heap.size)
  generalize hAe : va_A (wM cA aa S L) s.heap.size = A at hD ⊢
  have hA : ∀ q : Nat, s.heap.size ≤ q → A q := fun q h => by rw [← hAe]; exact Or.inr h
  have hS : va_S A s.heap s.heap [] := va_S.rf
  have hl := lv_entry ([.ref (aa 0), .int x1, .int x2]) (n := 3) (Nat.le_of_ble_eq_true rfl)
  rw [lg_entry_eq]
  generalize (lg_sl ([.ref (aa 0), .int x1, .int x2]) ++ List.replicate (3 - (lg_sl ([.ref (aa 0), .int x1, .int x2])).length) Slot.unset).toArray = ls at hl ⊢
  have hl : lv_has ls 3 [(0, .ref (aa 0)), (1, .int x1), (2, .int x2)] := hl
  have F : tF p s m ([.ref (aa 0), .int x1, .int x2] : List Value).toArray meth c G cA A RX8 cX8_help 3 (some .boolean) := ⟨hx, hb, hr, hml, hT, hown, hlocks, hK, hN, hA⟩
  obtain ⟨H, hH⟩ : ∃ z, z = s.heap := ⟨_, rfl⟩
  rw [← hH] at hP
  have hS : va_S A s.heap H [] := by rw [hH]; exact hS
  suffices hgo : G_X8_help p l e s m below meth c G cA A aa L x1 x2 r0 S' H [] (F0 m 0 ls []) by rw [hH] at hgo; exact hgo
  generalize ([] : List Loc) = locs at hS ⊢
  unfold f_X8_help at h
  refine lv_aload_n hx hb dX8_help_0 rfl (lv_at hl 0 rfl) ?_
  refine lv_iconst (v := 0) hx hb dX8_help_1 (by decide) ?_
  refine va_put (D := G) (ci := 8) (v := .int 0) (ty := .int) (C := RX8) (T := TX8) (N := 91) hx hb hT ku_8 tyX8 tyX8_ok nmX8 hown hK hP hD hS 0 rfl rfl 2 (by decide) (hT _ kw_14_0) (fun _ h9 => h9) rfl (by decide +kernel) rfl rfl (Nat.le_of_ble_eq_true rfl) dX8_help_2 (fun H locs hP hD hS => ?_)
  obtain ⟨S_1, eS_1, h⟩ := tx_lt h
  rw [sM_f2, eS_1] at hP hD
  refine lv_aload_n hx hb dX8_help_5 rfl (lv_at hl 0 rfl) ?_
  refine lv_iload_n hx hb dX8_help_6 rfl (lv_at hl 1 rfl) ?_
  obtain ⟨r2, hc3, h⟩ := tx_bd h
  refine tw_ci tw_all hP hD hS hA (va_runV (As := [.int x1]) (rest := []) ⟨hx, hb, hml, hown, hT⟩ (c_X8_isPerson l G cA H.size aa S_1 L x1  r2 hc3) (cwV 1 hT (tq_gV kw_29_12 kw_29_13 kw_29_14 kw_1_5 kw_29_15) rfl rfl rfl (by decide +kernel) ⟨Nat.le_of_ble_eq_true rfl, Nat.le_of_ble_eq_true rfl⟩) ⟨(tw_pre tw_all hP hD hK hN).1, va_recv hK hP (ci := 8) (q0 := 0) rfl rfl, (tw_pre tw_all hP hD hK hN).2⟩ rfl rfl hl.1 rfl (lv_room (Nat.le_of_ble_eq_true rfl)) dX8_help_7 ⟨Nat.le_of_ble_eq_true rfl, Nat.le_of_ble_eq_true rfl⟩) (fun _ _ H locs z4 hP hD hS => ?_)
  subst z4
  rw [List.append_nil] at hP hD
  have hP : va_P G vwCl (wM cA aa S_1 L) H := hP
  have hD : va_D A (wM cA aa S_1 L) := hD
  refine lv_if_eq (tgt := 33) hx hb dX8_help_10 (by decide) (fun c5 => ?_) (fun c5 => ?_)
  · have h := tx_pos c5 h
    refine lv_iconst (v := 0) hx hb dX8_help_33 (by decide) ?_
    obtain ⟨rfl, rfl⟩ := tx_2 h
    exact W.zret (ty := .boolean) hx hb hr rfl (fun t ht hW => ⟨⟨_, (), rfl, rfl, by rw [ht]; exact hP, hD⟩, hS.F ht⟩) hS.2.2 dX8_help_34
  · have h := tx_neg c5 h
    refine lv_iload_n hx hb dX8_help_13 rfl (lv_at hl 2 rfl) ?_
    refine lv_iconst (v := 1) hx hb dX8_help_14 (by decide) ?_
    refine lv_bipush (v := 99) hx hb dX8_help_15 (by decide) ?_
    obtain ⟨r6, hc7, h⟩ := tx_bd h
    refine tw_ci (tw_none (ws := wM cA aa S_1 L)) hP hD hS hA (va_runS (As := [.int x2, .int 1, .int 99]) (rest := []) ⟨hx, hb, hml, hown, hT⟩ (c_X8_isIn l G cA H.size x2 (1 : Int32) (99 : Int32)  r6 hc7) (va_cwS 3 hT (tq_gS kw_24_11 kw_24_12 kw_1_5 kw_24_13) rfl rfl rfl (by decide +kernel) ⟨Nat.le_of_ble_eq_true rfl, Nat.le_of_ble_eq_true rfl⟩) (tw_pre (tw_none (ws := wM cA aa S_1 L)) hP hD hK hN) rfl rfl hl.1 rfl (lv_room (Nat.le_of_ble_eq_true rfl)) dX8_help_17 ⟨Nat.le_of_ble_eq_true rfl, Nat.le_of_ble_eq_true rfl⟩) (fun _ _ H locs z8 hP hD hS => ?_)
    subst z8
    have hP : va_P G vwCl (wM cA aa S_1 L) H := hP
    have hD : va_D A (wM cA aa S_1 L) := hD
    refine lv_if_eq (tgt := 33) hx hb dX8_help_20 (by decide) (fun c9 => ?_) (fun c9 => ?_)
    · have h := tx_pos c9 h
      refine lv_iconst (v := 0) hx hb dX8_help_33 (by decide) ?_
      obtain ⟨rfl, rfl⟩ := tx_2 h
      exact W.zret (ty := .boolean) hx hb hr rfl (fun t ht hW => ⟨⟨_, (), rfl, rfl, by rw [ht]; exact hP, hD⟩, hS.F ht⟩) hS.2.2 dX8_help_34
    · have h := tx_neg c9 h
      refine lv_aload_n hx hb dX8_help_23 rfl (lv_at hl 0 rfl) ?_
      refine va_get (D := G) (ci := 8) (v := .ref (aa 58)) (C := RX8) (T := TX8) (N := 91) hx hb hT ku_8 hown hK hP 0 rfl rfl 57 (by decide) (hT _ kw_10_18) (fun _ h9 => h9) rfl dX8_help_24 ?_
      refine lv_iload_n hx hb dX8_help_27 rfl (lv_at hl 1 rfl) ?_
      obtain ⟨g10, h⟩ := tx_ck h
      refine va_iald (i := x1) hx hb hK hP 32 0 rfl rfl (tx_in g10) dX8_help_28 ?_
      refine lv_iload_n hx hb dX8_help_29 rfl (lv_at hl 2 rfl) ?_
      refine lv_icmp_ne (tgt := 35) hx hb dX8_help_30 (by decide) (fun c11 => ?_) (fun c11 => ?_)
      · have h := tx_neg c11 h
        refine lv_aload_n hx hb dX8_help_35 rfl (lv_at hl 0 rfl) ?_
        obtain ⟨S_12, hc13, h⟩ := tx_bd h
        refine tw_cv tw_all hP hD hS hA (va_runV (As := []) (rest := []) ⟨hx, hb, hml, hown, hT⟩ (c_X8_remember l G cA H.size aa S_1 L  S_12 hc13) (cwV 0 hT (tq_gV kw_37_10 kw_37_11 kw_37_12 kw_1_5 kw_37_13) rfl rfl rfl (by decide +kernel) ⟨Nat.le_of_ble_eq_true rfl, Nat.le_of_ble_eq_true rfl⟩) ⟨(tw_pre tw_all hP hD hK hN).1, va_recv hK hP (ci := 8) (q0 := 0) rfl rfl, (tw_pre tw_all hP hD hK hN).2⟩ rfl rfl hl.1 rfl (lv_room (Nat.le_of_ble_eq_true rfl)) dX8_help_36 ⟨Nat.le_of_ble_eq_true rfl, Nat.le_of_ble_eq_true rfl⟩) (fun _ H locs z14 hP hD hS => ?_)
        rw [List.append_nil] at hP hD
        have hP : va_P G vwCl (wM cA aa S_12 L) H := hP
        have hD : va_D A (wM cA aa S_12 L) := hD
        refine lv_aload_n hx hb dX8_help_39 rfl (lv_at hl 0 rfl) ?_
        refine va_get (D := G) (ci := 8) (v := .ref (aa 58)) (C := RX8) (T := TX8) (N := 91) hx hb hT ku_8 hown hK hP 0 rfl rfl 57 (by decide) (hT _ kw_10_18) (fun _ h9 => h9) rfl dX8_help_40 ?_
        refine lv_iload_n hx hb dX8_help_43 rfl (lv_at hl 1 rfl) ?_
        refine lv_iload_n hx hb dX8_help_44 rfl (lv_at hl 2 rfl) ?_
        refine va_iast (i := x1) hx hb hK hP hD hS 32 0 rfl rfl (tx_in g10) dX8_help_45 (fun H locs hP hD hS => ?_)
        obtain ⟨S_15, eS_15, h⟩ := tx_lt h
        rw [sM_a57, eS_15] at hP hD
        refine lv_iconst (v := 1) hx hb dX8_help_46 (by decide) ?_
        obtain ⟨rfl, rfl⟩ := tx_2 h
        exact W.zret (ty := .boolean) hx hb hr rfl (fun t ht hW => ⟨⟨_, (), rfl, rfl, by rw [ht]; exact hP, hD⟩, hS.F ht⟩) hS.2.2 dX8_help_47
      · have h := tx_pos c11 h
        refine lv_iconst (v := 0) hx hb dX8_help_33 (by decide) ?_
        obtain ⟨rfl, rfl⟩ := tx_2 h
        exact W.zret (ty := .boolean) hx hb hr rfl (fun t ht hW => ⟨⟨_, (), rfl, rfl, by rw [ht]; exact hP, hD⟩, hS.F ht⟩) hS.2.2 dX8_help_34
abbrev G_X8_wrong (p : Program) (l : Launch) (e : Env) (s : State) (m : MethodId) (below : List Frame) (meth : Method) (c : Code) (G : va_G) (cA : Nat → ClassId) (A : Nat → Prop) (aa : Nat → Nat) (L : Lo) (x1 : Int32) (r0 : Int32) (S' : Tr) (H : Heap) (locs : List Loc) (g : JFrame) : Prop := W p l e (headSpec (.code yX8_wrong cX8_wrong 2 (some .boolean) :: T0) ({ frames := 0, cells := 0, slots := 0, locals := 0 } : Room)).room s m ([.ref (aa 0), .int x1] : List Value).toArray below meth c H locs 0 0 (MQ below (tqQi G cA (fun (r : Int32) (_ : Unit) => r = r0) (fun (_ : Unit) => wM cA aa S' L) A) ([.ref (aa 0), .int x1] : List Value).toArray s 0 0 A) g
set_option maxHeartbeats 4000000 in
set_option maxRecDepth 100000 in
theorem c_X8_wrong (l : Launch) (G : va_G) (cA : Nat → ClassId) (sz : Nat) (aa : Nat → Nat) (S : Tr) (L : Lo) (x1 : Int32)  (r0 : Int32) (S' : Tr) (h : f_X8_wrong S x1 = some (r0, S')) : Met l yX8_wrong (.code yX8_wrong cX8_wrong 2 (some .boolean) :: T0) ({ frames := 0, cells := 0, slots := 0, locals := 0 } : Room) (tqP G cA [.ref (aa 0), .int x1] (wM cA aa S L) sz) (tqQi G cA (fun (r : Int32) (_ : Unit) => r = r0) (fun (_ : Unit) => wM cA aa S' L) (va_A (wM cA aa S L) sz)) 0 0 (va_A (wM cA aa S L) sz) := by
  refine Met.ofW (cc := cX8_wrong) (maxL := 2) (ret := (some .boolean)) (by decide) rfl ?_
  intro p e s m args below meth c s₁ B hml hv
  obtain ⟨rfl, hsz, hP, hK, hD0, hN⟩ := hv
  have hx := B.exec
  have hb := B.bytes
  have hr := B.returns
  have hts := atoms_spec (ws := .code yX8_wrong cX8_wrong 2 (some .boolean) :: T0) B.pre
  have hT : ∀ w ∈ T0, w.before _ s = true := fun w h => hts w (List.mem_cons_of_mem _ h)
  have hown : s.vm.findClass RX8 = some m.cls := findClass_of_methodNamed B.named
  have hlocks := B.notSynchronized
  subst hsz
  have hD := hD0.self (sz := s.heap.size)
  generalize hAe : va_A (wM cA aa S L) s.heap.size = A at hD ⊢
  have hA : ∀ q : Nat, s.heap.size ≤ q → A q := fun q h => by rw [← hAe]; exact Or.inr h
  have hS : va_S A s.heap s.heap [] := va_S.rf
  have hl := lv_entry ([.ref (aa 0), .int x1]) (n := 2) (Nat.le_of_ble_eq_true rfl)
  rw [lg_entry_eq]
  generalize (lg_sl ([.ref (aa 0), .int x1]) ++ List.replicate (2 - (lg_sl ([.ref (aa 0), .int x1])).length) Slot.unset).toArray = ls at hl ⊢
  have hl : lv_has ls 2 [(0, .ref (aa 0)), (1, .int x1)] := hl
  have F : tF p s m ([.ref (aa 0), .int x1] : List Value).toArray meth c G cA A RX8 cX8_wrong 2 (some .boolean) := ⟨hx, hb, hr, hml, hT, hown, hlocks, hK, hN, hA⟩
  obtain ⟨H, hH⟩ : ∃ z, z = s.heap := ⟨_, rfl⟩
  rw [← hH] at hP
  have hS : va_S A s.heap H [] := by rw [hH]; exact hS
  suffices hgo : G_X8_wrong p l e s m below meth c G cA A aa L x1 r0 S' H [] (F0 m 0 ls []) by rw [hH] at hgo; exact hgo
  generalize ([] : List Loc) = locs at hS ⊢
  unfold f_X8_wrong at h
  refine lv_aload_n hx hb dX8_wrong_0 rfl (lv_at hl 0 rfl) ?_
  refine lv_iload_n hx hb dX8_wrong_1 rfl (lv_at hl 1 rfl) ?_
  refine va_put (D := G) (ci := 8) (v := .int x1) (ty := .int) (C := RX8) (T := TX8) (N := 91) hx hb hT ku_8 tyX8 tyX8_ok nmX8 hown hK hP hD hS 0 rfl rfl 4 (by decide) (hT _ kw_22_12) (fun _ h9 => h9) rfl (by decide +kernel) rfl rfl (Nat.le_of_ble_eq_true rfl) dX8_wrong_2 (fun H locs hP hD hS => ?_)
  obtain ⟨S_1, eS_1, h⟩ := tx_lt h
  rw [sM_f4, eS_1] at hP hD
  refine lv_aload_n hx hb dX8_wrong_5 rfl (lv_at hl 0 rfl) ?_
  refine lv_aload_n hx hb dX8_wrong_6 rfl (lv_at hl 0 rfl) ?_
  refine va_get (D := G) (ci := 8) (v := .int (S_1 0 10)) (C := RX8) (T := TX8) (N := 91) hx hb hT ku_8 hown hK hP 0 rfl rfl 10 (by decide) (hT _ kw_22_19) (fun _ h9 => h9) rfl dX8_wrong_7 ?_
  refine va_put (D := G) (ci := 8) (v := .int (S_1 0 10)) (ty := .int) (C := RX8) (T := TX8) (N := 91) hx hb hT ku_8 tyX8 tyX8_ok nmX8 hown hK hP hD hS 0 rfl rfl 5 (by decide) (hT _ kw_9_12) (fun _ h9 => h9) rfl (by decide +kernel) rfl rfl (Nat.le_of_ble_eq_true rfl) dX8_wrong_10 (fun H locs hP hD hS => ?_)
  obtain ⟨S_2, eS_2, h⟩ := tx_lt h
  rw [sM_f5, eS_2] at hP hD
  refine lv_iconst (v := 0) hx hb dX8_wrong_13 (by decide) ?_
  obtain ⟨rfl, rfl⟩ := tx_2 h
  exact W.zret (ty := .boolean) hx hb hr rfl (fun t ht hW => ⟨⟨_, (), rfl, rfl, by rw [ht]; exact hP, hD⟩, hS.F ht⟩) hS.2.2 dX8_wrong_14
abbrev G_X8_isCounted (p : Program) (l : Launch) (e : Env) (s : State) (m : MethodId) (below : List Frame) (meth : Method) (c : Code) (G : va_G) (cA : Nat → ClassId) (A : Nat → Prop) (aa : Nat → Nat) (L : Lo) (r0 : Int32) (S' : Tr) (H : Heap) (locs : List Loc) (g : JFrame) : Prop := W p l e (headSpec (.code yX8_isCounted cX8_isCounted 1 (some .boolean) :: T0) ({ frames := 1, cells := 0, slots := 0, locals := 21 } : Room)).room s m ([.ref (aa 0)] : List Value).toArray below meth c H locs 0 0 (MQ below (tqQi G cA (fun (r : Int32) (_ : Unit) => r = r0) (fun (_ : Unit) => wM cA aa S' L) A) ([.ref (aa 0)] : List Value).toArray s 0 0 A) g
set_option maxHeartbeats 4000000 in
set_option maxRecDepth 100000 in
theorem c_X8_isCounted (l : Launch) (G : va_G) (cA : Nat → ClassId) (sz : Nat) (aa : Nat → Nat) (S : Tr) (L : Lo)  (r0 : Int32) (S' : Tr) (h : f_X8_isCounted S = some (r0, S')) : Met l yX8_isCounted (.code yX8_isCounted cX8_isCounted 1 (some .boolean) :: T0) ({ frames := 1, cells := 0, slots := 0, locals := 21 } : Room) (tqP G cA [.ref (aa 0)] (wM cA aa S L) sz) (tqQi G cA (fun (r : Int32) (_ : Unit) => r = r0) (fun (_ : Unit) => wM cA aa S' L) (va_A (wM cA aa S L) sz)) 0 0 (va_A (wM cA aa S L) sz) := by
  refine Met.ofW (cc := cX8_isCounted) (maxL := 1) (ret := (some .boolean)) (by decide) rfl ?_
  intro p e s m args below meth c s₁ B hml hv
  obtain ⟨rfl, hsz, hP, hK, hD0, hN⟩ := hv
  have hx := B.exec
  have hb := B.bytes
  have hr := B.returns
  have hts := atoms_spec (ws := .code yX8_isCounted cX8_isCounted 1 (some .boolean) :: T0) B.pre
  have hT : ∀ w ∈ T0, w.before _ s = true := fun w h => hts w (List.mem_cons_of_mem _ h)
  have hown : s.vm.findClass RX8 = some m.cls := findClass_of_methodNamed B.named
  have hlocks := B.notSynchronized
  subst hsz
  have hD := hD0.self (sz := s.heap.size)
  generalize hAe : va_A (wM cA aa S L) s.heap.size = A at hD ⊢
  have hA : ∀ q : Nat, s.heap.size ≤ q → A q := fun q h => by rw [← hAe]; exact Or.inr h
  have hS : va_S A s.heap s.heap [] := va_S.rf
  have hl := lv_entry ([.ref (aa 0)]) (n := 1) (Nat.le_of_ble_eq_true rfl)
  rw [lg_entry_eq]
  generalize (lg_sl ([.ref (aa 0)]) ++ List.replicate (1 - (lg_sl ([.ref (aa 0)])).length) Slot.unset).toArray = ls at hl ⊢
  have hl : lv_has ls 1 [(0, .ref (aa 0))] := hl
  have F : tF p s m ([.ref (aa 0)] : List Value).toArray meth c G cA A RX8 cX8_isCounted 1 (some .boolean) := ⟨hx, hb, hr, hml, hT, hown, hlocks, hK, hN, hA⟩
  obtain ⟨H, hH⟩ : ∃ z, z = s.heap := ⟨_, rfl⟩
  rw [← hH] at hP
  have hS : va_S A s.heap H [] := by rw [hH]; exact hS
  suffices hgo : G_X8_isCounted p l e s m below meth c G cA A aa L r0 S' H [] (F0 m 0 ls []) by rw [hH] at hgo; exact hgo
  generalize ([] : List Loc) = locs at hS ⊢
  unfold f_X8_isCounted at h
  refine lv_aload_n hx hb dX8_isCounted_0 rfl (lv_at hl 0 rfl) ?_
  refine va_get (D := G) (ci := 8) (v := .int (S 0 46)) (C := RX8) (T := TX8) (N := 91) hx hb hT ku_8 hown hK hP 0 rfl rfl 46 (by decide) (hT _ kw_11_22) (fun _ h9 => h9) rfl dX8_isCounted_1 ?_
  refine lv_bipush (v := 64) hx hb dX8_isCounted_4 (by decide) ?_
  refine lv_icmp_ne (tgt := 15) hx hb dX8_isCounted_6 (by decide) (fun c1 => ?_) (fun c1 => ?_)
  · have h := tx_neg c1 h
    refine lv_aload_n hx hb dX8_isCounted_15 rfl (lv_at hl 0 rfl) ?_
    refine lv_dup hx hb dX8_isCounted_16 rfl ?_
    refine va_get (D := G) (ci := 8) (v := .int (S 0 46)) (C := RX8) (T := TX8) (N := 91) hx hb hT ku_8 hown hK hP 0 rfl rfl 46 (by decide) (hT _ kw_11_22) (fun _ h9 => h9) rfl dX8_isCounted_17 ?_
    refine lv_iconst (v := 1) hx hb dX8_isCounted_20 (by decide) ?_
    refine lv_iadd hx hb dX8_isCounted_21 ?_
    refine va_put (D := G) (ci := 8) (v := .int ((S 0 46) + 1)) (ty := .int) (C := RX8) (T := TX8) (N := 91) hx hb hT ku_8 tyX8 tyX8_ok nmX8 hown hK hP hD hS 0 rfl rfl 46 (by decide) (hT _ kw_11_22) (fun _ h9 => h9) rfl (by decide +kernel) rfl rfl (Nat.le_of_ble_eq_true rfl) dX8_isCounted_22 (fun H locs hP hD hS => ?_)
    obtain ⟨S_2, eS_2, h⟩ := tx_lt h
    rw [sM_f46, eS_2] at hP hD
    refine lv_iconst (v := 1) hx hb dX8_isCounted_25 (by decide) ?_
    obtain ⟨rfl, rfl⟩ := tx_2 h
    exact W.zret (ty := .boolean) hx hb hr rfl (fun t ht hW => ⟨⟨_, (), rfl, rfl, by rw [ht]; exact hP, hD⟩, hS.F ht⟩) hS.2.2 dX8_isCounted_26
  · have h := tx_pos c1 h
    refine lv_aload_n hx hb dX8_isCounted_9 rfl (lv_at hl 0 rfl) ?_
    refine lv_iconst (v := 2) hx hb dX8_isCounted_10 (by decide) ?_
    obtain ⟨⟨r3, S_4⟩, hc5, h⟩ := tx_bd h
    replace h := tx_let (y := r3) rfl h
    replace h := tx_let (y := S_4) rfl h
    refine tw_ci tw_all hP hD hS hA (va_runV (As := [.int 2]) (rest := []) ⟨hx, hb, hml, hown, hT⟩ (c_X8_wrong l G cA H.size aa S L (2 : Int32)  r3 S_4 hc5) (cwV 1 hT (tq_gV kw_23_23 kw_24_0 kw_24_1 kw_1_5 kw_24_2) rfl rfl rfl (by decide +kernel) ⟨Nat.le_of_ble_eq_true rfl, Nat.le_of_ble_eq_true rfl⟩) ⟨(tw_pre tw_all hP hD hK hN).1, va_recv hK hP (ci := 8) (q0 := 0) rfl rfl, (tw_pre tw_all hP hD hK hN).2⟩ rfl rfl hl.1 rfl (lv_room (Nat.le_of_ble_eq_true rfl)) dX8_isCounted_11 ⟨Nat.le_of_ble_eq_true rfl, Nat.le_of_ble_eq_true rfl⟩) (fun _ _ H locs z6 hP hD hS => ?_)
    subst z6
    rw [List.append_nil] at hP hD
    have hP : va_P G vwCl (wM cA aa S_4 L) H := hP
    have hD : va_D A (wM cA aa S_4 L) := hD
    obtain ⟨g7, h⟩ := tx_ck h
    obtain ⟨rfl, rfl⟩ := tx_2 h
    exact W.zret (ty := .boolean) hx hb hr (tx_z g7) (fun t ht hW => ⟨⟨_, (), rfl, rfl, by rw [ht]; exact hP, hD⟩, hS.F ht⟩) hS.2.2 dX8_isCounted_14
abbrev G_X8_isDigit (p : Program) (l : Launch) (e : Env) (s : State) (m : MethodId) (below : List Frame) (meth : Method) (c : Code) (G : va_G) (cA : Nat → ClassId) (A : Nat → Prop) (aa : Nat → Nat) (S : Tr) (L : Lo) (x1 : Int32) (r0 : Int32) (H : Heap) (locs : List Loc) (g : JFrame) : Prop := W p l e (headSpec (.code yX8_isDigit cX8_isDigit 2 (some .boolean) :: T0) ({ frames := 0, cells := 0, slots := 0, locals := 0 } : Room)).room s m ([.ref (aa 0), .int x1] : List Value).toArray below meth c H locs 0 0 (MQ below (tqQi G cA (fun (r : Int32) (_ : Unit) => r = r0) (fun (_ : Unit) => wM cA aa S L) A) ([.ref (aa 0), .int x1] : List Value).toArray s 0 0 A) g
set_option maxHeartbeats 4000000 in
set_option maxRecDepth 100000 in
theorem c_X8_isDigit (l : Launch) (G : va_G) (cA : Nat → ClassId) (sz : Nat) (aa : Nat → Nat) (S : Tr) (L : Lo) (x1 : Int32)  (r0 : Int32) (h : f_X8_isDigit S x1 = some r0) : Met l yX8_isDigit (.code yX8_isDigit cX8_isDigit 2 (some .boolean) :: T0) ({ frames := 0, cells := 0, slots := 0, locals := 0 } : Room) (tqP G cA [.ref (aa 0), .int x1] (wM cA aa S L) sz) (tqQi G cA (fun (r : Int32) (_ : Unit) => r = r0) (fun (_ : Unit) => wM cA aa S L) (va_A (wM cA aa S L) sz)) 0 0 (va_A (wM cA aa S L) sz) := by
  refine Met.ofW (cc := cX8_isDigit) (maxL := 2) (ret := (some .boolean)) (by decide) rfl ?_
  intro p e s m args below meth c s₁ B hml hv
  obtain ⟨rfl, hsz, hP, hK, hD0, hN⟩ := hv
  have hx := B.exec
  have hb := B.bytes
  have hr := B.returns
  have hts := atoms_spec (ws := .code yX8_isDigit cX8_isDigit 2 (some .boolean) :: T0) B.pre
  have hT : ∀ w ∈ T0, w.before _ s = true := fun w h => hts w (List.mem_cons_of_mem _ h)
  have hown : s.vm.findClass RX8 = some m.cls := findClass_of_methodNamed B.named
  have hlocks := B.notSynchronized
  subst hsz
  have hD := hD0.self (sz := s.heap.size)
  generalize hAe : va_A (wM cA aa S L) s.heap.size = A at hD ⊢
  have hA : ∀ q : Nat, s.heap.size ≤ q → A q := fun q h => by rw [← hAe]; exact Or.inr h
  have hS : va_S A s.heap s.heap [] := va_S.rf
  have hl := lv_entry ([.ref (aa 0), .int x1]) (n := 2) (Nat.le_of_ble_eq_true rfl)
  rw [lg_entry_eq]
  generalize (lg_sl ([.ref (aa 0), .int x1]) ++ List.replicate (2 - (lg_sl ([.ref (aa 0), .int x1])).length) Slot.unset).toArray = ls at hl ⊢
  have hl : lv_has ls 2 [(0, .ref (aa 0)), (1, .int x1)] := hl
  have F : tF p s m ([.ref (aa 0), .int x1] : List Value).toArray meth c G cA A RX8 cX8_isDigit 2 (some .boolean) := ⟨hx, hb, hr, hml, hT, hown, hlocks, hK, hN, hA⟩
  obtain ⟨H, hH⟩ : ∃ z, z = s.heap := ⟨_, rfl⟩
  rw [← hH] at hP
  have hS : va_S A s.heap H [] := by rw [hH]; exact hS
  suffices hgo : G_X8_isDigit p l e s m below meth c G cA A aa S L x1 r0 H [] (F0 m 0 ls []) by rw [hH] at hgo; exact hgo
  generalize ([] : List Loc) = locs at hS ⊢
  unfold f_X8_isDigit at h
  refine lv_iload_n hx hb dX8_isDigit_0 rfl (lv_at hl 1 rfl) ?_
  refine lv_aload_n hx hb dX8_isDigit_1 rfl (lv_at hl 0 rfl) ?_
  refine va_get (D := G) (ci := 8) (v := .int (S 0 6)) (C := RX8) (T := TX8) (N := 91) hx hb hT ku_8 hown hK hP 0 rfl rfl 6 (by decide) (hT _ kw_22_11) (fun _ h9 => h9) rfl dX8_isDigit_2 ?_
  refine lv_icmp_ge (tgt := 34) hx hb dX8_isDigit_5 (by decide) (fun c1 => ?_) (fun c1 => ?_)
  · have h := tx_pos c1 h
    refine lv_iconst (v := 0) hx hb dX8_isDigit_34 (by decide) ?_
    obtain rfl := tx_1 h
    exact W.zret (ty := .boolean) hx hb hr rfl (fun t ht hW => ⟨⟨_, (), rfl, rfl, by rw [ht]; exact hP, hD⟩, hS.F ht⟩) hS.2.2 dX8_isDigit_35
  · have h := tx_neg c1 h
    refine lv_aload_n hx hb dX8_isDigit_8 rfl (lv_at hl 0 rfl) ?_
    refine va_get (D := G) (ci := 8) (v := .ref (aa 1)) (C := RX8) (T := TX8) (N := 91) hx hb hT ku_8 hown hK hP 0 rfl rfl 0 (by decide) (hT _ kw_9_10) (fun _ h9 => h9) rfl dX8_isDigit_9 ?_
    refine lv_iload_n hx hb dX8_isDigit_12 rfl (lv_at hl 1 rfl) ?_
    obtain ⟨g2, h⟩ := tx_ck h
    refine va_iald (i := x1) hx hb hK hP 1 0 rfl rfl (tx_in g2) dX8_isDigit_13 ?_
    refine lv_bipush (v := 48) hx hb dX8_isDigit_14 (by decide) ?_
    refine lv_icmp_lt (tgt := 34) hx hb dX8_isDigit_16 (by decide) (fun c3 => ?_) (fun c3 => ?_)
    · have h := tx_pos c3 h
      refine lv_iconst (v := 0) hx hb dX8_isDigit_34 (by decide) ?_
      obtain rfl := tx_1 h
      exact W.zret (ty := .boolean) hx hb hr rfl (fun t ht hW => ⟨⟨_, (), rfl, rfl, by rw [ht]; exact hP, hD⟩, hS.F ht⟩) hS.2.2 dX8_isDigit_35
    · have h := tx_neg c3 h
      refine lv_aload_n hx hb dX8_isDigit_19 rfl (lv_at hl 0 rfl) ?_
      refine va_get (D := G) (ci := 8) (v := .ref (aa 1)) (C := RX8) (T := TX8) (N := 91) hx hb hT ku_8 hown hK hP 0 rfl rfl 0 (by decide) (hT _ kw_9_10) (fun _ h9 => h9) rfl dX8_isDigit_20 ?_
      refine lv_iload_n hx hb dX8_isDigit_23 rfl (lv_at hl 1 rfl) ?_
      refine va_iald (i := x1) hx hb hK hP 1 0 rfl rfl (tx_in g2) dX8_isDigit_24 ?_
      refine lv_bipush (v := 57) hx hb dX8_isDigit_25 (by decide) ?_
      refine lv_icmp_gt (tgt := 34) hx hb dX8_isDigit_27 (by decide) (fun c4 => ?_) (fun c4 => ?_)
      · have h := tx_pos c4 h
        refine lv_iconst (v := 0) hx hb dX8_isDigit_34 (by decide) ?_
        obtain rfl := tx_1 h
        exact W.zret (ty := .boolean) hx hb hr rfl (fun t ht hW => ⟨⟨_, (), rfl, rfl, by rw [ht]; exact hP, hD⟩, hS.F ht⟩) hS.2.2 dX8_isDigit_35
      · have h := tx_neg c4 h
        refine lv_iconst (v := 1) hx hb dX8_isDigit_30 (by decide) ?_
        refine lv_goto (tgt := 35) hx hb dX8_isDigit_31 (by decide) ?_
        obtain rfl := tx_1 h
        exact W.zret (ty := .boolean) hx hb hr rfl (fun t ht hW => ⟨⟨_, (), rfl, rfl, by rw [ht]; exact hP, hD⟩, hS.F ht⟩) hS.2.2 dX8_isDigit_35
abbrev G_X8_isKey (p : Program) (l : Launch) (e : Env) (s : State) (m : MethodId) (below : List Frame) (meth : Method) (c : Code) (G : va_G) (cA : Nat → ClassId) (A : Nat → Prop) (aa : Nat → Nat) (S : Tr) (L : Lo) (x1 : Int32) (r0 : Int32) (H : Heap) (locs : List Loc) (g : JFrame) : Prop := W p l e (headSpec (.code yX8_isKey cX8_isKey 2 (some .boolean) :: T0) ({ frames := 0, cells := 0, slots := 0, locals := 0 } : Room)).room s m ([.ref (aa 0), .int x1] : List Value).toArray below meth c H locs 0 0 (MQ below (tqQi G cA (fun (r : Int32) (_ : Unit) => r = r0) (fun (_ : Unit) => wM cA aa S L) A) ([.ref (aa 0), .int x1] : List Value).toArray s 0 0 A) g
set_option maxHeartbeats 4000000 in
set_option maxRecDepth 100000 in
theorem c_X8_isKey (l : Launch) (G : va_G) (cA : Nat → ClassId) (sz : Nat) (aa : Nat → Nat) (S : Tr) (L : Lo) (x1 : Int32)  (r0 : Int32) (h : f_X8_isKey S x1 = some r0) : Met l yX8_isKey (.code yX8_isKey cX8_isKey 2 (some .boolean) :: T0) ({ frames := 0, cells := 0, slots := 0, locals := 0 } : Room) (tqP G cA [.ref (aa 0), .int x1] (wM cA aa S L) sz) (tqQi G cA (fun (r : Int32) (_ : Unit) => r = r0) (fun (_ : Unit) => wM cA aa S L) (va_A (wM cA aa S L) sz)) 0 0 (va_A (wM cA aa S L) sz) := by
  refine Met.ofW (cc := cX8_isKey) (maxL := 2) (ret := (some .boolean)) (by decide) rfl ?_
  intro p e s m args below meth c s₁ B hml hv
  obtain ⟨rfl, hsz, hP, hK, hD0, hN⟩ := hv
  have hx := B.exec
  have hb := B.bytes
  have hr := B.returns
  have hts := atoms_spec (ws := .code yX8_isKey cX8_isKey 2 (some .boolean) :: T0) B.pre
  have hT : ∀ w ∈ T0, w.before _ s = true := fun w h => hts w (List.mem_cons_of_mem _ h)
  have hown : s.vm.findClass RX8 = some m.cls := findClass_of_methodNamed B.named
  have hlocks := B.notSynchronized
  subst hsz
  have hD := hD0.self (sz := s.heap.size)
  generalize hAe : va_A (wM cA aa S L) s.heap.size = A at hD ⊢
  have hA : ∀ q : Nat, s.heap.size ≤ q → A q := fun q h => by rw [← hAe]; exact Or.inr h
  have hS : va_S A s.heap s.heap [] := va_S.rf
  have hl := lv_entry ([.ref (aa 0), .int x1]) (n := 2) (Nat.le_of_ble_eq_true rfl)
  rw [lg_entry_eq]
  generalize (lg_sl ([.ref (aa 0), .int x1]) ++ List.replicate (2 - (lg_sl ([.ref (aa 0), .int x1])).length) Slot.unset).toArray = ls at hl ⊢
  have hl : lv_has ls 2 [(0, .ref (aa 0)), (1, .int x1)] := hl
  have F : tF p s m ([.ref (aa 0), .int x1] : List Value).toArray meth c G cA A RX8 cX8_isKey 2 (some .boolean) := ⟨hx, hb, hr, hml, hT, hown, hlocks, hK, hN, hA⟩
  obtain ⟨H, hH⟩ : ∃ z, z = s.heap := ⟨_, rfl⟩
  rw [← hH] at hP
  have hS : va_S A s.heap H [] := by rw [hH]; exact hS
  suffices hgo : G_X8_isKey p l e s m below meth c G cA A aa S L x1 r0 H [] (F0 m 0 ls []) by rw [hH] at hgo; exact hgo
  generalize ([] : List Loc) = locs at hS ⊢
  unfold f_X8_isKey at h
  refine lv_aload_n hx hb dX8_isKey_0 rfl (lv_at hl 0 rfl) ?_
  refine va_get (D := G) (ci := 8) (v := .int (S 0 8)) (C := RX8) (T := TX8) (N := 91) hx hb hT ku_8 hown hK hP 0 rfl rfl 8 (by decide) (hT _ kw_22_14) (fun _ h9 => h9) rfl dX8_isKey_1 ?_
  refine lv_iconst (v := 1) hx hb dX8_isKey_4 (by decide) ?_
  refine lv_icmp_ne (tgt := 20) hx hb dX8_isKey_5 (by decide) (fun c1 => ?_) (fun c1 => ?_)
  · have h := tx_neg c1 h
    refine lv_iconst (v := 0) hx hb dX8_isKey_20 (by decide) ?_
    obtain rfl := tx_1 h
    exact W.zret (ty := .boolean) hx hb hr rfl (fun t ht hW => ⟨⟨_, (), rfl, rfl, by rw [ht]; exact hP, hD⟩, hS.F ht⟩) hS.2.2 dX8_isKey_21
  · have h := tx_pos c1 h
    refine lv_aload_n hx hb dX8_isKey_8 rfl (lv_at hl 0 rfl) ?_
    refine va_get (D := G) (ci := 8) (v := .int (S 0 9)) (C := RX8) (T := TX8) (N := 91) hx hb hT ku_8 hown hK hP 0 rfl rfl 9 (by decide) (hT _ kw_22_20) (fun _ h9 => h9) rfl dX8_isKey_9 ?_
    refine lv_iload_n hx hb dX8_isKey_12 rfl (lv_at hl 1 rfl) ?_
    refine lv_icmp_ne (tgt := 20) hx hb dX8_isKey_13 (by decide) (fun c2 => ?_) (fun c2 => ?_)
    · have h := tx_neg c2 h
      refine lv_iconst (v := 0) hx hb dX8_isKey_20 (by decide) ?_
      obtain rfl := tx_1 h
      exact W.zret (ty := .boolean) hx hb hr rfl (fun t ht hW => ⟨⟨_, (), rfl, rfl, by rw [ht]; exact hP, hD⟩, hS.F ht⟩) hS.2.2 dX8_isKey_21
    · have h := tx_pos c2 h
      refine lv_iconst (v := 1) hx hb dX8_isKey_16 (by decide) ?_
      refine lv_goto (tgt := 21) hx hb dX8_isKey_17 (by decide) ?_
      obtain rfl := tx_1 h
      exact W.zret (ty := .boolean) hx hb hr rfl (fun t ht hW => ⟨⟨_, (), rfl, rfl, by rw [ht]; exact hP, hD⟩, hS.F ht⟩) hS.2.2 dX8_isKey_21
abbrev G_X8_isSmall (p : Program) (l : Launch) (e : Env) (s : State) (m : MethodId) (below : List Frame) (meth : Method) (c : Code) (G : va_G) (cA : Nat → ClassId) (A : Nat → Prop) (aa : Nat → Nat) (S : Tr) (L : Lo) (x1 : Int32) (r0 : Int32) (H : Heap) (locs : List Loc) (g : JFrame) : Prop := W p l e (headSpec (.code yX8_isSmall cX8_isSmall 2 (some .boolean) :: T0) ({ frames := 0, cells := 0, slots := 0, locals := 0 } : Room)).room s m ([.ref (aa 0), .int x1] : List Value).toArray below meth c H locs 0 0 (MQ below (tqQi G cA (fun (r : Int32) (_ : Unit) => r = r0) (fun (_ : Unit) => wM cA aa S L) A) ([.ref (aa 0), .int x1] : List Value).toArray s 0 0 A) g
set_option maxHeartbeats 4000000 in
set_option maxRecDepth 100000 in
theorem c_X8_isSmall (l : Launch) (G : va_G) (cA : Nat → ClassId) (sz : Nat) (aa : Nat → Nat) (S : Tr) (L : Lo) (x1 : Int32)  (r0 : Int32) (h : f_X8_isSmall S x1 = some r0) : Met l yX8_isSmall (.code yX8_isSmall cX8_isSmall 2 (some .boolean) :: T0) ({ frames := 0, cells := 0, slots := 0, locals := 0 } : Room) (tqP G cA [.ref (aa 0), .int x1] (wM cA aa S L) sz) (tqQi G cA (fun (r : Int32) (_ : Unit) => r = r0) (fun (_ : Unit) => wM cA aa S L) (va_A (wM cA aa S L) sz)) 0 0 (va_A (wM cA aa S L) sz) := by
  refine Met.ofW (cc := cX8_isSmall) (maxL := 2) (ret := (some .boolean)) (by decide) rfl ?_
  intro p e s m args below meth c s₁ B hml hv
  obtain ⟨rfl, hsz, hP, hK, hD0, hN⟩ := hv
  have hx := B.exec
  have hb := B.bytes
  have hr := B.returns
  have hts := atoms_spec (ws := .code yX8_isSmall cX8_isSmall 2 (some .boolean) :: T0) B.pre
  have hT : ∀ w ∈ T0, w.before _ s = true := fun w h => hts w (List.mem_cons_of_mem _ h)
  have hown : s.vm.findClass RX8 = some m.cls := findClass_of_methodNamed B.named
  have hlocks := B.notSynchronized
  subst hsz
  have hD := hD0.self (sz := s.heap.size)
  generalize hAe : va_A (wM cA aa S L) s.heap.size = A at hD ⊢
  have hA : ∀ q : Nat, s.heap.size ≤ q → A q := fun q h => by rw [← hAe]; exact Or.inr h
  have hS : va_S A s.heap s.heap [] := va_S.rf
  have hl := lv_entry ([.ref (aa 0), .int x1]) (n := 2) (Nat.le_of_ble_eq_true rfl)
  rw [lg_entry_eq]
  generalize (lg_sl ([.ref (aa 0), .int x1]) ++ List.replicate (2 - (lg_sl ([.ref (aa 0), .int x1])).length) Slot.unset).toArray = ls at hl ⊢
  have hl : lv_has ls 2 [(0, .ref (aa 0)), (1, .int x1)] := hl
  have F : tF p s m ([.ref (aa 0), .int x1] : List Value).toArray meth c G cA A RX8 cX8_isSmall 2 (some .boolean) := ⟨hx, hb, hr, hml, hT, hown, hlocks, hK, hN, hA⟩
  obtain ⟨H, hH⟩ : ∃ z, z = s.heap := ⟨_, rfl⟩
  rw [← hH] at hP
  have hS : va_S A s.heap H [] := by rw [hH]; exact hS
  suffices hgo : G_X8_isSmall p l e s m below meth c G cA A aa S L x1 r0 H [] (F0 m 0 ls []) by rw [hH] at hgo; exact hgo
  generalize ([] : List Loc) = locs at hS ⊢
  unfold f_X8_isSmall at h
  refine lv_iload_n hx hb dX8_isSmall_0 rfl (lv_at hl 1 rfl) ?_
  refine lv_aload_n hx hb dX8_isSmall_1 rfl (lv_at hl 0 rfl) ?_
  refine va_get (D := G) (ci := 8) (v := .int (S 0 6)) (C := RX8) (T := TX8) (N := 91) hx hb hT ku_8 hown hK hP 0 rfl rfl 6 (by decide) (hT _ kw_22_11) (fun _ h9 => h9) rfl dX8_isSmall_2 ?_
  refine lv_icmp_ge (tgt := 34) hx hb dX8_isSmall_5 (by decide) (fun c1 => ?_) (fun c1 => ?_)
  · have h := tx_pos c1 h
    refine lv_iconst (v := 0) hx hb dX8_isSmall_34 (by decide) ?_
    obtain rfl := tx_1 h
    exact W.zret (ty := .boolean) hx hb hr rfl (fun t ht hW => ⟨⟨_, (), rfl, rfl, by rw [ht]; exact hP, hD⟩, hS.F ht⟩) hS.2.2 dX8_isSmall_35
  · have h := tx_neg c1 h
    refine lv_aload_n hx hb dX8_isSmall_8 rfl (lv_at hl 0 rfl) ?_
    refine va_get (D := G) (ci := 8) (v := .ref (aa 1)) (C := RX8) (T := TX8) (N := 91) hx hb hT ku_8 hown hK hP 0 rfl rfl 0 (by decide) (hT _ kw_9_10) (fun _ h9 => h9) rfl dX8_isSmall_9 ?_
    refine lv_iload_n hx hb dX8_isSmall_12 rfl (lv_at hl 1 rfl) ?_
    obtain ⟨g2, h⟩ := tx_ck h
    refine va_iald (i := x1) hx hb hK hP 1 0 rfl rfl (tx_in g2) dX8_isSmall_13 ?_
    refine lv_bipush (v := 97) hx hb dX8_isSmall_14 (by decide) ?_
    refine lv_icmp_lt (tgt := 34) hx hb dX8_isSmall_16 (by decide) (fun c3 => ?_) (fun c3 => ?_)
    · have h := tx_pos c3 h
      refine lv_iconst (v := 0) hx hb dX8_isSmall_34 (by decide) ?_
      obtain rfl := tx_1 h
      exact W.zret (ty := .boolean) hx hb hr rfl (fun t ht hW => ⟨⟨_, (), rfl, rfl, by rw [ht]; exact hP, hD⟩, hS.F ht⟩) hS.2.2 dX8_isSmall_35
    · have h := tx_neg c3 h
      refine lv_aload_n hx hb dX8_isSmall_19 rfl (lv_at hl 0 rfl) ?_
      refine va_get (D := G) (ci := 8) (v := .ref (aa 1)) (C := RX8) (T := TX8) (N := 91) hx hb hT ku_8 hown hK hP 0 rfl rfl 0 (by decide) (hT _ kw_9_10) (fun _ h9 => h9) rfl dX8_isSmall_20 ?_
      refine lv_iload_n hx hb dX8_isSmall_23 rfl (lv_at hl 1 rfl) ?_
      refine va_iald (i := x1) hx hb hK hP 1 0 rfl rfl (tx_in g2) dX8_isSmall_24 ?_
      refine lv_bipush (v := 122) hx hb dX8_isSmall_25 (by decide) ?_
      refine lv_icmp_gt (tgt := 34) hx hb dX8_isSmall_27 (by decide) (fun c4 => ?_) (fun c4 => ?_)
      · have h := tx_pos c4 h
        refine lv_iconst (v := 0) hx hb dX8_isSmall_34 (by decide) ?_
        obtain rfl := tx_1 h
        exact W.zret (ty := .boolean) hx hb hr rfl (fun t ht hW => ⟨⟨_, (), rfl, rfl, by rw [ht]; exact hP, hD⟩, hS.F ht⟩) hS.2.2 dX8_isSmall_35
      · have h := tx_neg c4 h
        refine lv_iconst (v := 1) hx hb dX8_isSmall_30 (by decide) ?_
        refine lv_goto (tgt := 35) hx hb dX8_isSmall_31 (by decide) ?_
        obtain rfl := tx_1 h
        exact W.zret (ty := .boolean) hx hb hr rfl (fun t ht hW => ⟨⟨_, (), rfl, rfl, by rw [ht]; exact hP, hD⟩, hS.F ht⟩) hS.2.2 dX8_isSmall_35
abbrev G_X8_wordAt (p : Program) (l : Launch) (e : Env) (s : State) (m : MethodId) (below : List Frame) (meth : Method) (c : Code) (G : va_G) (cA : Nat → ClassId) (A : Nat → Prop) (aa : Nat → Nat) (S : Tr) (L : Lo) (x1 : Int32) (x2 : Int32) (r0 : Int32) (H : Heap) (locs : List Loc) (g : JFrame) : Prop := W p l e (headSpec (.code yX8_wordAt cX8_wordAt 8 (some .int) :: T0) ({ frames := 0, cells := 0, slots := 0, locals := 0 } : Room)).room s m ([.ref (aa 0), .int x1, .int x2] : List Value).toArray below meth c H locs 0 0 (MQ below (tqQi G cA (fun (r : Int32) (_ : Unit) => r = r0) (fun (_ : Unit) => wM cA aa S L) A) ([.ref (aa 0), .int x1, .int x2] : List Value).toArray s 0 0 A) g
set_option maxHeartbeats 4000000 in
set_option maxRecDepth 100000 in
theorem w_X8_wordAt_J104 {p : Program} {l : Launch} {e : Env} {s : State} {m : MethodId} {below : List Frame} {meth : Method} {c : Code} {G : va_G} {cA : Nat → ClassId} {A : Nat → Prop} {aa : Nat → Nat} {S : Tr} {L : Lo} {x1₀ : Int32} {x2₀ : Int32} {r0 : Int32} {x1 : Int32} {x2 : Int32} (F : tF p s m ([.ref (aa 0), .int x1₀, .int x2₀] : List Value).toArray meth c G cA A RX8 cX8_wordAt 8 (some .int))  (k5 : Int32 → Int32 → Option (Int32)) (hk5 : ∀ (x3 : Int32) (x4 : Int32) (H : Heap) (locs : List Loc) (ls : Array Slot), k5 x3 x4 = some r0 → va_P G vwCl (wM cA aa S L) H → va_D A (wM cA aa S L) → va_S A s.heap H locs → lv_has ls 8 [(0, .ref (aa 0)), (1, .int x1), (2, .int x2), (3, .int x3), (4, .int x4)] → G_X8_wordAt p l e s m below meth c G cA A aa S L x1₀ x2₀ r0 H locs (F0 m 5 ls [])) (x3 : Int32) (x4 : Int32) (x5 : Int32) (x6 : Int32) (H : Heap) (locs : List Loc) (ls : Array Slot) (h : fJ_X8_wordAt_J104 k5 S x1 x2 x3 x4 x5 x6 = some r0) (hP : va_P G vwCl (wM cA aa S L) H) (hD : va_D A (wM cA aa S L)) (hS : va_S A s.heap H locs) (hl : lv_has ls 8 [(0, .ref (aa 0)), (1, .int x1), (2, .int x2), (3, .int x3), (4, .int x4), (5, .int x5), (6, .int x6)]) : G_X8_wordAt p l e s m below meth c G cA A aa S L x1₀ x2₀ r0 H locs (F0 m 104 ls []) := by
  obtain ⟨hx, hb, hr, hml, hT, hown, hlocks, hK, hN, hA⟩ := id F
  unfold fJ_X8_wordAt_J104 at h
  refine lv_iload hx hb dX8_wordAt_104 (lv_at hl 6 rfl) ?_
  refine lv_if_eq (tgt := 111) hx hb dX8_wordAt_106 (by decide) (fun c6 => ?_) (fun c6 => ?_)
  · have h := tx_pos c6 h
    refine lv_iload hx hb dX8_wordAt_111 (lv_at hl 4 rfl) ?_
    refine lv_iload hx hb dX8_wordAt_113 (lv_at hl 5 rfl) ?_
    refine lv_iconst (v := 1) hx hb dX8_wordAt_115 (by decide) ?_
    refine lv_iadd hx hb dX8_wordAt_116 ?_
    refine lv_iadd hx hb dX8_wordAt_117 ?_
    refine lv_topi (fun y7 ey7 => ?_)
    have h := tx_let ey7 h
    refine lv_istore (lv' := [(4, .int y7), (0, .ref (aa 0)), (1, .int x1), (2, .int x2), (3, .int x3), (5, .int x5), (6, .int x6)]) hx hb dX8_wordAt_118 hl (by decide) rfl (fun ls hl => ?_)
    obtain ⟨y8, ey8, h⟩ := tx_lt h
    refine lv_iinc (v := y8) (lv' := [(3, .int y8), (4, .int y7), (0, .ref (aa 0)), (1, .int x1), (2, .int x2), (5, .int x5), (6, .int x6)]) hx hb dX8_wordAt_120 hl (k := 4) rfl ey8 (by decide) rfl (fun ls hl => ?_)
    refine lv_goto (tgt := 5) hx hb dX8_wordAt_123 (by decide) ?_
    exact hk5 y8 y7 H locs ls h hP hD hS (lv_sub hl [2, 3, 4, 0, 1] rfl)
  · have h := tx_neg c6 h
    refine lv_iload_n hx hb dX8_wordAt_109 rfl (lv_at hl 3 rfl) ?_
    obtain rfl := tx_1 h
    exact W.iret hx hb hr (fun t ht hW => ⟨⟨_, (), rfl, rfl, by rw [ht]; exact hP, hD⟩, hS.F ht⟩) hS.2.2 dX8_wordAt_110
set_option maxHeartbeats 4000000 in
set_option maxRecDepth 100000 in
theorem w_X8_wordAt_L57 {p : Program} {l : Launch} {e : Env} {s : State} {m : MethodId} {below : List Frame} {meth : Method} {c : Code} {G : va_G} {cA : Nat → ClassId} {A : Nat → Prop} {aa : Nat → Nat} {S : Tr} {L : Lo} {x1₀ : Int32} {x2₀ : Int32} {r0 : Int32} {x1 : Int32} {x2 : Int32} {x3 : Int32} {x4 : Int32} {x5 : Int32} (F : tF p s m ([.ref (aa 0), .int x1₀, .int x2₀] : List Value).toArray meth c G cA A RX8 cX8_wordAt 8 (some .int))  (k5 : Int32 → Int32 → Option (Int32)) (hk5 : ∀ (x3 : Int32) (x4 : Int32) (H : Heap) (locs : List Loc) (ls : Array Slot), k5 x3 x4 = some r0 → va_P G vwCl (wM cA aa S L) H → va_D A (wM cA aa S L) → va_S A s.heap H locs → lv_has ls 8 [(0, .ref (aa 0)), (1, .int x1), (2, .int x2), (3, .int x3), (4, .int x4)] → G_X8_wordAt p l e s m below meth c G cA A aa S L x1₀ x2₀ r0 H locs (F0 m 5 ls [])) (N : Nat) : ∀ (x6 : Int32) (x7 : Int32) (H : Heap) (locs : List Loc) (ls : Array Slot), lpF (fun _ _ => none) (fB_X8_wordAt_L57 k5 S x1 x2 x3 x4 x5) N x6 x7 = some r0 → va_P G vwCl (wM cA aa S L) H → va_D A (wM cA aa S L) → va_S A s.heap H locs → lv_has ls 8 [(0, .ref (aa 0)), (1, .int x1), (2, .int x2), (3, .int x3), (4, .int x4), (5, .int x5), (6, .int x6), (7, .int x7)] → G_X8_wordAt p l e s m below meth c G cA A aa S L x1₀ x2₀ r0 H locs (F0 m 57 ls []) := by
  obtain ⟨hx, hb, hr, hml, hT, hown, hlocks, hK, hN, hA⟩ := id F
  induction N with
  | zero =>
    intro x6 x7 H locs ls h
    have h : (none : Option (Int32)) = some r0 := h
    cases h
  | succ N hk57 =>
    intro x6 x7 H locs ls h hP hD hS hl
    have h : fB_X8_wordAt_L57 k5 S x1 x2 x3 x4 x5 (lpF (fun _ _ => none) (fB_X8_wordAt_L57 k5 S x1 x2 x3 x4 x5) N) x6 x7 = some r0 := h
    generalize hk57e : lpF (fun _ _ => none) (fB_X8_wordAt_L57 k5 S x1 x2 x3 x4 x5) N = k57 at h hk57
    unfold fB_X8_wordAt_L57 at h
    refine lv_iload hx hb dX8_wordAt_57 (lv_at hl 7 rfl) ?_
    refine lv_iload hx hb dX8_wordAt_59 (lv_at hl 5 rfl) ?_
    refine lv_icmp_ge (tgt := 104) hx hb dX8_wordAt_61 (by decide) (fun c5 => ?_) (fun c5 => ?_)
    · have h := tx_pos c5 h
      exact w_X8_wordAt_J104 F k5 hk5 x3 x4 x5 x6 H locs ls h hP hD hS (lv_sub hl [0, 1, 2, 3, 4, 5, 6] rfl)
    · have h := tx_neg c5 h
      refine lv_iload hx hb dX8_wordAt_64 (lv_at hl 6 rfl) ?_
      refine lv_if_eq (tgt := 104) hx hb dX8_wordAt_66 (by decide) (fun c9 => ?_) (fun c9 => ?_)
      · have h := tx_pos c9 h
        exact w_X8_wordAt_J104 F k5 hk5 x3 x4 x5 x6 H locs ls h hP hD hS (lv_sub hl [0, 1, 2, 3, 4, 5, 6] rfl)
      · have h := tx_neg c9 h
        refine lv_aload_n hx hb dX8_wordAt_69 rfl (lv_at hl 0 rfl) ?_
        refine va_get (D := G) (ci := 8) (v := .ref (aa 4)) (C := RX8) (T := TX8) (N := 91) hx hb hT ku_8 hown hK hP 0 rfl rfl 3 (by decide) (hT _ kw_9_11) (fun _ h9 => h9) rfl dX8_wordAt_70 ?_
        refine lv_iload hx hb dX8_wordAt_73 (lv_at hl 4 rfl) ?_
        refine lv_iload hx hb dX8_wordAt_75 (lv_at hl 7 rfl) ?_
        refine lv_iadd hx hb dX8_wordAt_77 ?_
        obtain ⟨g10, h⟩ := tx_ck h
        refine va_iald (i := (x4 + x7)) hx hb hK hP 2 0 rfl rfl (tx_in g10) dX8_wordAt_78 ?_
        refine lv_aload_n hx hb dX8_wordAt_79 rfl (lv_at hl 0 rfl) ?_
        refine va_get (D := G) (ci := 8) (v := .ref (aa 1)) (C := RX8) (T := TX8) (N := 91) hx hb hT ku_8 hown hK hP 0 rfl rfl 0 (by decide) (hT _ kw_9_10) (fun _ h9 => h9) rfl dX8_wordAt_80 ?_
        refine lv_iload_n hx hb dX8_wordAt_83 rfl (lv_at hl 1 rfl) ?_
        refine lv_iload hx hb dX8_wordAt_84 (lv_at hl 7 rfl) ?_
        refine lv_iadd hx hb dX8_wordAt_86 ?_
        obtain ⟨g11, h⟩ := tx_ck h
        refine va_iald (i := (x1 + x7)) hx hb hK hP 1 0 rfl rfl (tx_in g11) dX8_wordAt_87 ?_
        refine lv_icmp_ne (tgt := 95) hx hb dX8_wordAt_88 (by decide) (fun c12 => ?_) (fun c12 => ?_)
        · have h := tx_neg c12 h
          refine lv_iconst (v := 0) hx hb dX8_wordAt_95 (by decide) ?_
          refine lv_istore (lv' := [(6, .int 0), (0, .ref (aa 0)), (1, .int x1), (2, .int x2), (3, .int x3), (4, .int x4), (5, .int x5), (7, .int x7)]) hx hb dX8_wordAt_96 hl (by decide) rfl (fun ls hl => ?_)
          obtain ⟨y13, ey13, h⟩ := tx_lt h
          refine lv_iinc (v := y13) (lv' := [(7, .int y13), (6, .int 0), (0, .ref (aa 0)), (1, .int x1), (2, .int x2), (3, .int x3), (4, .int x4), (5, .int x5)]) hx hb dX8_wordAt_98 hl (k := 7) rfl ey13 (by decide) rfl (fun ls hl => ?_)
          refine lv_goto (tgt := 57) hx hb dX8_wordAt_101 (by decide) ?_
          exact hk57 0 y13 H locs ls h hP hD hS (lv_sub hl [2, 3, 4, 5, 6, 7, 1, 0] rfl)
        · have h := tx_pos c12 h
          refine lv_iconst (v := 1) hx hb dX8_wordAt_91 (by decide) ?_
          refine lv_goto (tgt := 96) hx hb dX8_wordAt_92 (by decide) ?_
          refine lv_istore (lv' := [(6, .int 1), (0, .ref (aa 0)), (1, .int x1), (2, .int x2), (3, .int x3), (4, .int x4), (5, .int x5), (7, .int x7)]) hx hb dX8_wordAt_96 hl (by decide) rfl (fun ls hl => ?_)
          obtain ⟨y14, ey14, h⟩ := tx_lt h
          refine lv_iinc (v := y14) (lv' := [(7, .int y14), (6, .int 1), (0, .ref (aa 0)), (1, .int x1), (2, .int x2), (3, .int x3), (4, .int x4), (5, .int x5)]) hx hb dX8_wordAt_98 hl (k := 7) rfl ey14 (by decide) rfl (fun ls hl => ?_)
          refine lv_goto (tgt := 57) hx hb dX8_wordAt_101 (by decide) ?_
          exact hk57 1 y14 H locs ls h hP hD hS (lv_sub hl [2, 3, 4, 5, 6, 7, 1, 0] rfl)
set_option maxHeartbeats 4000000 in
set_option maxRecDepth 100000 in
theorem w_X8_wordAt_J39 {p : Program} {l : Launch} {e : Env} {s : State} {m : MethodId} {below : List Frame} {meth : Method} {c : Code} {G : va_G} {cA : Nat → ClassId} {A : Nat → Prop} {aa : Nat → Nat} {S : Tr} {L : Lo} {x1₀ : Int32} {x2₀ : Int32} {r0 : Int32} {x1 : Int32} {x2 : Int32} (F : tF p s m ([.ref (aa 0), .int x1₀, .int x2₀] : List Value).toArray meth c G cA A RX8 cX8_wordAt 8 (some .int))  (k5 : Int32 → Int32 → Option (Int32)) (hk5 : ∀ (x3 : Int32) (x4 : Int32) (H : Heap) (locs : List Loc) (ls : Array Slot), k5 x3 x4 = some r0 → va_P G vwCl (wM cA aa S L) H → va_D A (wM cA aa S L) → va_S A s.heap H locs → lv_has ls 8 [(0, .ref (aa 0)), (1, .int x1), (2, .int x2), (3, .int x3), (4, .int x4)] → G_X8_wordAt p l e s m below meth c G cA A aa S L x1₀ x2₀ r0 H locs (F0 m 5 ls [])) (x3 : Int32) (x4 : Int32) (x5 : Int32) (H : Heap) (locs : List Loc) (ls : Array Slot) (h : fJ_X8_wordAt_J39 k5 S x1 x2 x3 x4 x5 = some r0) (hP : va_P G vwCl (wM cA aa S L) H) (hD : va_D A (wM cA aa S L)) (hS : va_S A s.heap H locs) (hl : lv_has ls 8 [(0, .ref (aa 0)), (1, .int x1), (2, .int x2), (3, .int x3), (4, .int x4), (5, .int x5)]) : G_X8_wordAt p l e s m below meth c G cA A aa S L x1₀ x2₀ r0 H locs (F0 m 39 ls []) := by
  obtain ⟨hx, hb, hr, hml, hT, hown, hlocks, hK, hN, hA⟩ := id F
  unfold fJ_X8_wordAt_J39 at h
  refine lv_iload hx hb dX8_wordAt_39 (lv_at hl 5 rfl) ?_
  refine lv_iload_n hx hb dX8_wordAt_41 rfl (lv_at hl 2 rfl) ?_
  refine lv_iload_n hx hb dX8_wordAt_42 rfl (lv_at hl 1 rfl) ?_
  refine lv_isub hx hb dX8_wordAt_43 ?_
  refine lv_icmp_ne (tgt := 51) hx hb dX8_wordAt_44 (by decide) (fun c4 => ?_) (fun c4 => ?_)
  · have h := tx_neg c4 h
    refine lv_iconst (v := 0) hx hb dX8_wordAt_51 (by decide) ?_
    refine lv_istore (lv' := [(6, .int 0), (0, .ref (aa 0)), (1, .int x1), (2, .int x2), (3, .int x3), (4, .int x4), (5, .int x5)]) hx hb dX8_wordAt_52 hl (by decide) rfl (fun ls hl => ?_)
    refine lv_iconst (v := 0) hx hb dX8_wordAt_54 (by decide) ?_
    refine lv_istore (lv' := [(7, .int 0), (6, .int 0), (0, .ref (aa 0)), (1, .int x1), (2, .int x2), (3, .int x3), (4, .int x4), (5, .int x5)]) hx hb dX8_wordAt_55 hl (by decide) rfl (fun ls hl => ?_)
    exact w_X8_wordAt_L57 F k5 hk5 2000 0 0 H locs ls h hP hD hS (lv_sub hl [2, 3, 4, 5, 6, 7, 1, 0] rfl)
  · have h := tx_pos c4 h
    refine lv_iconst (v := 1) hx hb dX8_wordAt_47 (by decide) ?_
    refine lv_goto (tgt := 52) hx hb dX8_wordAt_48 (by decide) ?_
    refine lv_istore (lv' := [(6, .int 1), (0, .ref (aa 0)), (1, .int x1), (2, .int x2), (3, .int x3), (4, .int x4), (5, .int x5)]) hx hb dX8_wordAt_52 hl (by decide) rfl (fun ls hl => ?_)
    refine lv_iconst (v := 0) hx hb dX8_wordAt_54 (by decide) ?_
    refine lv_istore (lv' := [(7, .int 0), (6, .int 1), (0, .ref (aa 0)), (1, .int x1), (2, .int x2), (3, .int x3), (4, .int x4), (5, .int x5)]) hx hb dX8_wordAt_55 hl (by decide) rfl (fun ls hl => ?_)
    exact w_X8_wordAt_L57 F k5 hk5 2000 1 0 H locs ls h hP hD hS (lv_sub hl [2, 3, 4, 5, 6, 7, 1, 0] rfl)
set_option maxHeartbeats 4000000 in
set_option maxRecDepth 100000 in
theorem w_X8_wordAt_L18 {p : Program} {l : Launch} {e : Env} {s : State} {m : MethodId} {below : List Frame} {meth : Method} {c : Code} {G : va_G} {cA : Nat → ClassId} {A : Nat → Prop} {aa : Nat → Nat} {S : Tr} {L : Lo} {x1₀ : Int32} {x2₀ : Int32} {r0 : Int32} {x1 : Int32} {x2 : Int32} {x3 : Int32} {x4 : Int32} (F : tF p s m ([.ref (aa 0), .int x1₀, .int x2₀] : List Value).toArray meth c G cA A RX8 cX8_wordAt 8 (some .int))  (k5 : Int32 → Int32 → Option (Int32)) (hk5 : ∀ (x3 : Int32) (x4 : Int32) (H : Heap) (locs : List Loc) (ls : Array Slot), k5 x3 x4 = some r0 → va_P G vwCl (wM cA aa S L) H → va_D A (wM cA aa S L) → va_S A s.heap H locs → lv_has ls 8 [(0, .ref (aa 0)), (1, .int x1), (2, .int x2), (3, .int x3), (4, .int x4)] → G_X8_wordAt p l e s m below meth c G cA A aa S L x1₀ x2₀ r0 H locs (F0 m 5 ls [])) (N : Nat) : ∀ (x5 : Int32) (H : Heap) (locs : List Loc) (ls : Array Slot), lpF (fun _ => none) (fB_X8_wordAt_L18 k5 S x1 x2 x3 x4) N x5 = some r0 → va_P G vwCl (wM cA aa S L) H → va_D A (wM cA aa S L) → va_S A s.heap H locs → lv_has ls 8 [(0, .ref (aa 0)), (1, .int x1), (2, .int x2), (3, .int x3), (4, .int x4), (5, .int x5)] → G_X8_wordAt p l e s m below meth c G cA A aa S L x1₀ x2₀ r0 H locs (F0 m 18 ls []) := by
  obtain ⟨hx, hb, hr, hml, hT, hown, hlocks, hK, hN, hA⟩ := id F
  induction N with
  | zero =>
    intro x5 H locs ls h
    have h : (none : Option (Int32)) = some r0 := h
    cases h
  | succ N hk18 =>
    intro x5 H locs ls h hP hD hS hl
    have h : fB_X8_wordAt_L18 k5 S x1 x2 x3 x4 (lpF (fun _ => none) (fB_X8_wordAt_L18 k5 S x1 x2 x3 x4) N) x5 = some r0 := h
    generalize hk18e : lpF (fun _ => none) (fB_X8_wordAt_L18 k5 S x1 x2 x3 x4) N = k18 at h hk18
    unfold fB_X8_wordAt_L18 at h
    refine lv_aload_n hx hb dX8_wordAt_18 rfl (lv_at hl 0 rfl) ?_
    refine va_get (D := G) (ci := 8) (v := .ref (aa 4)) (C := RX8) (T := TX8) (N := 91) hx hb hT ku_8 hown hK hP 0 rfl rfl 3 (by decide) (hT _ kw_9_11) (fun _ h9 => h9) rfl dX8_wordAt_19 ?_
    refine lv_iload hx hb dX8_wordAt_22 (lv_at hl 4 rfl) ?_
    refine lv_iload hx hb dX8_wordAt_24 (lv_at hl 5 rfl) ?_
    refine lv_iadd hx hb dX8_wordAt_26 ?_
    obtain ⟨g2, h⟩ := tx_ck h
    refine va_iald (i := (x4 + x5)) hx hb hK hP 2 0 rfl rfl (tx_in g2) dX8_wordAt_27 ?_
    refine lv_bipush (v := 32) hx hb dX8_wordAt_28 (by decide) ?_
    refine lv_icmp_eq (tgt := 39) hx hb dX8_wordAt_30 (by decide) (fun c3 => ?_) (fun c3 => ?_)
    · have h := tx_pos c3 h
      exact w_X8_wordAt_J39 F k5 hk5 x3 x4 x5 H locs ls h hP hD hS (lv_sub hl [0, 1, 2, 3, 4, 5] rfl)
    · have h := tx_neg c3 h
      obtain ⟨y15, ey15, h⟩ := tx_lt h
      refine lv_iinc (v := y15) (lv' := [(5, .int y15), (0, .ref (aa 0)), (1, .int x1), (2, .int x2), (3, .int x3), (4, .int x4)]) hx hb dX8_wordAt_33 hl (k := 5) rfl ey15 (by decide) rfl (fun ls hl => ?_)
      refine lv_goto (tgt := 18) hx hb dX8_wordAt_36 (by decide) ?_
      exact hk18 y15 H locs ls h hP hD hS (lv_sub hl [1, 2, 3, 4, 5, 0] rfl)
set_option maxHeartbeats 4000000 in
set_option maxRecDepth 100000 in
theorem w_X8_wordAt_L5 {p : Program} {l : Launch} {e : Env} {s : State} {m : MethodId} {below : List Frame} {meth : Method} {c : Code} {G : va_G} {cA : Nat → ClassId} {A : Nat → Prop} {aa : Nat → Nat} {S : Tr} {L : Lo} {x1₀ : Int32} {x2₀ : Int32} {r0 : Int32} {x1 : Int32} {x2 : Int32} (F : tF p s m ([.ref (aa 0), .int x1₀, .int x2₀] : List Value).toArray meth c G cA A RX8 cX8_wordAt 8 (some .int))    (N : Nat) : ∀ (x3 : Int32) (x4 : Int32) (H : Heap) (locs : List Loc) (ls : Array Slot), lpF (fun _ _ => none) (fB_X8_wordAt_L5 S x1 x2) N x3 x4 = some r0 → va_P G vwCl (wM cA aa S L) H → va_D A (wM cA aa S L) → va_S A s.heap H locs → lv_has ls 8 [(0, .ref (aa 0)), (1, .int x1), (2, .int x2), (3, .int x3), (4, .int x4)] → G_X8_wordAt p l e s m below meth c G cA A aa S L x1₀ x2₀ r0 H locs (F0 m 5 ls []) := by
  obtain ⟨hx, hb, hr, hml, hT, hown, hlocks, hK, hN, hA⟩ := id F
  induction N with
  | zero =>
    intro x3 x4 H locs ls h
    have h : (none : Option (Int32)) = some r0 := h
    cases h
  | succ N hk5 =>
    intro x3 x4 H locs ls h hP hD hS hl
    have h : fB_X8_wordAt_L5 S x1 x2 (lpF (fun _ _ => none) (fB_X8_wordAt_L5 S x1 x2) N) x3 x4 = some r0 := h
    generalize hk5e : lpF (fun _ _ => none) (fB_X8_wordAt_L5 S x1 x2) N = k5 at h hk5
    unfold fB_X8_wordAt_L5 at h
    refine lv_iload hx hb dX8_wordAt_5 (lv_at hl 4 rfl) ?_
    refine lv_aload_n hx hb dX8_wordAt_7 rfl (lv_at hl 0 rfl) ?_
    refine va_get (D := G) (ci := 8) (v := .ref (aa 4)) (C := RX8) (T := TX8) (N := 91) hx hb hT ku_8 hown hK hP 0 rfl rfl 3 (by decide) (hT _ kw_9_11) (fun _ h9 => h9) rfl dX8_wordAt_8 ?_
    refine va_alen (v := 153) hx hb hK hP 2 0 rfl rfl (by decide) dX8_wordAt_11 ?_
    refine lv_icmp_ge (tgt := 126) hx hb dX8_wordAt_12 (by decide) (fun c1 => ?_) (fun c1 => ?_)
    · have h := tx_pos c1 h
      refine lv_iconst (v := (-1)) hx hb dX8_wordAt_126 (by decide) ?_
      obtain rfl := tx_1 h
      exact W.iret hx hb hr (fun t ht hW => ⟨⟨_, (), rfl, rfl, by rw [ht]; exact hP, hD⟩, hS.F ht⟩) hS.2.2 dX8_wordAt_127
    · have h := tx_neg c1 h
      refine lv_iconst (v := 0) hx hb dX8_wordAt_15 (by decide) ?_
      refine lv_istore (lv' := [(5, .int 0), (0, .ref (aa 0)), (1, .int x1), (2, .int x2), (3, .int x3), (4, .int x4)]) hx hb dX8_wordAt_16 hl (by decide) rfl (fun ls hl => ?_)
      exact w_X8_wordAt_L18 F k5 hk5 2000 0 H locs ls h hP hD hS (lv_sub hl [1, 2, 3, 4, 5, 0] rfl)
set_option maxHeartbeats 4000000 in
set_option maxRecDepth 100000 in
theorem c_X8_wordAt (l : Launch) (G : va_G) (cA : Nat → ClassId) (sz : Nat) (aa : Nat → Nat) (S : Tr) (L : Lo) (x1 : Int32) (x2 : Int32)  (r0 : Int32) (h : f_X8_wordAt S x1 x2 = some r0) : Met l yX8_wordAt (.code yX8_wordAt cX8_wordAt 8 (some .int) :: T0) ({ frames := 0, cells := 0, slots := 0, locals := 0 } : Room) (tqP G cA [.ref (aa 0), .int x1, .int x2] (wM cA aa S L) sz) (tqQi G cA (fun (r : Int32) (_ : Unit) => r = r0) (fun (_ : Unit) => wM cA aa S L) (va_A (wM cA aa S L) sz)) 0 0 (va_A (wM cA aa S L) sz) := by
  refine Met.ofW (cc := cX8_wordAt) (maxL := 8) (ret := (some .int)) (by decide) rfl ?_
  intro p e s m args below meth c s₁ B hml hv
  obtain ⟨rfl, hsz, hP, hK, hD0, hN⟩ := hv
  have hx := B.exec
  have hb := B.bytes
  have hr := B.returns
  have hts := atoms_spec (ws := .code yX8_wordAt cX8_wordAt 8 (some .int) :: T0) B.pre
  have hT : ∀ w ∈ T0, w.before _ s = true := fun w h => hts w (List.mem_cons_of_mem _ h)
  have hown : s.vm.findClass RX8 = some m.cls := findClass_of_methodNamed B.named
  have hlocks := B.notSynchronized
  subst hsz
  have hD := hD0.self (sz := s.heap.size)
  generalize hAe : va_A (wM cA aa S L) s.heap.size = A at hD ⊢
  have hA : ∀ q : Nat, s.heap.size ≤ q → A q := fun q h => by rw [← hAe]; exact Or.inr h
  have hS : va_S A s.heap s.heap [] := va_S.rf
  have hl := lv_entry ([.ref (aa 0), .int x1, .int x2]) (n := 8) (Nat.le_of_ble_eq_true rfl)
  rw [lg_entry_eq]
  generalize (lg_sl ([.ref (aa 0), .int x1, .int x2]) ++ List.replicate (8 - (lg_sl ([.ref (aa 0), .int x1, .int x2])).length) Slot.unset).toArray = ls at hl ⊢
  have hl : lv_has ls 8 [(0, .ref (aa 0)), (1, .int x1), (2, .int x2)] := hl
  have F : tF p s m ([.ref (aa 0), .int x1, .int x2] : List Value).toArray meth c G cA A RX8 cX8_wordAt 8 (some .int) := ⟨hx, hb, hr, hml, hT, hown, hlocks, hK, hN, hA⟩
  obtain ⟨H, hH⟩ : ∃ z, z = s.heap := ⟨_, rfl⟩
  rw [← hH] at hP
  have hS : va_S A s.heap H [] := by rw [hH]; exact hS
  suffices hgo : G_X8_wordAt p l e s m below meth c G cA A aa S L x1 x2 r0 H [] (F0 m 0 ls []) by rw [hH] at hgo; exact hgo
  generalize ([] : List Loc) = locs at hS ⊢
  unfold f_X8_wordAt at h
  refine lv_iconst (v := 0) hx hb dX8_wordAt_0 (by decide) ?_
  refine lv_istore_n (lv' := [(3, .int 0), (0, .ref (aa 0)), (1, .int x1), (2, .int x2)]) hx hb dX8_wordAt_1 rfl hl (by decide) rfl (fun ls hl => ?_)
  refine lv_iconst (v := 0) hx hb dX8_wordAt_2 (by decide) ?_
  refine lv_istore (lv' := [(4, .int 0), (3, .int 0), (0, .ref (aa 0)), (1, .int x1), (2, .int x2)]) hx hb dX8_wordAt_3 hl (by decide) rfl (fun ls hl => ?_)
  exact w_X8_wordAt_L5 F 2000 0 0 H locs ls h hP hD hS (lv_sub hl [2, 3, 4, 1, 0] rfl)
abbrev G_X8_packed (p : Program) (l : Launch) (e : Env) (s : State) (m : MethodId) (below : List Frame) (meth : Method) (c : Code) (G : va_G) (cA : Nat → ClassId) (A : Nat → Prop) (aa : Nat → Nat) (S : Tr) (L : Lo) (x1 : Int32) (x2 : Int32) (r0 : Int32) (H : Heap) (locs : List Loc) (g : JFrame) : Prop := W p l e (headSpec (.code yX8_packed cX8_packed 5 (some .int) :: T0) ({ frames := 0, cells := 0, slots := 0, locals := 0 } : Room)).room s m ([.ref (aa 0), .int x1, .int x2] : List Value).toArray below meth c H locs 0 0 (MQ below (tqQi G cA (fun (r : Int32) (_ : Unit) => r = r0) (fun (_ : Unit) => wM cA aa S L) A) ([.ref (aa 0), .int x1, .int x2] : List Value).toArray s 0 0 A) g
set_option maxHeartbeats 4000000 in
set_option maxRecDepth 100000 in
theorem w_X8_packed_L5 {p : Program} {l : Launch} {e : Env} {s : State} {m : MethodId} {below : List Frame} {meth : Method} {c : Code} {G : va_G} {cA : Nat → ClassId} {A : Nat → Prop} {aa : Nat → Nat} {S : Tr} {L : Lo} {x1₀ : Int32} {x2₀ : Int32} {r0 : Int32} {x1 : Int32} {x2 : Int32} (F : tF p s m ([.ref (aa 0), .int x1₀, .int x2₀] : List Value).toArray meth c G cA A RX8 cX8_packed 5 (some .int))    (N : Nat) : ∀ (x3 : Int32) (x4 : Int32) (H : Heap) (locs : List Loc) (ls : Array Slot), lpF (fun _ _ => none) (fB_X8_packed_L5 S x1 x2) N x3 x4 = some r0 → va_P G vwCl (wM cA aa S L) H → va_D A (wM cA aa S L) → va_S A s.heap H locs → lv_has ls 5 [(0, .ref (aa 0)), (1, .int x1), (2, .int x2), (3, .int x3), (4, .int x4)] → G_X8_packed p l e s m below meth c G cA A aa S L x1₀ x2₀ r0 H locs (F0 m 5 ls []) := by
  obtain ⟨hx, hb, hr, hml, hT, hown, hlocks, hK, hN, hA⟩ := id F
  induction N with
  | zero =>
    intro x3 x4 H locs ls h
    have h : (none : Option (Int32)) = some r0 := h
    cases h
  | succ N hk5 =>
    intro x3 x4 H locs ls h hP hD hS hl
    have h : fB_X8_packed_L5 S x1 x2 (lpF (fun _ _ => none) (fB_X8_packed_L5 S x1 x2) N) x3 x4 = some r0 := h
    generalize hk5e : lpF (fun _ _ => none) (fB_X8_packed_L5 S x1 x2) N = k5 at h hk5
    unfold fB_X8_packed_L5 at h
    refine lv_iload hx hb dX8_packed_5 (lv_at hl 4 rfl) ?_
    refine lv_iload_n hx hb dX8_packed_7 rfl (lv_at hl 1 rfl) ?_
    refine lv_bipush (v := 6) hx hb dX8_packed_8 (by decide) ?_
    refine lv_iadd hx hb dX8_packed_10 ?_
    refine lv_icmp_ge (tgt := 45) hx hb dX8_packed_11 (by decide) (fun c1 => ?_) (fun c1 => ?_)
    · have h := tx_pos c1 h
      refine lv_iload_n hx hb dX8_packed_45 rfl (lv_at hl 3 rfl) ?_
      obtain rfl := tx_1 h
      exact W.iret hx hb hr (fun t ht hW => ⟨⟨_, (), rfl, rfl, by rw [ht]; exact hP, hD⟩, hS.F ht⟩) hS.2.2 dX8_packed_46
    · have h := tx_neg c1 h
      refine lv_iload_n hx hb dX8_packed_14 rfl (lv_at hl 3 rfl) ?_
      refine lv_iconst (v := 5) hx hb dX8_packed_15 (by decide) ?_
      refine lv_ishl hx hb dX8_packed_16 ?_
      refine lv_iload hx hb dX8_packed_17 (lv_at hl 4 rfl) ?_
      refine lv_iload_n hx hb dX8_packed_19 rfl (lv_at hl 2 rfl) ?_
      refine lv_icmp_ge (tgt := 36) hx hb dX8_packed_20 (by decide) (fun c2 => ?_) (fun c2 => ?_)
      · have h := tx_pos c2 h
        refine lv_iconst (v := 0) hx hb dX8_packed_36 (by decide) ?_
        refine lv_ior hx hb dX8_packed_37 ?_
        refine lv_topi (fun y3 ey3 => ?_)
        have h := tx_let ey3 h
        refine lv_istore_n (lv' := [(3, .int y3), (0, .ref (aa 0)), (1, .int x1), (2, .int x2), (4, .int x4)]) hx hb dX8_packed_38 rfl hl (by decide) rfl (fun ls hl => ?_)
        obtain ⟨y4, ey4, h⟩ := tx_lt h
        refine lv_iinc (v := y4) (lv' := [(4, .int y4), (3, .int y3), (0, .ref (aa 0)), (1, .int x1), (2, .int x2)]) hx hb dX8_packed_39 hl (k := 4) rfl ey4 (by decide) rfl (fun ls hl => ?_)
        refine lv_goto (tgt := 5) hx hb dX8_packed_42 (by decide) ?_
        exact hk5 y3 y4 H locs ls h hP hD hS (lv_sub hl [2, 3, 4, 1, 0] rfl)
      · have h := tx_neg c2 h
        refine lv_aload_n hx hb dX8_packed_23 rfl (lv_at hl 0 rfl) ?_
        refine va_get (D := G) (ci := 8) (v := .ref (aa 1)) (C := RX8) (T := TX8) (N := 91) hx hb hT ku_8 hown hK hP 0 rfl rfl 0 (by decide) (hT _ kw_9_10) (fun _ h9 => h9) rfl dX8_packed_24 ?_
        refine lv_iload hx hb dX8_packed_27 (lv_at hl 4 rfl) ?_
        obtain ⟨g5, h⟩ := tx_ck h
        refine va_iald (i := x4) hx hb hK hP 1 0 rfl rfl (tx_in g5) dX8_packed_29 ?_
        refine lv_bipush (v := 96) hx hb dX8_packed_30 (by decide) ?_
        refine lv_isub hx hb dX8_packed_32 ?_
        refine lv_goto (tgt := 37) hx hb dX8_packed_33 (by decide) ?_
        refine lv_ior hx hb dX8_packed_37 ?_
        refine lv_topi (fun y6 ey6 => ?_)
        have h := tx_let ey6 h
        refine lv_istore_n (lv' := [(3, .int y6), (0, .ref (aa 0)), (1, .int x1), (2, .int x2), (4, .int x4)]) hx hb dX8_packed_38 rfl hl (by decide) rfl (fun ls hl => ?_)
        obtain ⟨y7, ey7, h⟩ := tx_lt h
        refine lv_iinc (v := y7) (lv' := [(4, .int y7), (3, .int y6), (0, .ref (aa 0)), (1, .int x1), (2, .int x2)]) hx hb dX8_packed_39 hl (k := 4) rfl ey7 (by decide) rfl (fun ls hl => ?_)
        refine lv_goto (tgt := 5) hx hb dX8_packed_42 (by decide) ?_
        exact hk5 y6 y7 H locs ls h hP hD hS (lv_sub hl [2, 3, 4, 1, 0] rfl)
set_option maxHeartbeats 4000000 in
set_option maxRecDepth 100000 in
theorem c_X8_packed (l : Launch) (G : va_G) (cA : Nat → ClassId) (sz : Nat) (aa : Nat → Nat) (S : Tr) (L : Lo) (x1 : Int32) (x2 : Int32)  (r0 : Int32) (h : f_X8_packed S x1 x2 = some r0) : Met l yX8_packed (.code yX8_packed cX8_packed 5 (some .int) :: T0) ({ frames := 0, cells := 0, slots := 0, locals := 0 } : Room) (tqP G cA [.ref (aa 0), .int x1, .int x2] (wM cA aa S L) sz) (tqQi G cA (fun (r : Int32) (_ : Unit) => r = r0) (fun (_ : Unit) => wM cA aa S L) (va_A (wM cA aa S L) sz)) 0 0 (va_A (wM cA aa S L) sz) := by
  refine Met.ofW (cc := cX8_packed) (maxL := 5) (ret := (some .int)) (by decide) rfl ?_
  intro p e s m args below meth c s₁ B hml hv
  obtain ⟨rfl, hsz, hP, hK, hD0, hN⟩ := hv
  have hx := B.exec
  have hb := B.bytes
  have hr := B.returns
  have hts := atoms_spec (ws := .code yX8_packed cX8_packed 5 (some .int) :: T0) B.pre
  have hT : ∀ w ∈ T0, w.before _ s = true := fun w h => hts w (List.mem_cons_of_mem _ h)
  have hown : s.vm.findClass RX8 = some m.cls := findClass_of_methodNamed B.named
  have hlocks := B.notSynchronized
  subst hsz
  have hD := hD0.self (sz := s.heap.size)
  generalize hAe : va_A (wM cA aa S L) s.heap.size = A at hD ⊢
  have hA : ∀ q : Nat, s.heap.size ≤ q → A q := fun q h => by rw [← hAe]; exact Or.inr h
  have hS : va_S A s.heap s.heap [] := va_S.rf
  have hl := lv_entry ([.ref (aa 0), .int x1, .int x2]) (n := 5) (Nat.le_of_ble_eq_true rfl)
  rw [lg_entry_eq]
  generalize (lg_sl ([.ref (aa 0), .int x1, .int x2]) ++ List.replicate (5 - (lg_sl ([.ref (aa 0), .int x1, .int x2])).length) Slot.unset).toArray = ls at hl ⊢
  have hl : lv_has ls 5 [(0, .ref (aa 0)), (1, .int x1), (2, .int x2)] := hl
  have F : tF p s m ([.ref (aa 0), .int x1, .int x2] : List Value).toArray meth c G cA A RX8 cX8_packed 5 (some .int) := ⟨hx, hb, hr, hml, hT, hown, hlocks, hK, hN, hA⟩
  obtain ⟨H, hH⟩ : ∃ z, z = s.heap := ⟨_, rfl⟩
  rw [← hH] at hP
  have hS : va_S A s.heap H [] := by rw [hH]; exact hS
  suffices hgo : G_X8_packed p l e s m below meth c G cA A aa S L x1 x2 r0 H [] (F0 m 0 ls []) by rw [hH] at hgo; exact hgo
  generalize ([] : List Loc) = locs at hS ⊢
  unfold f_X8_packed at h
  refine lv_iconst (v := 0) hx hb dX8_packed_0 (by decide) ?_
  refine lv_istore_n (lv' := [(3, .int 0), (0, .ref (aa 0)), (1, .int x1), (2, .int x2)]) hx hb dX8_packed_1 rfl hl (by decide) rfl (fun ls hl => ?_)
  refine lv_iload_n hx hb dX8_packed_2 rfl (lv_at hl 2 rfl) ?_
  refine lv_istore (lv' := [(4, .int x1), (3, .int 0), (0, .ref (aa 0)), (1, .int x1), (2, .int x2)]) hx hb dX8_packed_3 hl (by decide) rfl (fun ls hl => ?_)
  exact w_X8_packed_L5 F 2000 0 x1 H locs ls h hP hD hS (lv_sub hl [2, 3, 4, 1, 0] rfl)
abbrev G_X8_signToken (p : Program) (l : Launch) (e : Env) (s : State) (m : MethodId) (below : List Frame) (meth : Method) (c : Code) (G : va_G) (cA : Nat → ClassId) (A : Nat → Prop) (aa : Nat → Nat) (L : Lo) (S' : Tr) (H : Heap) (locs : List Loc) (g : JFrame) : Prop := W p l e (headSpec (.code yX8_signToken cX8_signToken 4 none :: T0) ({ frames := 0, cells := 0, slots := 0, locals := 0 } : Room)).room s m ([.ref (aa 0)] : List Value).toArray below meth c H locs 0 0 (MQ below (tqQv G cA (fun (_ : Unit) => True) (fun (_ : Unit) => wM cA aa S' L) A) ([.ref (aa 0)] : List Value).toArray s 0 0 A) g
set_option maxHeartbeats 4000000 in
set_option maxRecDepth 100000 in
theorem w_X8_signToken_J192 {p : Program} {l : Launch} {e : Env} {s : State} {m : MethodId} {below : List Frame} {meth : Method} {c : Code} {G : va_G} {cA : Nat → ClassId} {A : Nat → Prop} {aa : Nat → Nat} {L : Lo} {S' : Tr} (F : tF p s m ([.ref (aa 0)] : List Value).toArray meth c G cA A RX8 cX8_signToken 4 none)    (s0 : Int32) (S : Tr) (H : Heap) (locs : List Loc) (ls : Array Slot) (h : fJ_X8_signToken_J192 s0 S = some S') (hP : va_P G vwCl (wM cA aa S_14 L) H) (hD : va_D A (wM cA aa S_14 L)) (hS : va_S A s.heap H locs) (hl : lv_has ls 4 []) : G_X8_signToken p l e s m below meth c G cA A aa L S' H locs (F0 m 192 ls []) := by
  obtain ⟨hx, hb, hr, hml, hT, hown, hlocks, hK, hN, hA⟩ := id F
  unfold fJ_X8_signToken_J192 at h
  refine va_put (D := G) (ci := 8) (v := .int s0) (ty := .int) (C := RX8) (T := TX8) (N := 91) hx hb hT ku_8 tyX8 tyX8_ok nmX8 hown hK hP hD hS 0 rfl rfl 9 (by decide) (hT _ kw_22_20) (fun _ h9 => h9) rfl (by decide +kernel) rfl rfl (Nat.le_of_ble_eq_true rfl) dX8_signToken_192 (fun H locs hP hD hS => ?_)
  obtain ⟨S_14, eS_14, h⟩ := tx_lt h
  rw [sM_f9, eS_14] at hP hD
  refine lv_goto (tgt := 290) hx hb dX8_signToken_195 (by decide) ?_
  obtain rfl := tx_1 h
  exact W.vret hx hb hr (fun t ht hW => ⟨⟨(), rfl, trivial, by rw [ht]; exact hP, hD⟩, hS.F ht⟩) hS.2.2 dX8_signToken_290
set_option maxHeartbeats 4000000 in
set_option maxRecDepth 100000 in
theorem w_X8_signToken_J135 {p : Program} {l : Launch} {e : Env} {s : State} {m : MethodId} {below : List Frame} {meth : Method} {c : Code} {G : va_G} {cA : Nat → ClassId} {A : Nat → Prop} {aa : Nat → Nat} {L : Lo} {S' : Tr} (F : tF p s m ([.ref (aa 0)] : List Value).toArray meth c G cA A RX8 cX8_signToken 4 none)    (x2 : Int32) (x3 : Int32) (S : Tr) (H : Heap) (locs : List Loc) (ls : Array Slot) (h : fJ_X8_signToken_J135 x2 x3 S = some S') (hP : va_P G vwCl (wM cA aa S_10 L) H) (hD : va_D A (wM cA aa S_10 L)) (hS : va_S A s.heap H locs) (hl : lv_has ls 4 [(0, .ref (aa 0)), (2, .int x2), (3, .int x3)]) : G_X8_signToken p l e s m below meth c G cA A aa L S' H locs (F0 m 135 ls [.ref (aa 0)]) := by
  obtain ⟨hx, hb, hr, hml, hT, hown, hlocks, hK, hN, hA⟩ := id F
  unfold fJ_X8_signToken_J135 at h
  refine lv_aload_n hx hb dX8_signToken_135 rfl (lv_at hl 0 rfl) ?_
  refine lv_iconst (v := 5) hx hb dX8_signToken_136 (by decide) ?_
  refine va_put (D := G) (ci := 8) (v := .int 5) (ty := .int) (C := RX8) (T := TX8) (N := 91) hx hb hT ku_8 tyX8 tyX8_ok nmX8 hown hK hP hD hS 0 rfl rfl 8 (by decide) (hT _ kw_22_14) (fun _ h9 => h9) rfl (by decide +kernel) rfl rfl (Nat.le_of_ble_eq_true rfl) dX8_signToken_137 (fun H locs hP hD hS => ?_)
  obtain ⟨S_10, eS_10, h⟩ := tx_lt h
  rw [sM_f8, eS_10] at hP hD
  refine lv_aload_n hx hb dX8_signToken_140 rfl (lv_at hl 0 rfl) ?_
  refine lv_aload_n hx hb dX8_signToken_141 rfl (lv_at hl 0 rfl) ?_
  refine va_get (D := G) (ci := 8) (v := .int (S_10 0 9)) (C := RX8) (T := TX8) (N := 91) hx hb hT ku_8 hown hK hP 0 rfl rfl 9 (by decide) (hT _ kw_22_20) (fun _ h9 => h9) rfl dX8_signToken_142 ?_
  refine lv_bipush (v := 61) hx hb dX8_signToken_145 (by decide) ?_
  refine lv_icmp_ne (tgt := 154) hx hb dX8_signToken_147 (by decide) (fun c11 => ?_) (fun c11 => ?_)
  · have h := tx_neg c11 h
    refine lv_aload_n hx hb dX8_signToken_154 rfl (lv_at hl 0 rfl) ?_
    refine va_get (D := G) (ci := 8) (v := .int (S_10 0 9)) (C := RX8) (T := TX8) (N := 91) hx hb hT ku_8 hown hK hP 0 rfl rfl 9 (by decide) (hT _ kw_22_20) (fun _ h9 => h9) rfl dX8_signToken_155 ?_
    refine lv_bipush (v := 60) hx hb dX8_signToken_158 (by decide) ?_
    refine lv_icmp_ne (tgt := 183) hx hb dX8_signToken_160 (by decide) (fun c12 => ?_) (fun c12 => ?_)
    · have h := tx_neg c12 h
      refine lv_iload_n hx hb dX8_signToken_183 rfl (lv_at hl 1 rfl) ?_
      refine lv_if_eq (tgt := 191) hx hb dX8_signToken_184 (by decide) (fun c13 => ?_) (fun c13 => ?_)
      · have h := tx_pos c13 h
        refine lv_iconst (v := 5) hx hb dX8_signToken_191 (by decide) ?_
        exact w_X8_signToken_J192 F 5 S_10 H locs ls h hP hD hS (lv_sub hl [] rfl)
      · have h := tx_neg c13 h
        refine lv_iconst (v := 4) hx hb dX8_signToken_187 (by decide) ?_
        refine lv_goto (tgt := 192) hx hb dX8_signToken_188 (by decide) ?_
        exact w_X8_signToken_J192 F 4 S_10 H locs ls h hP hD hS (lv_sub hl [] rfl)
    · have h := tx_pos c12 h
      refine lv_iload_n hx hb dX8_signToken_163 rfl (lv_at hl 1 rfl) ?_
      refine lv_if_eq (tgt := 171) hx hb dX8_signToken_164 (by decide) (fun c15 => ?_) (fun c15 => ?_)
      · have h := tx_pos c15 h
        refine lv_iload_n hx hb dX8_signToken_171 rfl (lv_at hl 2 rfl) ?_
        refine lv_if_eq (tgt := 179) hx hb dX8_signToken_172 (by decide) (fun c16 => ?_) (fun c16 => ?_)
        · have h := tx_pos c16 h
          refine lv_iconst (v := 0) hx hb dX8_signToken_179 (by decide) ?_
          refine lv_goto (tgt := 192) hx hb dX8_signToken_180 (by decide) ?_
          exact w_X8_signToken_J192 F 0 S_10 H locs ls h hP hD hS (lv_sub hl [] rfl)
        · have h := tx_neg c16 h
          refine lv_iconst (v := 3) hx hb dX8_signToken_175 (by decide) ?_
          refine lv_goto (tgt := 192) hx hb dX8_signToken_176 (by decide) ?_
          exact w_X8_signToken_J192 F 3 S_10 H locs ls h hP hD hS (lv_sub hl [] rfl)
      · have h := tx_neg c15 h
        refine lv_iconst (v := 1) hx hb dX8_signToken_167 (by decide) ?_
        refine lv_goto (tgt := 192) hx hb dX8_signToken_168 (by decide) ?_
        exact w_X8_signToken_J192 F 1 S_10 H locs ls h hP hD hS (lv_sub hl [] rfl)
  · have h := tx_pos c11 h
    refine lv_iconst (v := 2) hx hb dX8_signToken_150 (by decide) ?_
    refine lv_goto (tgt := 192) hx hb dX8_signToken_151 (by decide) ?_
    exact w_X8_signToken_J192 F 2 S_10 H locs ls h hP hD hS (lv_sub hl [] rfl)
set_option maxHeartbeats 4000000 in
set_option maxRecDepth 100000 in
theorem w_X8_signToken_J125 {p : Program} {l : Launch} {e : Env} {s : State} {m : MethodId} {below : List Frame} {meth : Method} {c : Code} {G : va_G} {cA : Nat → ClassId} {A : Nat → Prop} {aa : Nat → Nat} {L : Lo} {S' : Tr} (F : tF p s m ([.ref (aa 0)] : List Value).toArray meth c G cA A RX8 cX8_signToken 4 none)    (x2 : Int32) (x3 : Int32) (S : Tr) (H : Heap) (locs : List Loc) (ls : Array Slot) (h : fJ_X8_signToken_J125 x2 x3 S = some S') (hP : va_P G vwCl (wM cA aa S_9 L) H) (hD : va_D A (wM cA aa S_9 L)) (hS : va_S A s.heap H locs) (hl : lv_has ls 4 [(0, .ref (aa 0)), (2, .int x2), (3, .int x3)]) : G_X8_signToken p l e s m below meth c G cA A aa L S' H locs (F0 m 125 ls []) := by
  obtain ⟨hx, hb, hr, hml, hT, hown, hlocks, hK, hN, hA⟩ := id F
  unfold fJ_X8_signToken_J125 at h
  refine lv_aload_n hx hb dX8_signToken_125 rfl (lv_at hl 0 rfl) ?_
  refine lv_dup hx hb dX8_signToken_126 rfl ?_
  refine va_get (D := G) (ci := 8) (v := .int (S 0 7)) (C := RX8) (T := TX8) (N := 91) hx hb hT ku_8 hown hK hP 0 rfl rfl 7 (by decide) (hT _ kw_22_13) (fun _ h9 => h9) rfl dX8_signToken_127 ?_
  refine lv_iconst (v := 1) hx hb dX8_signToken_130 (by decide) ?_
  refine lv_iadd hx hb dX8_signToken_131 ?_
  refine va_put (D := G) (ci := 8) (v := .int ((S 0 7) + 1)) (ty := .int) (C := RX8) (T := TX8) (N := 91) hx hb hT ku_8 tyX8 tyX8_ok nmX8 hown hK hP hD hS 0 rfl rfl 7 (by decide) (hT _ kw_22_13) (fun _ h9 => h9) rfl (by decide +kernel) rfl rfl (Nat.le_of_ble_eq_true rfl) dX8_signToken_132 (fun H locs hP hD hS => ?_)
  obtain ⟨S_9, eS_9, h⟩ := tx_lt h
  rw [sM_f7, eS_9] at hP hD
  exact w_X8_signToken_J135 F x2 x3 S_9 H locs ls h hP hD hS (lv_sub hl [0, 1, 2] rfl)
set_option maxHeartbeats 4000000 in
set_option maxRecDepth 100000 in
theorem w_X8_signToken_J116 {p : Program} {l : Launch} {e : Env} {s : State} {m : MethodId} {below : List Frame} {meth : Method} {c : Code} {G : va_G} {cA : Nat → ClassId} {A : Nat → Prop} {aa : Nat → Nat} {L : Lo} {S' : Tr} (F : tF p s m ([.ref (aa 0)] : List Value).toArray meth c G cA A RX8 cX8_signToken 4 none)    (x2 : Int32) (s0 : Int32) (S : Tr) (H : Heap) (locs : List Loc) (ls : Array Slot) (h : fJ_X8_signToken_J116 x2 s0 S = some S') (hP : va_P G vwCl (wM cA aa S L) H) (hD : va_D A (wM cA aa S L)) (hS : va_S A s.heap H locs) (hl : lv_has ls 4 [(3, .int s0), (0, .ref (aa 0)), (2, .int x2)]) : G_X8_signToken p l e s m below meth c G cA A aa L S' H locs (F0 m 116 ls []) := by
  obtain ⟨hx, hb, hr, hml, hT, hown, hlocks, hK, hN, hA⟩ := id F
  unfold fJ_X8_signToken_J116 at h
  refine lv_istore_n (lv' := [(3, .int s0), (0, .ref (aa 0)), (2, .int x2)]) hx hb dX8_signToken_116 rfl hl (by decide) rfl (fun ls hl => ?_)
  refine lv_iload_n hx hb dX8_signToken_117 rfl (lv_at hl 2 rfl) ?_
  refine lv_if_ne (tgt := 125) hx hb dX8_signToken_118 (by decide) (fun c8 => ?_) (fun c8 => ?_)
  · have h := tx_neg c8 h
    exact w_X8_signToken_J125 F x2 s0 S H locs ls h hP hD hS (lv_sub hl [1, 2, 0] rfl)
  · have h := tx_pos c8 h
    refine lv_iload_n hx hb dX8_signToken_121 rfl (lv_at hl 0 rfl) ?_
    refine lv_if_eq (tgt := 135) hx hb dX8_signToken_122 (by decide) (fun c17 => ?_) (fun c17 => ?_)
    · have h := tx_pos c17 h
      exact w_X8_signToken_J135 F x2 s0 S H locs ls h hP hD hS (lv_sub hl [1, 2, 0] rfl)
    · have h := tx_neg c17 h
      exact w_X8_signToken_J125 F x2 s0 S H locs ls h hP hD hS (lv_sub hl [1, 2, 0] rfl)
set_option maxHeartbeats 4000000 in
set_option maxRecDepth 100000 in
theorem w_X8_signToken_J115 {p : Program} {l : Launch} {e : Env} {s : State} {m : MethodId} {below : List Frame} {meth : Method} {c : Code} {G : va_G} {cA : Nat → ClassId} {A : Nat → Prop} {aa : Nat → Nat} {L : Lo} {S' : Tr} (F : tF p s m ([.ref (aa 0)] : List Value).toArray meth c G cA A RX8 cX8_signToken 4 none)    (x2 : Int32) (S : Tr) (H : Heap) (locs : List Loc) (ls : Array Slot) (h : fJ_X8_signToken_J115 x2 S = some S') (hP : va_P G vwCl (wM cA aa S L) H) (hD : va_D A (wM cA aa S L)) (hS : va_S A s.heap H locs) (hl : lv_has ls 4 [(0, .ref (aa 0)), (2, .int x2)]) : G_X8_signToken p l e s m below meth c G cA A aa L S' H locs (F0 m 115 ls [.int 0]) := by
  obtain ⟨hx, hb, hr, hml, hT, hown, hlocks, hK, hN, hA⟩ := id F
  unfold fJ_X8_signToken_J115 at h
  refine lv_iconst (v := 0) hx hb dX8_signToken_115 (by decide) ?_
  exact w_X8_signToken_J116 F x2 0 S H locs ls h hP hD hS (lv_sub hl [0, 1] rfl)
set_option maxHeartbeats 4000000 in
set_option maxRecDepth 100000 in
theorem w_X8_signToken_J95 {p : Program} {l : Launch} {e : Env} {s : State} {m : MethodId} {below : List Frame} {meth : Method} {c : Code} {G : va_G} {cA : Nat → ClassId} {A : Nat → Prop} {aa : Nat → Nat} {L : Lo} {S' : Tr} (F : tF p s m ([.ref (aa 0)] : List Value).toArray meth c G cA A RX8 cX8_signToken 4 none)    (x1 : Int32) (s0 : Int32) (S : Tr) (H : Heap) (locs : List Loc) (ls : Array Slot) (h : fJ_X8_signToken_J95 x1 s0 S = some S') (hP : va_P G vwCl (wM cA aa S L) H) (hD : va_D A (wM cA aa S L)) (hS : va_S A s.heap H locs) (hl : lv_has ls 4 [(2, .int s0), (0, .ref (aa 0)), (1, .int x1)]) : G_X8_signToken p l e s m below meth c G cA A aa L S' H locs (F0 m 95 ls []) := by
  obtain ⟨hx, hb, hr, hml, hT, hown, hlocks, hK, hN, hA⟩ := id F
  unfold fJ_X8_signToken_J95 at h
  refine lv_istore_n (lv' := [(2, .int s0), (0, .ref (aa 0)), (1, .int x1)]) hx hb dX8_signToken_95 rfl hl (by decide) rfl (fun ls hl => ?_)
  refine lv_aload_n hx hb dX8_signToken_96 rfl (lv_at hl 1 rfl) ?_
  refine va_get (D := G) (ci := 8) (v := .int (S 0 9)) (C := RX8) (T := TX8) (N := 91) hx hb hT ku_8 hown hK hP 0 rfl rfl 9 (by decide) (hT _ kw_22_20) (fun _ h9 => h9) rfl dX8_signToken_97 ?_
  refine lv_bipush (v := 60) hx hb dX8_signToken_100 (by decide) ?_
  refine lv_icmp_ne (tgt := 115) hx hb dX8_signToken_102 (by decide) (fun c7 => ?_) (fun c7 => ?_)
  · have h := tx_neg c7 h
    exact w_X8_signToken_J115 F s0 S H locs ls h hP hD hS (lv_sub hl [1, 0] rfl)
  · have h := tx_pos c7 h
    refine lv_iload_n hx hb dX8_signToken_105 rfl (lv_at hl 2 rfl) ?_
    refine lv_bipush (v := 62) hx hb dX8_signToken_106 (by decide) ?_
    refine lv_icmp_ne (tgt := 115) hx hb dX8_signToken_108 (by decide) (fun c18 => ?_) (fun c18 => ?_)
    · have h := tx_neg c18 h
      exact w_X8_signToken_J115 F s0 S H locs ls h hP hD hS (lv_sub hl [1, 0] rfl)
    · have h := tx_pos c18 h
      refine lv_iconst (v := 1) hx hb dX8_signToken_111 (by decide) ?_
      refine lv_goto (tgt := 116) hx hb dX8_signToken_112 (by decide) ?_
      exact w_X8_signToken_J116 F s0 1 S H locs ls h hP hD hS (lv_sub hl [1, 0] rfl)
set_option maxHeartbeats 4000000 in
set_option maxRecDepth 100000 in
theorem w_X8_signToken_J94 {p : Program} {l : Launch} {e : Env} {s : State} {m : MethodId} {below : List Frame} {meth : Method} {c : Code} {G : va_G} {cA : Nat → ClassId} {A : Nat → Prop} {aa : Nat → Nat} {L : Lo} {S' : Tr} (F : tF p s m ([.ref (aa 0)] : List Value).toArray meth c G cA A RX8 cX8_signToken 4 none)    (x1 : Int32) (S : Tr) (H : Heap) (locs : List Loc) (ls : Array Slot) (h : fJ_X8_signToken_J94 x1 S = some S') (hP : va_P G vwCl (wM cA aa S L) H) (hD : va_D A (wM cA aa S L)) (hS : va_S A s.heap H locs) (hl : lv_has ls 4 [(0, .ref (aa 0)), (1, .int x1)]) : G_X8_signToken p l e s m below meth c G cA A aa L S' H locs (F0 m 94 ls [.int 0]) := by
  obtain ⟨hx, hb, hr, hml, hT, hown, hlocks, hK, hN, hA⟩ := id F
  unfold fJ_X8_signToken_J94 at h
  refine lv_iconst (v := 0) hx hb dX8_signToken_94 (by decide) ?_
  exact w_X8_signToken_J95 F x1 0 S H locs ls h hP hD hS (lv_sub hl [0, 1] rfl)
set_option maxHeartbeats 4000000 in
set_option maxRecDepth 100000 in
theorem w_X8_signToken_J74 {p : Program} {l : Launch} {e : Env} {s : State} {m : MethodId} {below : List Frame} {meth : Method} {c : Code} {G : va_G} {cA : Nat → ClassId} {A : Nat → Prop} {aa : Nat → Nat} {L : Lo} {S' : Tr} (F : tF p s m ([.ref (aa 0)] : List Value).toArray meth c G cA A RX8 cX8_signToken 4 none)    (s0 : Int32) (S : Tr) (H : Heap) (locs : List Loc) (ls : Array Slot) (h : fJ_X8_signToken_J74 s0 S = some S') (hP : va_P G vwCl (wM cA aa S L) H) (hD : va_D A (wM cA aa S L)) (hS : va_S A s.heap H locs) (hl : lv_has ls 4 [(1, .int s0), (0, .ref (aa 0))]) : G_X8_signToken p l e s m below meth c G cA A aa L S' H locs (F0 m 74 ls []) := by
  obtain ⟨hx, hb, hr, hml, hT, hown, hlocks, hK, hN, hA⟩ := id F
  unfold fJ_X8_signToken_J74 at h
  refine lv_istore_n (lv' := [(1, .int s0), (0, .ref (aa 0))]) hx hb dX8_signToken_74 rfl hl (by decide) rfl (fun ls hl => ?_)
  refine lv_aload_n hx hb dX8_signToken_75 rfl (lv_at hl 1 rfl) ?_
  refine va_get (D := G) (ci := 8) (v := .int (S 0 9)) (C := RX8) (T := TX8) (N := 91) hx hb hT ku_8 hown hK hP 0 rfl rfl 9 (by decide) (hT _ kw_22_20) (fun _ h9 => h9) rfl dX8_signToken_76 ?_
  refine lv_bipush (v := 61) hx hb dX8_signToken_79 (by decide) ?_
  refine lv_icmp_eq (tgt := 94) hx hb dX8_signToken_81 (by decide) (fun c6 => ?_) (fun c6 => ?_)
  · have h := tx_pos c6 h
    exact w_X8_signToken_J94 F s0 S H locs ls h hP hD hS (lv_sub hl [1, 0] rfl)
  · have h := tx_neg c6 h
    refine lv_iload_n hx hb dX8_signToken_84 rfl (lv_at hl 0 rfl) ?_
    refine lv_bipush (v := 61) hx hb dX8_signToken_85 (by decide) ?_
    refine lv_icmp_ne (tgt := 94) hx hb dX8_signToken_87 (by decide) (fun c19 => ?_) (fun c19 => ?_)
    · have h := tx_neg c19 h
      exact w_X8_signToken_J94 F s0 S H locs ls h hP hD hS (lv_sub hl [1, 0] rfl)
    · have h := tx_pos c19 h
      refine lv_iconst (v := 1) hx hb dX8_signToken_90 (by decide) ?_
      refine lv_goto (tgt := 95) hx hb dX8_signToken_91 (by decide) ?_
      exact w_X8_signToken_J95 F s0 1 S H locs ls h hP hD hS (lv_sub hl [1, 0] rfl)
set_option maxHeartbeats 4000000 in
set_option maxRecDepth 100000 in
theorem w_X8_signToken_J50 {p : Program} {l : Launch} {e : Env} {s : State} {m : MethodId} {below : List Frame} {meth : Method} {c : Code} {G : va_G} {cA : Nat → ClassId} {A : Nat → Prop} {aa : Nat → Nat} {L : Lo} {S' : Tr} (F : tF p s m ([.ref (aa 0)] : List Value).toArray meth c G cA A RX8 cX8_signToken 4 none)    (S : Tr) (H : Heap) (locs : List Loc) (ls : Array Slot) (h : fJ_X8_signToken_J50 S = some S') (hP : va_P G vwCl (wM cA aa S L) H) (hD : va_D A (wM cA aa S L)) (hS : va_S A s.heap H locs) (hl : lv_has ls 4 [(0, .ref (aa 0))]) : G_X8_signToken p l e s m below meth c G cA A aa L S' H locs (F0 m 50 ls []) := by
  obtain ⟨hx, hb, hr, hml, hT, hown, hlocks, hK, hN, hA⟩ := id F
  unfold fJ_X8_signToken_J50 at h
  refine lv_aload_n hx hb dX8_signToken_50 rfl (lv_at hl 0 rfl) ?_
  refine va_get (D := G) (ci := 8) (v := .int (S 0 7)) (C := RX8) (T := TX8) (N := 91) hx hb hT ku_8 hown hK hP 0 rfl rfl 7 (by decide) (hT _ kw_22_13) (fun _ h9 => h9) rfl dX8_signToken_51 ?_
  refine lv_aload_n hx hb dX8_signToken_54 rfl (lv_at hl 0 rfl) ?_
  refine va_get (D := G) (ci := 8) (v := .int (S 0 6)) (C := RX8) (T := TX8) (N := 91) hx hb hT ku_8 hown hK hP 0 rfl rfl 6 (by decide) (hT _ kw_22_11) (fun _ h9 => h9) rfl dX8_signToken_55 ?_
  refine lv_icmp_ge (tgt := 73) hx hb dX8_signToken_58 (by decide) (fun c5 => ?_) (fun c5 => ?_)
  · have h := tx_pos c5 h
    refine lv_iconst (v := 0) hx hb dX8_signToken_73 (by decide) ?_
    exact w_X8_signToken_J74 F 0 S H locs ls h hP hD hS (lv_sub hl [0] rfl)
  · have h := tx_neg c5 h
    refine lv_aload_n hx hb dX8_signToken_61 rfl (lv_at hl 0 rfl) ?_
    refine va_get (D := G) (ci := 8) (v := .ref (aa 1)) (C := RX8) (T := TX8) (N := 91) hx hb hT ku_8 hown hK hP 0 rfl rfl 0 (by decide) (hT _ kw_9_10) (fun _ h9 => h9) rfl dX8_signToken_62 ?_
    refine lv_aload_n hx hb dX8_signToken_65 rfl (lv_at hl 0 rfl) ?_
    refine va_get (D := G) (ci := 8) (v := .int (S 0 7)) (C := RX8) (T := TX8) (N := 91) hx hb hT ku_8 hown hK hP 0 rfl rfl 7 (by decide) (hT _ kw_22_13) (fun _ h9 => h9) rfl dX8_signToken_66 ?_
    obtain ⟨g20, h⟩ := tx_ck h
    refine va_iald (i := (S 0 7)) hx hb hK hP 1 0 rfl rfl (tx_in g20) dX8_signToken_69 ?_
    refine lv_goto (tgt := 74) hx hb dX8_signToken_70 (by decide) ?_
    exact w_X8_signToken_J74 F (S 1 (S 0 7).toNatClampNeg) S H locs ls h hP hD hS (lv_sub hl [0] rfl)
set_option maxHeartbeats 4000000 in
set_option maxRecDepth 100000 in
theorem w_X8_signToken_J287 {p : Program} {l : Launch} {e : Env} {s : State} {m : MethodId} {below : List Frame} {meth : Method} {c : Code} {G : va_G} {cA : Nat → ClassId} {A : Nat → Prop} {aa : Nat → Nat} {L : Lo} {S' : Tr} (F : tF p s m ([.ref (aa 0)] : List Value).toArray meth c G cA A RX8 cX8_signToken 4 none)    (s0 : Int32) (S : Tr) (H : Heap) (locs : List Loc) (ls : Array Slot) (h : fJ_X8_signToken_J287 s0 S = some S') (hP : va_P G vwCl (wM cA aa S_25 L) H) (hD : va_D A (wM cA aa S_25 L)) (hS : va_S A s.heap H locs) (hl : lv_has ls 4 []) : G_X8_signToken p l e s m below meth c G cA A aa L S' H locs (F0 m 287 ls []) := by
  obtain ⟨hx, hb, hr, hml, hT, hown, hlocks, hK, hN, hA⟩ := id F
  unfold fJ_X8_signToken_J287 at h
  refine va_put (D := G) (ci := 8) (v := .int s0) (ty := .int) (C := RX8) (T := TX8) (N := 91) hx hb hT ku_8 tyX8 tyX8_ok nmX8 hown hK hP hD hS 0 rfl rfl 8 (by decide) (hT _ kw_22_14) (fun _ h9 => h9) rfl (by decide +kernel) rfl rfl (Nat.le_of_ble_eq_true rfl) dX8_signToken_287 (fun H locs hP hD hS => ?_)
  obtain ⟨S_25, eS_25, h⟩ := tx_lt h
  rw [sM_f8, eS_25] at hP hD
  obtain rfl := tx_1 h
  exact W.vret hx hb hr (fun t ht hW => ⟨⟨(), rfl, trivial, by rw [ht]; exact hP, hD⟩, hS.F ht⟩) hS.2.2 dX8_signToken_290
set_option maxHeartbeats 4000000 in
set_option maxRecDepth 100000 in
theorem w_X8_signToken_J275 {p : Program} {l : Launch} {e : Env} {s : State} {m : MethodId} {below : List Frame} {meth : Method} {c : Code} {G : va_G} {cA : Nat → ClassId} {A : Nat → Prop} {aa : Nat → Nat} {L : Lo} {S' : Tr} (F : tF p s m ([.ref (aa 0)] : List Value).toArray meth c G cA A RX8 cX8_signToken 4 none)    (s0 : Int32) (S : Tr) (H : Heap) (locs : List Loc) (ls : Array Slot) (h : fJ_X8_signToken_J275 s0 S = some S') (hP : va_P G vwCl (wM cA aa S L) H) (hD : va_D A (wM cA aa S L)) (hS : va_S A s.heap H locs) (hl : lv_has ls 4 [(1, .int s0), (0, .ref (aa 0))]) : G_X8_signToken p l e s m below meth c G cA A aa L S' H locs (F0 m 275 ls [.ref (aa 0)]) := by
  obtain ⟨hx, hb, hr, hml, hT, hown, hlocks, hK, hN, hA⟩ := id F
  unfold fJ_X8_signToken_J275 at h
  refine lv_istore_n (lv' := [(1, .int s0), (0, .ref (aa 0))]) hx hb dX8_signToken_275 rfl hl (by decide) rfl (fun ls hl => ?_)
  refine lv_aload_n hx hb dX8_signToken_276 rfl (lv_at hl 1 rfl) ?_
  refine lv_iload_n hx hb dX8_signToken_277 rfl (lv_at hl 0 rfl) ?_
  refine lv_if_eq (tgt := 285) hx hb dX8_signToken_278 (by decide) (fun c24 => ?_) (fun c24 => ?_)
  · have h := tx_pos c24 h
    refine lv_bipush (v := 6) hx hb dX8_signToken_285 (by decide) ?_
    exact w_X8_signToken_J287 F 6 S H locs ls h hP hD hS (lv_sub hl [] rfl)
  · have h := tx_neg c24 h
    refine lv_iconst (v := 4) hx hb dX8_signToken_281 (by decide) ?_
    refine lv_goto (tgt := 287) hx hb dX8_signToken_282 (by decide) ?_
    exact w_X8_signToken_J287 F 4 S H locs ls h hP hD hS (lv_sub hl [] rfl)
set_option maxHeartbeats 4000000 in
set_option maxRecDepth 100000 in
theorem w_X8_signToken_J270 {p : Program} {l : Launch} {e : Env} {s : State} {m : MethodId} {below : List Frame} {meth : Method} {c : Code} {G : va_G} {cA : Nat → ClassId} {A : Nat → Prop} {aa : Nat → Nat} {L : Lo} {S' : Tr} (F : tF p s m ([.ref (aa 0)] : List Value).toArray meth c G cA A RX8 cX8_signToken 4 none)    (S : Tr) (H : Heap) (locs : List Loc) (ls : Array Slot) (h : fJ_X8_signToken_J270 S = some S') (hP : va_P G vwCl (wM cA aa S L) H) (hD : va_D A (wM cA aa S L)) (hS : va_S A s.heap H locs) (hl : lv_has ls 4 [(0, .ref (aa 0))]) : G_X8_signToken p l e s m below meth c G cA A aa L S' H locs (F0 m 270 ls [.int 1]) := by
  obtain ⟨hx, hb, hr, hml, hT, hown, hlocks, hK, hN, hA⟩ := id F
  unfold fJ_X8_signToken_J270 at h
  refine lv_iconst (v := 1) hx hb dX8_signToken_270 (by decide) ?_
  refine lv_goto (tgt := 275) hx hb dX8_signToken_271 (by decide) ?_
  exact w_X8_signToken_J275 F 1 S H locs ls h hP hD hS (lv_sub hl [0] rfl)
set_option maxHeartbeats 4000000 in
set_option maxRecDepth 100000 in
theorem c_X8_signToken (l : Launch) (G : va_G) (cA : Nat → ClassId) (sz : Nat) (aa : Nat → Nat) (S : Tr) (L : Lo)  (S' : Tr) (h : f_X8_signToken S = some S') : Met l yX8_signToken (.code yX8_signToken cX8_signToken 4 none :: T0) ({ frames := 0, cells := 0, slots := 0, locals := 0 } : Room) (tqP G cA [.ref (aa 0)] (wM cA aa S L) sz) (tqQv G cA (fun (_ : Unit) => True) (fun (_ : Unit) => wM cA aa S' L) (va_A (wM cA aa S L) sz)) 0 0 (va_A (wM cA aa S L) sz) := by
  refine Met.ofW (cc := cX8_signToken) (maxL := 4) (ret := none) (by decide) rfl ?_
  intro p e s m args below meth c s₁ B hml hv
  obtain ⟨rfl, hsz, hP, hK, hD0, hN⟩ := hv
  have hx := B.exec
  have hb := B.bytes
  have hr := B.returns
  have hts := atoms_spec (ws := .code yX8_signToken cX8_signToken 4 none :: T0) B.pre
  have hT : ∀ w ∈ T0, w.before _ s = true := fun w h => hts w (List.mem_cons_of_mem _ h)
  have hown : s.vm.findClass RX8 = some m.cls := findClass_of_methodNamed B.named
  have hlocks := B.notSynchronized
  subst hsz
  have hD := hD0.self (sz := s.heap.size)
  generalize hAe : va_A (wM cA aa S L) s.heap.size = A at hD ⊢
  have hA : ∀ q : Nat, s.heap.size ≤ q → A q := fun q h => by rw [← hAe]; exact Or.inr h
  have hS : va_S A s.heap s.heap [] := va_S.rf
  have hl := lv_entry ([.ref (aa 0)]) (n := 4) (Nat.le_of_ble_eq_true rfl)
  rw [lg_entry_eq]
  generalize (lg_sl ([.ref (aa 0)]) ++ List.replicate (4 - (lg_sl ([.ref (aa 0)])).length) Slot.unset).toArray = ls at hl ⊢
  have hl : lv_has ls 4 [(0, .ref (aa 0))] := hl
  have F : tF p s m ([.ref (aa 0)] : List Value).toArray meth c G cA A RX8 cX8_signToken 4 none := ⟨hx, hb, hr, hml, hT, hown, hlocks, hK, hN, hA⟩
  obtain ⟨H, hH⟩ : ∃ z, z = s.heap := ⟨_, rfl⟩
  rw [← hH] at hP
  have hS : va_S A s.heap H [] := by rw [hH]; exact hS
  suffices hgo : G_X8_signToken p l e s m below meth c G cA A aa L S' H [] (F0 m 0 ls []) by rw [hH] at hgo; exact hgo
  generalize ([] : List Loc) = locs at hS ⊢
  unfold f_X8_signToken at h
  refine lv_aload_n hx hb dX8_signToken_0 rfl (lv_at hl 0 rfl) ?_
  refine lv_aload_n hx hb dX8_signToken_1 rfl (lv_at hl 0 rfl) ?_
  refine va_get (D := G) (ci := 8) (v := .ref (aa 1)) (C := RX8) (T := TX8) (N := 91) hx hb hT ku_8 hown hK hP 0 rfl rfl 0 (by decide) (hT _ kw_9_10) (fun _ h9 => h9) rfl dX8_signToken_2 ?_
  refine lv_aload_n hx hb dX8_signToken_5 rfl (lv_at hl 0 rfl) ?_
  refine va_get (D := G) (ci := 8) (v := .int (S 0 7)) (C := RX8) (T := TX8) (N := 91) hx hb hT ku_8 hown hK hP 0 rfl rfl 7 (by decide) (hT _ kw_22_13) (fun _ h9 => h9) rfl dX8_signToken_6 ?_
  obtain ⟨g1, h⟩ := tx_ck h
  refine va_iald (i := (S 0 7)) hx hb hK hP 1 0 rfl rfl (tx_in g1) dX8_signToken_9 ?_
  refine va_put (D := G) (ci := 8) (v := .int (S 1 (S 0 7).toNatClampNeg)) (ty := .int) (C := RX8) (T := TX8) (N := 91) hx hb hT ku_8 tyX8 tyX8_ok nmX8 hown hK hP hD hS 0 rfl rfl 9 (by decide) (hT _ kw_22_20) (fun _ h9 => h9) rfl (by decide +kernel) rfl rfl (Nat.le_of_ble_eq_true rfl) dX8_signToken_10 (fun H locs hP hD hS => ?_)
  obtain ⟨S_2, eS_2, h⟩ := tx_lt h
  rw [sM_f9, eS_2] at hP hD
  refine lv_aload_n hx hb dX8_signToken_13 rfl (lv_at hl 0 rfl) ?_
  refine lv_dup hx hb dX8_signToken_14 rfl ?_
  refine va_get (D := G) (ci := 8) (v := .int (S_2 0 7)) (C := RX8) (T := TX8) (N := 91) hx hb hT ku_8 hown hK hP 0 rfl rfl 7 (by decide) (hT _ kw_22_13) (fun _ h9 => h9) rfl dX8_signToken_15 ?_
  refine lv_iconst (v := 1) hx hb dX8_signToken_18 (by decide) ?_
  refine lv_iadd hx hb dX8_signToken_19 ?_
  refine va_put (D := G) (ci := 8) (v := .int ((S_2 0 7) + 1)) (ty := .int) (C := RX8) (T := TX8) (N := 91) hx hb hT ku_8 tyX8 tyX8_ok nmX8 hown hK hP hD hS 0 rfl rfl 7 (by decide) (hT _ kw_22_13) (fun _ h9 => h9) rfl (by decide +kernel) rfl rfl (Nat.le_of_ble_eq_true rfl) dX8_signToken_20 (fun H locs hP hD hS => ?_)
  obtain ⟨S_3, eS_3, h⟩ := tx_lt h
  rw [sM_f7, eS_3] at hP hD
  refine lv_aload_n hx hb dX8_signToken_23 rfl (lv_at hl 0 rfl) ?_
  refine va_get (D := G) (ci := 8) (v := .int (S_3 0 9)) (C := RX8) (T := TX8) (N := 91) hx hb hT ku_8 hown hK hP 0 rfl rfl 9 (by decide) (hT _ kw_22_20) (fun _ h9 => h9) rfl dX8_signToken_24 ?_
  refine lv_bipush (v := 60) hx hb dX8_signToken_27 (by decide) ?_
  refine lv_icmp_eq (tgt := 50) hx hb dX8_signToken_29 (by decide) (fun c4 => ?_) (fun c4 => ?_)
  · have h := tx_pos c4 h
    exact w_X8_signToken_J50 F S_3 H locs ls h hP hD hS (lv_sub hl [0] rfl)
  · have h := tx_neg c4 h
    refine lv_aload_n hx hb dX8_signToken_32 rfl (lv_at hl 0 rfl) ?_
    refine va_get (D := G) (ci := 8) (v := .int (S_3 0 9)) (C := RX8) (T := TX8) (N := 91) hx hb hT ku_8 hown hK hP 0 rfl rfl 9 (by decide) (hT _ kw_22_20) (fun _ h9 => h9) rfl dX8_signToken_33 ?_
    refine lv_bipush (v := 62) hx hb dX8_signToken_36 (by decide) ?_
    refine lv_icmp_eq (tgt := 50) hx hb dX8_signToken_38 (by decide) (fun c21 => ?_) (fun c21 => ?_)
    · have h := tx_pos c21 h
      exact w_X8_signToken_J50 F S_3 H locs ls h hP hD hS (lv_sub hl [0] rfl)
    · have h := tx_neg c21 h
      refine lv_aload_n hx hb dX8_signToken_41 rfl (lv_at hl 0 rfl) ?_
      refine va_get (D := G) (ci := 8) (v := .int (S_3 0 9)) (C := RX8) (T := TX8) (N := 91) hx hb hT ku_8 hown hK hP 0 rfl rfl 9 (by decide) (hT _ kw_22_20) (fun _ h9 => h9) rfl dX8_signToken_42 ?_
      refine lv_bipush (v := 61) hx hb dX8_signToken_45 (by decide) ?_
      refine lv_icmp_ne (tgt := 198) hx hb dX8_signToken_47 (by decide) (fun c22 => ?_) (fun c22 => ?_)
      · have h := tx_neg c22 h
        refine lv_aload_n hx hb dX8_signToken_198 rfl (lv_at hl 0 rfl) ?_
        refine va_get (D := G) (ci := 8) (v := .int (S_3 0 9)) (C := RX8) (T := TX8) (N := 91) hx hb hT ku_8 hown hK hP 0 rfl rfl 9 (by decide) (hT _ kw_22_20) (fun _ h9 => h9) rfl dX8_signToken_199 ?_
        refine lv_bipush (v := 59) hx hb dX8_signToken_202 (by decide) ?_
        refine lv_icmp_eq (tgt := 270) hx hb dX8_signToken_204 (by decide) (fun c23 => ?_) (fun c23 => ?_)
        · have h := tx_pos c23 h
          exact w_X8_signToken_J270 F S_3 H locs ls h hP hD hS (lv_sub hl [0] rfl)
        · have h := tx_neg c23 h
          refine lv_aload_n hx hb dX8_signToken_207 rfl (lv_at hl 0 rfl) ?_
          refine va_get (D := G) (ci := 8) (v := .int (S_3 0 9)) (C := RX8) (T := TX8) (N := 91) hx hb hT ku_8 hown hK hP 0 rfl rfl 9 (by decide) (hT _ kw_22_20) (fun _ h9 => h9) rfl dX8_signToken_208 ?_
          refine lv_bipush (v := 40) hx hb dX8_signToken_211 (by decide) ?_
          refine lv_icmp_eq (tgt := 270) hx hb dX8_signToken_213 (by decide) (fun c26 => ?_) (fun c26 => ?_)
          · have h := tx_pos c26 h
            exact w_X8_signToken_J270 F S_3 H locs ls h hP hD hS (lv_sub hl [0] rfl)
          · have h := tx_neg c26 h
            refine lv_aload_n hx hb dX8_signToken_216 rfl (lv_at hl 0 rfl) ?_
            refine va_get (D := G) (ci := 8) (v := .int (S_3 0 9)) (C := RX8) (T := TX8) (N := 91) hx hb hT ku_8 hown hK hP 0 rfl rfl 9 (by decide) (hT _ kw_22_20) (fun _ h9 => h9) rfl dX8_signToken_217 ?_
            refine lv_bipush (v := 41) hx hb dX8_signToken_220 (by decide) ?_
            refine lv_icmp_eq (tgt := 270) hx hb dX8_signToken_222 (by decide) (fun c27 => ?_) (fun c27 => ?_)
            · have h := tx_pos c27 h
              exact w_X8_signToken_J270 F S_3 H locs ls h hP hD hS (lv_sub hl [0] rfl)
            · have h := tx_neg c27 h
              refine lv_aload_n hx hb dX8_signToken_225 rfl (lv_at hl 0 rfl) ?_
              refine va_get (D := G) (ci := 8) (v := .int (S_3 0 9)) (C := RX8) (T := TX8) (N := 91) hx hb hT ku_8 hown hK hP 0 rfl rfl 9 (by decide) (hT _ kw_22_20) (fun _ h9 => h9) rfl dX8_signToken_226 ?_
              refine lv_bipush (v := 43) hx hb dX8_signToken_229 (by decide) ?_
              refine lv_icmp_eq (tgt := 270) hx hb dX8_signToken_231 (by decide) (fun c28 => ?_) (fun c28 => ?_)
              · have h := tx_pos c28 h
                exact w_X8_signToken_J270 F S_3 H locs ls h hP hD hS (lv_sub hl [0] rfl)
              · have h := tx_neg c28 h
                refine lv_aload_n hx hb dX8_signToken_234 rfl (lv_at hl 0 rfl) ?_
                refine va_get (D := G) (ci := 8) (v := .int (S_3 0 9)) (C := RX8) (T := TX8) (N := 91) hx hb hT ku_8 hown hK hP 0 rfl rfl 9 (by decide) (hT _ kw_22_20) (fun _ h9 => h9) rfl dX8_signToken_235 ?_
                refine lv_bipush (v := 45) hx hb dX8_signToken_238 (by decide) ?_
                refine lv_icmp_eq (tgt := 270) hx hb dX8_signToken_240 (by decide) (fun c29 => ?_) (fun c29 => ?_)
                · have h := tx_pos c29 h
                  exact w_X8_signToken_J270 F S_3 H locs ls h hP hD hS (lv_sub hl [0] rfl)
                · have h := tx_neg c29 h
                  refine lv_aload_n hx hb dX8_signToken_243 rfl (lv_at hl 0 rfl) ?_
                  refine va_get (D := G) (ci := 8) (v := .int (S_3 0 9)) (C := RX8) (T := TX8) (N := 91) hx hb hT ku_8 hown hK hP 0 rfl rfl 9 (by decide) (hT _ kw_22_20) (fun _ h9 => h9) rfl dX8_signToken_244 ?_
                  refine lv_bipush (v := 42) hx hb dX8_signToken_247 (by decide) ?_
                  refine lv_icmp_eq (tgt := 270) hx hb dX8_signToken_249 (by decide) (fun c30 => ?_) (fun c30 => ?_)
                  · have h := tx_pos c30 h
                    exact w_X8_signToken_J270 F S_3 H locs ls h hP hD hS (lv_sub hl [0] rfl)
                  · have h := tx_neg c30 h
                    refine lv_aload_n hx hb dX8_signToken_252 rfl (lv_at hl 0 rfl) ?_
                    refine va_get (D := G) (ci := 8) (v := .int (S_3 0 9)) (C := RX8) (T := TX8) (N := 91) hx hb hT ku_8 hown hK hP 0 rfl rfl 9 (by decide) (hT _ kw_22_20) (fun _ h9 => h9) rfl dX8_signToken_253 ?_
                    refine lv_bipush (v := 47) hx hb dX8_signToken_256 (by decide) ?_
                    refine lv_icmp_eq (tgt := 270) hx hb dX8_signToken_258 (by decide) (fun c31 => ?_) (fun c31 => ?_)
                    · have h := tx_pos c31 h
                      exact w_X8_signToken_J270 F S_3 H locs ls h hP hD hS (lv_sub hl [0] rfl)
                    · have h := tx_neg c31 h
                      refine lv_aload_n hx hb dX8_signToken_261 rfl (lv_at hl 0 rfl) ?_
                      refine va_get (D := G) (ci := 8) (v := .int (S_3 0 9)) (C := RX8) (T := TX8) (N := 91) hx hb hT ku_8 hown hK hP 0 rfl rfl 9 (by decide) (hT _ kw_22_20) (fun _ h9 => h9) rfl dX8_signToken_262 ?_
                      refine lv_bipush (v := 37) hx hb dX8_signToken_265 (by decide) ?_
                      refine lv_icmp_ne (tgt := 274) hx hb dX8_signToken_267 (by decide) (fun c32 => ?_) (fun c32 => ?_)
                      · have h := tx_neg c32 h
                        refine lv_iconst (v := 0) hx hb dX8_signToken_274 (by decide) ?_
                        exact w_X8_signToken_J275 F 0 S_3 H locs ls h hP hD hS (lv_sub hl [0] rfl)
                      · have h := tx_pos c32 h
                        exact w_X8_signToken_J270 F S_3 H locs ls h hP hD hS (lv_sub hl [0] rfl)
      · have h := tx_pos c22 h
        exact w_X8_signToken_J50 F S_3 H locs ls h hP hD hS (lv_sub hl [0] rfl)
