abbrev G_X8_placeFor (p : Program) (l : Launch) (e : Env) (s : State) (m : MethodId) (below : List Frame) (meth : Method) (c : Code) (G : va_G) (cA : Nat → ClassId) (A : Nat → Prop) (aa : Nat → Nat) (S : Tr) (L : Lo) (x1 : Int32) (x2 : Int32) (r0 : Int32) (H : Heap) (locs : List Loc) (g : JFrame) : Prop := W p l e (headSpec (.code yX8_placeFor cX8_placeFor 5 (some .int) :: T0) ({ frames := 3, cells := 0, slots := 0, locals := 70 } : Room)).room s m ([.ref (aa 0), .int x1, .int x2] : List Value).toArray below meth c H locs 0 0 (MQ below (tqQi G cA (fun (r : Int32) (_ : Unit) => r = r0) (fun (_ : Unit) => wM cA aa S L) A) ([.ref (aa 0), .int x1, .int x2] : List Value).toArray s 0 0 A) g
set_option maxHeartbeats 4000000 in
set_option maxRecDepth 100000 in
theorem w_X8_placeFor_L75 {p : Program} {l : Launch} {e : Env} {s : State} {m : MethodId} {below : List Frame} {meth : Method} {c : Code} {G : va_G} {cA : Nat → ClassId} {A : Nat → Prop} {aa : Nat → Nat} {S : Tr} {L : Lo} {x1₀ : Int32} {x2₀ : Int32} {r0 : Int32} {x1 : Int32} {x2 : Int32} (F : tF p s m ([.ref (aa 0), .int x1₀, .int x2₀] : List Value).toArray meth c G cA A RX8 cX8_placeFor 5 (some .int))    (N : Nat) : ∀ (x3 : Int32) (x4 : Int32) (H : Heap) (locs : List Loc) (ls : Array Slot), lpF (fun _ _ => none) (fB_X8_placeFor_L75 S x1 x2) N x3 x4 = some r0 → va_P G vwCl (wM cA aa S L) H → va_D A (wM cA aa S L) → va_S A s.heap H locs → lv_has ls 5 [(0, .ref (aa 0)), (1, .int x1), (2, .int x2), (3, .int x3), (4, .int x4)] → G_X8_placeFor p l e s m below meth c G cA A aa S L x1₀ x2₀ r0 H locs (F0 m 75 ls []) := by
  obtain ⟨hx, hb, hr, hml, hT, hown, hlocks, hK, hN, hA⟩ := id F
  induction N with
  | zero =>
    intro x3 x4 H locs ls h
    have h : (none : Option (Int32)) = some r0 := h
    cases h
  | succ N hk75 =>
    intro x3 x4 H locs ls h hP hD hS hl
    have h : fB_X8_placeFor_L75 S x1 x2 (lpF (fun _ _ => none) (fB_X8_placeFor_L75 S x1 x2) N) x3 x4 = some r0 := h
    generalize hk75e : lpF (fun _ _ => none) (fB_X8_placeFor_L75 S x1 x2) N = k75 at h hk75
    unfold fB_X8_placeFor_L75 at h
    refine lv_iload hx hb dX8_placeFor_75 (lv_at hl 4 rfl) ?_
    refine lv_aload_n hx hb dX8_placeFor_77 rfl (lv_at hl 0 rfl) ?_
    refine va_get (D := G) (ci := 8) (v := .int (S 0 12)) (C := RX8) (T := TX8) (N := 91) hx hb hT ku_8 hown hK hP 0 rfl rfl 12 (by decide) (hT _ kw_12_3) (fun _ h9 => h9) rfl dX8_placeFor_78 ?_
    refine lv_icmp_ge (tgt := 143) hx hb dX8_placeFor_81 (by decide) (fun c5 => ?_) (fun c5 => ?_)
    · have h := tx_pos c5 h
      refine lv_iload_n hx hb dX8_placeFor_143 rfl (lv_at hl 3 rfl) ?_
      obtain rfl := tx_1 h
      exact W.iret hx hb hr (fun t ht hW => ⟨⟨_, (), rfl, rfl, by rw [ht]; exact hP, hD⟩, hS.F ht⟩) hS.2.2 dX8_placeFor_144
    · have h := tx_neg c5 h
      refine lv_aload_n hx hb dX8_placeFor_84 rfl (lv_at hl 0 rfl) ?_
      refine lv_iload_n hx hb dX8_placeFor_85 rfl (lv_at hl 1 rfl) ?_
      refine lv_iload hx hb dX8_placeFor_86 (lv_at hl 4 rfl) ?_
      refine lv_iload_n hx hb dX8_placeFor_88 rfl (lv_at hl 2 rfl) ?_
      obtain ⟨r6, hc7, h⟩ := tx_bd h
      refine tw_ci tw_all hP hD hS hA (va_runV (As := [.int x1, .int x4, .int x2]) (rest := []) ⟨hx, hb, hml, hown, hT⟩ (c_X8_doesHold l G cA H.size aa S L x1 x4 x2  r6 hc7) (cwV 3 hT (tq_gV kw_37_6 kw_37_7 kw_37_8 kw_1_5 kw_37_9) rfl rfl rfl (by decide +kernel) ⟨Nat.le_of_ble_eq_true rfl, Nat.le_of_ble_eq_true rfl⟩) ⟨(tw_pre tw_all hP hD hK hN).1, va_recv hK hP (ci := 8) (q0 := 0) rfl rfl, (tw_pre tw_all hP hD hK hN).2⟩ rfl rfl hl.1 rfl (lv_room (Nat.le_of_ble_eq_true rfl)) dX8_placeFor_89 ⟨Nat.le_of_ble_eq_true rfl, Nat.le_of_ble_eq_true rfl⟩) (fun _ _ H locs z8 hP hD hS => ?_)
      subst z8
      rw [List.append_nil] at hP hD
      have hP : va_P G vwCl (wM cA aa S L) H := hP
      have hD : va_D A (wM cA aa S L) := hD
      refine lv_if_ne (tgt := 98) hx hb dX8_placeFor_92 (by decide) (fun c9 => ?_) (fun c9 => ?_)
      · have h := tx_neg c9 h
        refine lv_iload_n hx hb dX8_placeFor_98 rfl (lv_at hl 3 rfl) ?_
        refine lv_if_lt (tgt := 134) hx hb dX8_placeFor_99 (by decide) (fun c10 => ?_) (fun c10 => ?_)
        · have h := tx_pos c10 h
          refine lv_iload hx hb dX8_placeFor_134 (lv_at hl 4 rfl) ?_
          refine lv_istore_n (lv' := [(3, .int x4), (0, .ref (aa 0)), (1, .int x1), (2, .int x2), (4, .int x4)]) hx hb dX8_placeFor_136 rfl hl (by decide) rfl (fun ls hl => ?_)
          obtain ⟨y11, ey11, h⟩ := tx_lt h
          refine lv_iinc (v := y11) (lv' := [(4, .int y11), (3, .int x4), (0, .ref (aa 0)), (1, .int x1), (2, .int x2)]) hx hb dX8_placeFor_137 hl (k := 4) rfl ey11 (by decide) rfl (fun ls hl => ?_)
          refine lv_goto (tgt := 75) hx hb dX8_placeFor_140 (by decide) ?_
          exact hk75 x4 y11 H locs ls h hP hD hS (lv_sub hl [2, 3, 4, 1, 0] rfl)
        · have h := tx_neg c10 h
          refine lv_aload_n hx hb dX8_placeFor_102 rfl (lv_at hl 0 rfl) ?_
          refine va_get (D := G) (ci := 8) (v := .int (S 0 64)) (C := RX8) (T := TX8) (N := 91) hx hb hT ku_8 hown hK hP 0 rfl rfl 64 (by decide) (hT _ kw_13_2) (fun _ h9 => h9) rfl dX8_placeFor_103 ?_
          refine lv_iconst (v := 2) hx hb dX8_placeFor_106 (by decide) ?_
          refine lv_icmp_eq (tgt := 134) hx hb dX8_placeFor_107 (by decide) (fun c12 => ?_) (fun c12 => ?_)
          · have h := tx_pos c12 h
            refine lv_iload hx hb dX8_placeFor_134 (lv_at hl 4 rfl) ?_
            refine lv_istore_n (lv' := [(3, .int x4), (0, .ref (aa 0)), (1, .int x1), (2, .int x2), (4, .int x4)]) hx hb dX8_placeFor_136 rfl hl (by decide) rfl (fun ls hl => ?_)
            obtain ⟨y13, ey13, h⟩ := tx_lt h
            refine lv_iinc (v := y13) (lv' := [(4, .int y13), (3, .int x4), (0, .ref (aa 0)), (1, .int x1), (2, .int x2)]) hx hb dX8_placeFor_137 hl (k := 4) rfl ey13 (by decide) rfl (fun ls hl => ?_)
            refine lv_goto (tgt := 75) hx hb dX8_placeFor_140 (by decide) ?_
            exact hk75 x4 y13 H locs ls h hP hD hS (lv_sub hl [2, 3, 4, 1, 0] rfl)
          · have h := tx_neg c12 h
            refine lv_aload_n hx hb dX8_placeFor_110 rfl (lv_at hl 0 rfl) ?_
            refine va_get (D := G) (ci := 8) (v := .int (S 0 64)) (C := RX8) (T := TX8) (N := 91) hx hb hT ku_8 hown hK hP 0 rfl rfl 64 (by decide) (hT _ kw_13_2) (fun _ h9 => h9) rfl dX8_placeFor_111 ?_
            refine lv_iconst (v := 1) hx hb dX8_placeFor_114 (by decide) ?_
            refine lv_icmp_ne (tgt := 137) hx hb dX8_placeFor_115 (by decide) (fun c14 => ?_) (fun c14 => ?_)
            · have h := tx_neg c14 h
              obtain ⟨y15, ey15, h⟩ := tx_lt h
              refine lv_iinc (v := y15) (lv' := [(4, .int y15), (0, .ref (aa 0)), (1, .int x1), (2, .int x2), (3, .int x3)]) hx hb dX8_placeFor_137 hl (k := 4) rfl ey15 (by decide) rfl (fun ls hl => ?_)
              refine lv_goto (tgt := 75) hx hb dX8_placeFor_140 (by decide) ?_
              exact hk75 x3 y15 H locs ls h hP hD hS (lv_sub hl [1, 2, 3, 4, 0] rfl)
            · have h := tx_pos c14 h
              refine lv_aload_n hx hb dX8_placeFor_118 rfl (lv_at hl 0 rfl) ?_
              refine lv_iload_n hx hb dX8_placeFor_119 rfl (lv_at hl 1 rfl) ?_
              refine lv_iload hx hb dX8_placeFor_120 (lv_at hl 4 rfl) ?_
              obtain ⟨r16, hc17, h⟩ := tx_bd h
              refine tw_ci tw_all hP hD hS hA (va_runV (As := [.int x1, .int x4]) (rest := []) ⟨hx, hb, hml, hown, hT⟩ (c_X8_weightIn l G cA H.size aa S L x1 x4  r16 hc17) (cwV 2 hT (tq_gV kw_32_15 kw_32_16 kw_32_17 kw_1_5 kw_32_18) rfl rfl rfl (by decide +kernel) ⟨Nat.le_of_ble_eq_true rfl, Nat.le_of_ble_eq_true rfl⟩) ⟨(tw_pre tw_all hP hD hK hN).1, va_recv hK hP (ci := 8) (q0 := 0) rfl rfl, (tw_pre tw_all hP hD hK hN).2⟩ rfl rfl hl.1 rfl (lv_room (Nat.le_of_ble_eq_true rfl)) dX8_placeFor_122 ⟨Nat.le_of_ble_eq_true rfl, Nat.le_of_ble_eq_true rfl⟩) (fun _ _ H locs z18 hP hD hS => ?_)
              subst z18
              rw [List.append_nil] at hP hD
              have hP : va_P G vwCl (wM cA aa S L) H := hP
              have hD : va_D A (wM cA aa S L) := hD
              refine lv_aload_n hx hb dX8_placeFor_125 rfl (lv_at hl 0 rfl) ?_
              refine lv_iload_n hx hb dX8_placeFor_126 rfl (lv_at hl 1 rfl) ?_
              refine lv_iload_n hx hb dX8_placeFor_127 rfl (lv_at hl 3 rfl) ?_
              obtain ⟨r19, hc20, h⟩ := tx_bd h
              refine tw_ci tw_all hP hD hS hA (va_runV (As := [.int x1, .int x3]) (rest := [.int r16]) ⟨hx, hb, hml, hown, hT⟩ (c_X8_weightIn l G cA H.size aa S L x1 x3  r19 hc20) (cwV 2 hT (tq_gV kw_32_15 kw_32_16 kw_32_17 kw_1_5 kw_32_18) rfl rfl rfl (by decide +kernel) ⟨Nat.le_of_ble_eq_true rfl, Nat.le_of_ble_eq_true rfl⟩) ⟨(tw_pre tw_all hP hD hK hN).1, va_recv hK hP (ci := 8) (q0 := 0) rfl rfl, (tw_pre tw_all hP hD hK hN).2⟩ rfl rfl hl.1 rfl (lv_room (Nat.le_of_ble_eq_true rfl)) dX8_placeFor_128 ⟨Nat.le_of_ble_eq_true rfl, Nat.le_of_ble_eq_true rfl⟩) (fun _ _ H locs z21 hP hD hS => ?_)
              subst z21
              rw [List.append_nil] at hP hD
              have hP : va_P G vwCl (wM cA aa S L) H := hP
              have hD : va_D A (wM cA aa S L) := hD
              refine lv_icmp_ge (tgt := 137) hx hb dX8_placeFor_131 (by decide) (fun c22 => ?_) (fun c22 => ?_)
              · have h := tx_pos c22 h
                obtain ⟨y23, ey23, h⟩ := tx_lt h
                refine lv_iinc (v := y23) (lv' := [(4, .int y23), (0, .ref (aa 0)), (1, .int x1), (2, .int x2), (3, .int x3)]) hx hb dX8_placeFor_137 hl (k := 4) rfl ey23 (by decide) rfl (fun ls hl => ?_)
                refine lv_goto (tgt := 75) hx hb dX8_placeFor_140 (by decide) ?_
                exact hk75 x3 y23 H locs ls h hP hD hS (lv_sub hl [1, 2, 3, 4, 0] rfl)
              · have h := tx_neg c22 h
                refine lv_iload hx hb dX8_placeFor_134 (lv_at hl 4 rfl) ?_
                refine lv_istore_n (lv' := [(3, .int x4), (0, .ref (aa 0)), (1, .int x1), (2, .int x2), (4, .int x4)]) hx hb dX8_placeFor_136 rfl hl (by decide) rfl (fun ls hl => ?_)
                obtain ⟨y24, ey24, h⟩ := tx_lt h
                refine lv_iinc (v := y24) (lv' := [(4, .int y24), (3, .int x4), (0, .ref (aa 0)), (1, .int x1), (2, .int x2)]) hx hb dX8_placeFor_137 hl (k := 4) rfl ey24 (by decide) rfl (fun ls hl => ?_)
                refine lv_goto (tgt := 75) hx hb dX8_placeFor_140 (by decide) ?_
                exact hk75 x4 y24 H locs ls h hP hD hS (lv_sub hl [2, 3, 4, 1, 0] rfl)
      · have h := tx_pos c9 h
        refine lv_goto (tgt := 137) hx hb dX8_placeFor_95 (by decide) ?_
        obtain ⟨y25, ey25, h⟩ := tx_lt h
        refine lv_iinc (v := y25) (lv' := [(4, .int y25), (0, .ref (aa 0)), (1, .int x1), (2, .int x2), (3, .int x3)]) hx hb dX8_placeFor_137 hl (k := 4) rfl ey25 (by decide) rfl (fun ls hl => ?_)
        refine lv_goto (tgt := 75) hx hb dX8_placeFor_140 (by decide) ?_
        exact hk75 x3 y25 H locs ls h hP hD hS (lv_sub hl [1, 2, 3, 4, 0] rfl)
set_option maxHeartbeats 4000000 in
set_option maxRecDepth 100000 in
theorem c_X8_placeFor (l : Launch) (G : va_G) (cA : Nat → ClassId) (sz : Nat) (aa : Nat → Nat) (S : Tr) (L : Lo) (x1 : Int32) (x2 : Int32)  (r0 : Int32) (h : f_X8_placeFor S x1 x2 = some r0) : Met l yX8_placeFor (.code yX8_placeFor cX8_placeFor 5 (some .int) :: T0) ({ frames := 3, cells := 0, slots := 0, locals := 70 } : Room) (tqP G cA [.ref (aa 0), .int x1, .int x2] (wM cA aa S L) sz) (tqQi G cA (fun (r : Int32) (_ : Unit) => r = r0) (fun (_ : Unit) => wM cA aa S L) (va_A (wM cA aa S L) sz)) 0 0 (va_A (wM cA aa S L) sz) := by
  refine Met.ofW (cc := cX8_placeFor) (maxL := 5) (ret := (some .int)) (by decide) rfl ?_
  intro p e s m args below meth c s₁ B hml hv
  obtain ⟨rfl, hsz, hP, hK, hD0, hN⟩ := hv
  have hx := B.exec
  have hb := B.bytes
  have hr := B.returns
  have hts := atoms_spec (ws := .code yX8_placeFor cX8_placeFor 5 (some .int) :: T0) B.pre
  have hT : ∀ w ∈ T0, w.before _ s = true := fun w h => hts w (List.mem_cons_of_mem _ h)
  have hown : s.vm.findClass RX8 = some m.cls := findClass_of_methodNamed B.named
  have hlocks := B.notSynchronized
  subst hsz
  have hD := hD0.self (sz := s.heap.size)
  generalize hAe : va_A (wM cA aa S L) s.heap.size = A at hD ⊢
  have hA : ∀ q : Nat, s.heap.size ≤ q → A q := fun q h => by rw [← hAe]; exact Or.inr h
  have hS : va_S A s.heap s.heap [] := va_S.rf
  have hl := lv_entry ([.ref (aa 0), .int x1, .int x2]) (n := 5) (Nat.le_of_ble_eq_true rfl)
  rw [lg_entry_eq]
  generalize (lg_sl ([.ref (aa 0), .int x1, .int x2]) ++ List.replicate (5 - (lg_sl ([.ref (aa 0), .int x1, .int x2])).length) Slot.unset).toArray = ls at hl ⊢
  have hl : lv_has ls 5 [(0, .ref (aa 0)), (1, .int x1), (2, .int x2)] := hl
  have F : tF p s m ([.ref (aa 0), .int x1, .int x2] : List Value).toArray meth c G cA A RX8 cX8_placeFor 5 (some .int) := ⟨hx, hb, hr, hml, hT, hown, hlocks, hK, hN, hA⟩
  obtain ⟨H, hH⟩ : ∃ z, z = s.heap := ⟨_, rfl⟩
  rw [← hH] at hP
  have hS : va_S A s.heap H [] := by rw [hH]; exact hS
  suffices hgo : G_X8_placeFor p l e s m below meth c G cA A aa S L x1 x2 r0 H [] (F0 m 0 ls []) by rw [hH] at hgo; exact hgo
  generalize ([] : List Loc) = locs at hS ⊢
  unfold f_X8_placeFor at h
  refine lv_aload_n hx hb dX8_placeFor_0 rfl (lv_at hl 0 rfl) ?_
  refine va_get (D := G) (ci := 8) (v := .ref (aa 72)) (C := RX8) (T := TX8) (N := 91) hx hb hT ku_8 hown hK hP 0 rfl rfl 71 (by decide) (hT _ kw_11_0) (fun _ h9 => h9) rfl dX8_placeFor_1 ?_
  refine lv_iload_n hx hb dX8_placeFor_4 rfl (lv_at hl 2 rfl) ?_
  obtain ⟨g1, h⟩ := tx_ck h
  refine va_iald (i := x2) hx hb hK hP 38 0 rfl rfl (tx_in g1) dX8_placeFor_5 ?_
  refine lv_if_lt (tgt := 35) hx hb dX8_placeFor_6 (by decide) (fun c2 => ?_) (fun c2 => ?_)
  · have h := tx_pos c2 h
    refine lv_aload_n hx hb dX8_placeFor_35 rfl (lv_at hl 0 rfl) ?_
    refine va_get (D := G) (ci := 8) (v := .ref (aa 33)) (C := RX8) (T := TX8) (N := 91) hx hb hT ku_8 hown hK hP 0 rfl rfl 32 (by decide) (hT _ kw_10_0) (fun _ h9 => h9) rfl dX8_placeFor_36 ?_
    refine lv_iload_n hx hb dX8_placeFor_39 rfl (lv_at hl 2 rfl) ?_
    obtain ⟨g3, h⟩ := tx_ck h
    refine va_iald (i := x2) hx hb hK hP 14 0 rfl rfl (tx_in g3) dX8_placeFor_40 ?_
    refine lv_if_lt (tgt := 70) hx hb dX8_placeFor_41 (by decide) (fun c4 => ?_) (fun c4 => ?_)
    · have h := tx_pos c4 h
      refine lv_iconst (v := (-1)) hx hb dX8_placeFor_70 (by decide) ?_
      refine lv_istore_n (lv' := [(3, .int (-1)), (0, .ref (aa 0)), (1, .int x1), (2, .int x2)]) hx hb dX8_placeFor_71 rfl hl (by decide) rfl (fun ls hl => ?_)
      refine lv_iconst (v := 0) hx hb dX8_placeFor_72 (by decide) ?_
      refine lv_istore (lv' := [(4, .int 0), (3, .int (-1)), (0, .ref (aa 0)), (1, .int x1), (2, .int x2)]) hx hb dX8_placeFor_73 hl (by decide) rfl (fun ls hl => ?_)
      exact w_X8_placeFor_L75 F 2000 (-1) 0 H locs ls h hP hD hS (lv_sub hl [2, 3, 4, 1, 0] rfl)
    · have h := tx_neg c4 h
      refine lv_aload_n hx hb dX8_placeFor_44 rfl (lv_at hl 0 rfl) ?_
      refine lv_iload_n hx hb dX8_placeFor_45 rfl (lv_at hl 1 rfl) ?_
      refine lv_aload_n hx hb dX8_placeFor_46 rfl (lv_at hl 0 rfl) ?_
      refine va_get (D := G) (ci := 8) (v := .ref (aa 33)) (C := RX8) (T := TX8) (N := 91) hx hb hT ku_8 hown hK hP 0 rfl rfl 32 (by decide) (hT _ kw_10_0) (fun _ h9 => h9) rfl dX8_placeFor_47 ?_
      refine lv_iload_n hx hb dX8_placeFor_50 rfl (lv_at hl 2 rfl) ?_
      refine va_iald (i := x2) hx hb hK hP 14 0 rfl rfl (tx_in g3) dX8_placeFor_51 ?_
      refine lv_iload_n hx hb dX8_placeFor_52 rfl (lv_at hl 2 rfl) ?_
      obtain ⟨r26, hc27, h⟩ := tx_bd h
      refine tw_ci tw_all hP hD hS hA (va_runV (As := [.int x1, .int (S 33 x2.toNatClampNeg), .int x2]) (rest := []) ⟨hx, hb, hml, hown, hT⟩ (c_X8_doesHold l G cA H.size aa S L x1 (S 33 x2.toNatClampNeg) x2  r26 hc27) (cwV 3 hT (tq_gV kw_37_6 kw_37_7 kw_37_8 kw_1_5 kw_37_9) rfl rfl rfl (by decide +kernel) ⟨Nat.le_of_ble_eq_true rfl, Nat.le_of_ble_eq_true rfl⟩) ⟨(tw_pre tw_all hP hD hK hN).1, va_recv hK hP (ci := 8) (q0 := 0) rfl rfl, (tw_pre tw_all hP hD hK hN).2⟩ rfl rfl hl.1 rfl (lv_room (Nat.le_of_ble_eq_true rfl)) dX8_placeFor_53 ⟨Nat.le_of_ble_eq_true rfl, Nat.le_of_ble_eq_true rfl⟩) (fun _ _ H locs z28 hP hD hS => ?_)
      subst z28
      rw [List.append_nil] at hP hD
      have hP : va_P G vwCl (wM cA aa S L) H := hP
      have hD : va_D A (wM cA aa S L) := hD
      refine lv_if_eq (tgt := 68) hx hb dX8_placeFor_56 (by decide) (fun c29 => ?_) (fun c29 => ?_)
      · have h := tx_pos c29 h
        refine lv_iconst (v := (-1)) hx hb dX8_placeFor_68 (by decide) ?_
        obtain rfl := tx_1 h
        exact W.iret hx hb hr (fun t ht hW => ⟨⟨_, (), rfl, rfl, by rw [ht]; exact hP, hD⟩, hS.F ht⟩) hS.2.2 dX8_placeFor_69
      · have h := tx_neg c29 h
        refine lv_aload_n hx hb dX8_placeFor_59 rfl (lv_at hl 0 rfl) ?_
        refine va_get (D := G) (ci := 8) (v := .ref (aa 33)) (C := RX8) (T := TX8) (N := 91) hx hb hT ku_8 hown hK hP 0 rfl rfl 32 (by decide) (hT _ kw_10_0) (fun _ h9 => h9) rfl dX8_placeFor_60 ?_
        refine lv_iload_n hx hb dX8_placeFor_63 rfl (lv_at hl 2 rfl) ?_
        refine va_iald (i := x2) hx hb hK hP 14 0 rfl rfl (tx_in g3) dX8_placeFor_64 ?_
        refine lv_goto (tgt := 69) hx hb dX8_placeFor_65 (by decide) ?_
        obtain rfl := tx_1 h
        exact W.iret hx hb hr (fun t ht hW => ⟨⟨_, (), rfl, rfl, by rw [ht]; exact hP, hD⟩, hS.F ht⟩) hS.2.2 dX8_placeFor_69
  · have h := tx_neg c2 h
    refine lv_aload_n hx hb dX8_placeFor_9 rfl (lv_at hl 0 rfl) ?_
    refine lv_iload_n hx hb dX8_placeFor_10 rfl (lv_at hl 1 rfl) ?_
    refine lv_aload_n hx hb dX8_placeFor_11 rfl (lv_at hl 0 rfl) ?_
    refine va_get (D := G) (ci := 8) (v := .ref (aa 72)) (C := RX8) (T := TX8) (N := 91) hx hb hT ku_8 hown hK hP 0 rfl rfl 71 (by decide) (hT _ kw_11_0) (fun _ h9 => h9) rfl dX8_placeFor_12 ?_
    refine lv_iload_n hx hb dX8_placeFor_15 rfl (lv_at hl 2 rfl) ?_
    refine va_iald (i := x2) hx hb hK hP 38 0 rfl rfl (tx_in g1) dX8_placeFor_16 ?_
    refine lv_iload_n hx hb dX8_placeFor_17 rfl (lv_at hl 2 rfl) ?_
    obtain ⟨r30, hc31, h⟩ := tx_bd h
    refine tw_ci tw_all hP hD hS hA (va_runV (As := [.int x1, .int (S 72 x2.toNatClampNeg), .int x2]) (rest := []) ⟨hx, hb, hml, hown, hT⟩ (c_X8_doesHold l G cA H.size aa S L x1 (S 72 x2.toNatClampNeg) x2  r30 hc31) (cwV 3 hT (tq_gV kw_37_6 kw_37_7 kw_37_8 kw_1_5 kw_37_9) rfl rfl rfl (by decide +kernel) ⟨Nat.le_of_ble_eq_true rfl, Nat.le_of_ble_eq_true rfl⟩) ⟨(tw_pre tw_all hP hD hK hN).1, va_recv hK hP (ci := 8) (q0 := 0) rfl rfl, (tw_pre tw_all hP hD hK hN).2⟩ rfl rfl hl.1 rfl (lv_room (Nat.le_of_ble_eq_true rfl)) dX8_placeFor_18 ⟨Nat.le_of_ble_eq_true rfl, Nat.le_of_ble_eq_true rfl⟩) (fun _ _ H locs z32 hP hD hS => ?_)
    subst z32
    rw [List.append_nil] at hP hD
    have hP : va_P G vwCl (wM cA aa S L) H := hP
    have hD : va_D A (wM cA aa S L) := hD
    refine lv_if_eq (tgt := 33) hx hb dX8_placeFor_21 (by decide) (fun c33 => ?_) (fun c33 => ?_)
    · have h := tx_pos c33 h
      refine lv_iconst (v := (-1)) hx hb dX8_placeFor_33 (by decide) ?_
      obtain rfl := tx_1 h
      exact W.iret hx hb hr (fun t ht hW => ⟨⟨_, (), rfl, rfl, by rw [ht]; exact hP, hD⟩, hS.F ht⟩) hS.2.2 dX8_placeFor_34
    · have h := tx_neg c33 h
      refine lv_aload_n hx hb dX8_placeFor_24 rfl (lv_at hl 0 rfl) ?_
      refine va_get (D := G) (ci := 8) (v := .ref (aa 72)) (C := RX8) (T := TX8) (N := 91) hx hb hT ku_8 hown hK hP 0 rfl rfl 71 (by decide) (hT _ kw_11_0) (fun _ h9 => h9) rfl dX8_placeFor_25 ?_
      refine lv_iload_n hx hb dX8_placeFor_28 rfl (lv_at hl 2 rfl) ?_
      refine va_iald (i := x2) hx hb hK hP 38 0 rfl rfl (tx_in g1) dX8_placeFor_29 ?_
      refine lv_goto (tgt := 34) hx hb dX8_placeFor_30 (by decide) ?_
      obtain rfl := tx_1 h
      exact W.iret hx hb hr (fun t ht hW => ⟨⟨_, (), rfl, rfl, by rw [ht]; exact hP, hD⟩, hS.F ht⟩) hS.2.2 dX8_placeFor_34
abbrev G_X8_lays (p : Program) (l : Launch) (e : Env) (s : State) (m : MethodId) (below : List Frame) (meth : Method) (c : Code) (G : va_G) (cA : Nat → ClassId) (A : Nat → Prop) (aa : Nat → Nat) (L : Lo) (x1 : Int32) (x2 : Int32) (x3 : Int32) (S' : Tr) (H : Heap) (locs : List Loc) (g : JFrame) : Prop := W p l e (headSpec (.code yX8_lays cX8_lays 4 none :: T0) ({ frames := 0, cells := 0, slots := 0, locals := 0 } : Room)).room s m ([.ref (aa 0), .int x1, .int x2, .int x3] : List Value).toArray below meth c H locs 0 0 (MQ below (tqQv G cA (fun (_ : Unit) => True) (fun (_ : Unit) => wM cA aa S' L) A) ([.ref (aa 0), .int x1, .int x2, .int x3] : List Value).toArray s 0 0 A) g
set_option maxHeartbeats 4000000 in
set_option maxRecDepth 100000 in
theorem c_X8_lays (l : Launch) (G : va_G) (cA : Nat → ClassId) (sz : Nat) (aa : Nat → Nat) (S : Tr) (L : Lo) (x1 : Int32) (x2 : Int32) (x3 : Int32)  (S' : Tr) (h : f_X8_lays S x1 x2 x3 = some S') : Met l yX8_lays (.code yX8_lays cX8_lays 4 none :: T0) ({ frames := 0, cells := 0, slots := 0, locals := 0 } : Room) (tqP G cA [.ref (aa 0), .int x1, .int x2, .int x3] (wM cA aa S L) sz) (tqQv G cA (fun (_ : Unit) => True) (fun (_ : Unit) => wM cA aa S' L) (va_A (wM cA aa S L) sz)) 0 0 (va_A (wM cA aa S L) sz) := by
  refine Met.ofW (cc := cX8_lays) (maxL := 4) (ret := none) (by decide) rfl ?_
  intro p e s m args below meth c s₁ B hml hv
  obtain ⟨rfl, hsz, hP, hK, hD0, hN⟩ := hv
  have hx := B.exec
  have hb := B.bytes
  have hr := B.returns
  have hts := atoms_spec (ws := .code yX8_lays cX8_lays 4 none :: T0) B.pre
  have hT : ∀ w ∈ T0, w.before _ s = true := fun w h => hts w (List.mem_cons_of_mem _ h)
  have hown : s.vm.findClass RX8 = some m.cls := findClass_of_methodNamed B.named
  have hlocks := B.notSynchronized
  subst hsz
  have hD := hD0.self (sz := s.heap.size)
  generalize hAe : va_A (wM cA aa S L) s.heap.size = A at hD ⊢
  have hA : ∀ q : Nat, s.heap.size ≤ q → A q := fun q h => by rw [← hAe]; exact Or.inr h
  have hS : va_S A s.heap s.heap [] := va_S.rf
  have hl := lv_entry ([.ref (aa 0), .int x1, .int x2, .int x3]) (n := 4) (Nat.le_of_ble_eq_true rfl)
  rw [lg_entry_eq]
  generalize (lg_sl ([.ref (aa 0), .int x1, .int x2, .int x3]) ++ List.replicate (4 - (lg_sl ([.ref (aa 0), .int x1, .int x2, .int x3])).length) Slot.unset).toArray = ls at hl ⊢
  have hl : lv_has ls 4 [(0, .ref (aa 0)), (1, .int x1), (2, .int x2), (3, .int x3)] := hl
  have F : tF p s m ([.ref (aa 0), .int x1, .int x2, .int x3] : List Value).toArray meth c G cA A RX8 cX8_lays 4 none := ⟨hx, hb, hr, hml, hT, hown, hlocks, hK, hN, hA⟩
  obtain ⟨H, hH⟩ : ∃ z, z = s.heap := ⟨_, rfl⟩
  rw [← hH] at hP
  have hS : va_S A s.heap H [] := by rw [hH]; exact hS
  suffices hgo : G_X8_lays p l e s m below meth c G cA A aa L x1 x2 x3 S' H [] (F0 m 0 ls []) by rw [hH] at hgo; exact hgo
  generalize ([] : List Loc) = locs at hS ⊢
  unfold f_X8_lays at h
  refine lv_aload_n hx hb dX8_lays_0 rfl (lv_at hl 0 rfl) ?_
  refine va_get (D := G) (ci := 8) (v := .ref (aa 55)) (C := RX8) (T := TX8) (N := 91) hx hb hT ku_8 hown hK hP 0 rfl rfl 54 (by decide) (hT _ kw_10_15) (fun _ h9 => h9) rfl dX8_lays_1 ?_
  refine lv_bipush (v := 50) hx hb dX8_lays_4 (by decide) ?_
  refine lv_iload_n hx hb dX8_lays_6 rfl (lv_at hl 1 rfl) ?_
  refine lv_imul hx hb dX8_lays_7 ?_
  refine lv_bipush (v := 10) hx hb dX8_lays_8 (by decide) ?_
  refine lv_iload_n hx hb dX8_lays_10 rfl (lv_at hl 2 rfl) ?_
  refine lv_imul hx hb dX8_lays_11 ?_
  refine lv_iadd hx hb dX8_lays_12 ?_
  refine lv_aload_n hx hb dX8_lays_13 rfl (lv_at hl 0 rfl) ?_
  refine va_get (D := G) (ci := 8) (v := .ref (aa 56)) (C := RX8) (T := TX8) (N := 91) hx hb hT ku_8 hown hK hP 0 rfl rfl 55 (by decide) (hT _ kw_10_16) (fun _ h9 => h9) rfl dX8_lays_14 ?_
  refine lv_iconst (v := 5) hx hb dX8_lays_17 (by decide) ?_
  refine lv_iload_n hx hb dX8_lays_18 rfl (lv_at hl 1 rfl) ?_
  refine lv_imul hx hb dX8_lays_19 ?_
  refine lv_iload_n hx hb dX8_lays_20 rfl (lv_at hl 2 rfl) ?_
  refine lv_iadd hx hb dX8_lays_21 ?_
  obtain ⟨g1, h⟩ := tx_ck h
  refine va_iald (i := (((5 : Int32) * x1) + x2)) hx hb hK hP 30 0 rfl rfl (tx_in g1) dX8_lays_22 ?_
  refine lv_iadd hx hb dX8_lays_23 ?_
  refine lv_iload_n hx hb dX8_lays_24 rfl (lv_at hl 3 rfl) ?_
  obtain ⟨g2, h⟩ := tx_ck h
  refine va_iast (i := ((((50 : Int32) * x1) + ((10 : Int32) * x2)) + (S 56 (((5 : Int32) * x1) + x2).toNatClampNeg))) hx hb hK hP hD hS 29 0 rfl rfl (tx_in g2) dX8_lays_25 (fun H locs hP hD hS => ?_)
  obtain ⟨S_3, eS_3, h⟩ := tx_lt h
  rw [sM_a54, eS_3] at hP hD
  refine lv_aload_n hx hb dX8_lays_26 rfl (lv_at hl 0 rfl) ?_
  refine va_get (D := G) (ci := 8) (v := .ref (aa 56)) (C := RX8) (T := TX8) (N := 91) hx hb hT ku_8 hown hK hP 0 rfl rfl 55 (by decide) (hT _ kw_10_16) (fun _ h9 => h9) rfl dX8_lays_27 ?_
  refine lv_iconst (v := 5) hx hb dX8_lays_30 (by decide) ?_
  refine lv_iload_n hx hb dX8_lays_31 rfl (lv_at hl 1 rfl) ?_
  refine lv_imul hx hb dX8_lays_32 ?_
  refine lv_iload_n hx hb dX8_lays_33 rfl (lv_at hl 2 rfl) ?_
  refine lv_iadd hx hb dX8_lays_34 ?_
  refine lv_dup2_11 hx hb dX8_lays_35 rfl rfl ?_
  refine va_iald (i := (((5 : Int32) * x1) + x2)) hx hb hK hP 30 0 rfl rfl (tx_in g1) dX8_lays_36 ?_
  refine lv_iconst (v := 1) hx hb dX8_lays_37 (by decide) ?_
  refine lv_iadd hx hb dX8_lays_38 ?_
  refine va_iast (i := (((5 : Int32) * x1) + x2)) hx hb hK hP hD hS 30 0 rfl rfl (tx_in g1) dX8_lays_39 (fun H locs hP hD hS => ?_)
  obtain ⟨S_4, eS_4, h⟩ := tx_lt h
  rw [sM_a55, eS_4] at hP hD
  refine lv_aload_n hx hb dX8_lays_40 rfl (lv_at hl 0 rfl) ?_
  refine va_get (D := G) (ci := 8) (v := .ref (aa 54)) (C := RX8) (T := TX8) (N := 91) hx hb hT ku_8 hown hK hP 0 rfl rfl 53 (by decide) (hT _ kw_10_14) (fun _ h9 => h9) rfl dX8_lays_41 ?_
  refine lv_bipush (v := 10) hx hb dX8_lays_44 (by decide) ?_
  refine lv_iload_n hx hb dX8_lays_46 rfl (lv_at hl 1 rfl) ?_
  refine lv_imul hx hb dX8_lays_47 ?_
  refine lv_iload_n hx hb dX8_lays_48 rfl (lv_at hl 3 rfl) ?_
  refine lv_iadd hx hb dX8_lays_49 ?_
  refine lv_iload_n hx hb dX8_lays_50 rfl (lv_at hl 2 rfl) ?_
  obtain ⟨g5, h⟩ := tx_ck h
  refine va_iast (i := (((10 : Int32) * x1) + x3)) hx hb hK hP hD hS 28 0 rfl rfl (tx_in g5) dX8_lays_51 (fun H locs hP hD hS => ?_)
  obtain ⟨S_6, eS_6, h⟩ := tx_lt h
  rw [sM_a53, eS_6] at hP hD
  refine lv_aload_n hx hb dX8_lays_52 rfl (lv_at hl 0 rfl) ?_
  refine va_get (D := G) (ci := 8) (v := .ref (aa 53)) (C := RX8) (T := TX8) (N := 91) hx hb hT ku_8 hown hK hP 0 rfl rfl 52 (by decide) (hT _ kw_10_13) (fun _ h9 => h9) rfl dX8_lays_53 ?_
  refine lv_bipush (v := 10) hx hb dX8_lays_56 (by decide) ?_
  refine lv_iload_n hx hb dX8_lays_58 rfl (lv_at hl 1 rfl) ?_
  refine lv_imul hx hb dX8_lays_59 ?_
  refine lv_iload_n hx hb dX8_lays_60 rfl (lv_at hl 3 rfl) ?_
  refine lv_iadd hx hb dX8_lays_61 ?_
  refine lv_iconst (v := 1) hx hb dX8_lays_62 (by decide) ?_
  refine va_iast (i := (((10 : Int32) * x1) + x3)) hx hb hK hP hD hS 27 0 rfl rfl (tx_in g5) dX8_lays_63 (fun H locs hP hD hS => ?_)
  obtain ⟨S_7, eS_7, h⟩ := tx_lt h
  rw [sM_a52, eS_7] at hP hD
  obtain rfl := tx_1 h
  exact W.vret hx hb hr (fun t ht hW => ⟨⟨(), rfl, trivial, by rw [ht]; exact hP, hD⟩, hS.F ht⟩) hS.2.2 dX8_lays_64
abbrev G_X8_ins (p : Program) (l : Launch) (e : Env) (s : State) (m : MethodId) (below : List Frame) (meth : Method) (c : Code) (G : va_G) (cA : Nat → ClassId) (A : Nat → Prop) (aa : Nat → Nat) (L : Lo) (x1 : Int32) (S' : Tr) (H : Heap) (locs : List Loc) (g : JFrame) : Prop := W p l e (headSpec (.code yX8_ins cX8_ins 5 none :: T0) ({ frames := 4, cells := 0, slots := 0, locals := 94 } : Room)).room s m ([.ref (aa 0), .int x1] : List Value).toArray below meth c H locs 0 0 (MQ below (tqQv G cA (fun (_ : Unit) => True) (fun (_ : Unit) => wM cA aa S' L) A) ([.ref (aa 0), .int x1] : List Value).toArray s 0 0 A) g
set_option maxHeartbeats 4000000 in
set_option maxRecDepth 100000 in
theorem w_X8_ins_J185 {p : Program} {l : Launch} {e : Env} {s : State} {m : MethodId} {below : List Frame} {meth : Method} {c : Code} {G : va_G} {cA : Nat → ClassId} {A : Nat → Prop} {aa : Nat → Nat} {L : Lo} {x1₀ : Int32} {S' : Tr} {x1 : Int32} (F : tF p s m ([.ref (aa 0), .int x1₀] : List Value).toArray meth c G cA A RX8 cX8_ins 5 none)  (k146 : Int32 → Tr → Option (Tr)) (hk146 : ∀ (x2 : Int32) (S : Tr) (H : Heap) (locs : List Loc) (ls : Array Slot), k146 x2 S = some S' → va_P G vwCl (wM cA aa S L) H → va_D A (wM cA aa S L) → va_S A s.heap H locs → lv_has ls 5 [(0, .ref (aa 0)), (1, .int x1), (2, .int x2)] → G_X8_ins p l e s m below meth c G cA A aa L x1₀ S' H locs (F0 m 146 ls [])) (x2 : Int32) (s0 : Int32) (s1 : Int32) (s2 : Int32) (S : Tr) (H : Heap) (locs : List Loc) (ls : Array Slot) (h : fJ_X8_ins_J185 k146 x1 x2 s0 s1 s2 S = some S') (hP : va_P G vwCl (wM cA aa S_7 L) H) (hD : va_D A (wM cA aa S_7 L)) (hS : va_S A s.heap H locs) (hl : lv_has ls 5 [(2, .int y8), (0, .ref (aa 0)), (1, .int x1)]) : G_X8_ins p l e s m below meth c G cA A aa L x1₀ S' H locs (F0 m 185 ls []) := by
  obtain ⟨hx, hb, hr, hml, hT, hown, hlocks, hK, hN, hA⟩ := id F
  unfold fJ_X8_ins_J185 at h
  refine lv_iadd hx hb dX8_ins_185 ?_
  obtain ⟨g6, h⟩ := tx_ck h
  refine va_iast (i := s2) hx hb hK hP hD hS 37 0 rfl rfl (tx_in g6) dX8_ins_186 (fun H locs hP hD hS => ?_)
  obtain ⟨S_7, eS_7, h⟩ := tx_lt h
  rw [sM_a62, eS_7] at hP hD
  obtain ⟨y8, ey8, h⟩ := tx_lt h
  refine lv_iinc (v := y8) (lv' := [(2, .int y8), (0, .ref (aa 0)), (1, .int x1)]) hx hb dX8_ins_187 hl (k := 2) rfl ey8 (by decide) rfl (fun ls hl => ?_)
  refine lv_goto (tgt := 146) hx hb dX8_ins_190 (by decide) ?_
  exact hk146 y8 S_7 H locs ls h hP hD hS (lv_sub hl [1, 2, 0] rfl)
set_option maxHeartbeats 4000000 in
set_option maxRecDepth 100000 in
theorem w_X8_ins_L146 {p : Program} {l : Launch} {e : Env} {s : State} {m : MethodId} {below : List Frame} {meth : Method} {c : Code} {G : va_G} {cA : Nat → ClassId} {A : Nat → Prop} {aa : Nat → Nat} {L : Lo} {x1₀ : Int32} {S' : Tr} {x1 : Int32} (F : tF p s m ([.ref (aa 0), .int x1₀] : List Value).toArray meth c G cA A RX8 cX8_ins 5 none)    (N : Nat) : ∀ (x2 : Int32) (S : Tr) (H : Heap) (locs : List Loc) (ls : Array Slot), lpF (fun _ _ => none) (fB_X8_ins_L146 x1) N x2 S = some S' → va_P G vwCl (wM cA aa S L) H → va_D A (wM cA aa S L) → va_S A s.heap H locs → lv_has ls 5 [(0, .ref (aa 0)), (1, .int x1), (2, .int x2)] → G_X8_ins p l e s m below meth c G cA A aa L x1₀ S' H locs (F0 m 146 ls []) := by
  obtain ⟨hx, hb, hr, hml, hT, hown, hlocks, hK, hN, hA⟩ := id F
  induction N with
  | zero =>
    intro x2 S H locs ls h
    have h : (none : Option (Tr)) = some S' := h
    cases h
  | succ N hk146 =>
    intro x2 S H locs ls h hP hD hS hl
    have h : fB_X8_ins_L146 x1 (lpF (fun _ _ => none) (fB_X8_ins_L146 x1) N) x2 S = some S' := h
    generalize hk146e : lpF (fun _ _ => none) (fB_X8_ins_L146 x1) N = k146 at h hk146
    unfold fB_X8_ins_L146 at h
    refine lv_iload_n hx hb dX8_ins_146 rfl (lv_at hl 2 rfl) ?_
    refine lv_aload_n hx hb dX8_ins_147 rfl (lv_at hl 0 rfl) ?_
    refine va_get (D := G) (ci := 8) (v := .int (S 0 12)) (C := RX8) (T := TX8) (N := 91) hx hb hT ku_8 hown hK hP 0 rfl rfl 12 (by decide) (hT _ kw_12_3) (fun _ h9 => h9) rfl dX8_ins_148 ?_
    refine lv_icmp_ge (tgt := 193) hx hb dX8_ins_151 (by decide) (fun c2 => ?_) (fun c2 => ?_)
    · have h := tx_pos c2 h
      obtain rfl := tx_1 h
      exact W.vret hx hb hr (fun t ht hW => ⟨⟨(), rfl, trivial, by rw [ht]; exact hP, hD⟩, hS.F ht⟩) hS.2.2 dX8_ins_193
    · have h := tx_neg c2 h
      refine lv_aload_n hx hb dX8_ins_154 rfl (lv_at hl 0 rfl) ?_
      refine va_get (D := G) (ci := 8) (v := .ref (aa 63)) (C := RX8) (T := TX8) (N := 91) hx hb hT ku_8 hown hK hP 0 rfl rfl 62 (by decide) (hT _ kw_10_23) (fun _ h9 => h9) rfl dX8_ins_155 ?_
      refine lv_iload_n hx hb dX8_ins_158 rfl (lv_at hl 1 rfl) ?_
      refine lv_dup2_11 hx hb dX8_ins_159 rfl rfl ?_
      obtain ⟨g3, h⟩ := tx_ck h
      refine va_iald (i := x1) hx hb hK hP 37 0 rfl rfl (tx_in g3) dX8_ins_160 ?_
      refine lv_aload_n hx hb dX8_ins_161 rfl (lv_at hl 0 rfl) ?_
      refine va_get (D := G) (ci := 8) (v := .ref (aa 24)) (C := RX8) (T := TX8) (N := 91) hx hb hT ku_8 hown hK hP 0 rfl rfl 23 (by decide) (hT _ kw_9_15) (fun _ h9 => h9) rfl dX8_ins_162 ?_
      refine lv_iload_n hx hb dX8_ins_165 rfl (lv_at hl 2 rfl) ?_
      obtain ⟨g4, h⟩ := tx_ck h
      refine va_iald (i := x2) hx hb hK hP 5 0 rfl rfl (tx_in g4) dX8_ins_166 ?_
      refine lv_iconst (v := 2) hx hb dX8_ins_167 (by decide) ?_
      refine lv_icmp_ne (tgt := 184) hx hb dX8_ins_168 (by decide) (fun c5 => ?_) (fun c5 => ?_)
      · have h := tx_neg c5 h
        refine lv_iconst (v := 0) hx hb dX8_ins_184 (by decide) ?_
        exact w_X8_ins_J185 F k146 hk146 x2 0 (S 63 x1.toNatClampNeg) x1 S H locs ls h hP hD hS (lv_sub hl [0, 1, 2] rfl)
      · have h := tx_pos c5 h
        refine lv_aload_n hx hb dX8_ins_171 rfl (lv_at hl 0 rfl) ?_
        refine va_get (D := G) (ci := 8) (v := .ref (aa 56)) (C := RX8) (T := TX8) (N := 91) hx hb hT ku_8 hown hK hP 0 rfl rfl 55 (by decide) (hT _ kw_10_16) (fun _ h9 => h9) rfl dX8_ins_172 ?_
        refine lv_iconst (v := 5) hx hb dX8_ins_175 (by decide) ?_
        refine lv_iload_n hx hb dX8_ins_176 rfl (lv_at hl 1 rfl) ?_
        refine lv_imul hx hb dX8_ins_177 ?_
        refine lv_iload_n hx hb dX8_ins_178 rfl (lv_at hl 2 rfl) ?_
        refine lv_iadd hx hb dX8_ins_179 ?_
        obtain ⟨g9, h⟩ := tx_ck h
        refine va_iald (i := (((5 : Int32) * x1) + x2)) hx hb hK hP 30 0 rfl rfl (tx_in g9) dX8_ins_180 ?_
        refine lv_goto (tgt := 185) hx hb dX8_ins_181 (by decide) ?_
        exact w_X8_ins_J185 F k146 hk146 x2 (S 56 (((5 : Int32) * x1) + x2).toNatClampNeg) (S 63 x1.toNatClampNeg) x1 S H locs ls h hP hD hS (lv_sub hl [0, 1, 2] rfl)
set_option maxHeartbeats 4000000 in
set_option maxRecDepth 100000 in
theorem w_X8_ins_L61 {p : Program} {l : Launch} {e : Env} {s : State} {m : MethodId} {below : List Frame} {meth : Method} {c : Code} {G : va_G} {cA : Nat → ClassId} {A : Nat → Prop} {aa : Nat → Nat} {L : Lo} {x1₀ : Int32} {S' : Tr} {x1 : Int32} {x2 : Int32} (F : tF p s m ([.ref (aa 0), .int x1₀] : List Value).toArray meth c G cA A RX8 cX8_ins 5 none)  (k2 : Int32 → Tr → Option (Tr)) (hk2 : ∀ (x2 : Int32) (S : Tr) (H : Heap) (locs : List Loc) (ls : Array Slot), k2 x2 S = some S' → va_P G vwCl (wM cA aa S L) H → va_D A (wM cA aa S L) → va_S A s.heap H locs → lv_has ls 5 [(0, .ref (aa 0)), (1, .int x1), (2, .int x2)] → G_X8_ins p l e s m below meth c G cA A aa L x1₀ S' H locs (F0 m 2 ls [])) (N : Nat) : ∀ (x3 : Int32) (S : Tr) (H : Heap) (locs : List Loc) (ls : Array Slot), lpF (fun _ _ => none) (fB_X8_ins_L61 k2 x1 x2) N x3 S = some S' → va_P G vwCl (wM cA aa S L) H → va_D A (wM cA aa S L) → va_S A s.heap H locs → lv_has ls 5 [(0, .ref (aa 0)), (1, .int x1), (2, .int x2), (3, .int x3)] → G_X8_ins p l e s m below meth c G cA A aa L x1₀ S' H locs (F0 m 61 ls []) := by
  obtain ⟨hx, hb, hr, hml, hT, hown, hlocks, hK, hN, hA⟩ := id F
  induction N with
  | zero =>
    intro x3 S H locs ls h
    have h : (none : Option (Tr)) = some S' := h
    cases h
  | succ N hk61 =>
    intro x3 S H locs ls h hP hD hS hl
    have h : fB_X8_ins_L61 k2 x1 x2 (lpF (fun _ _ => none) (fB_X8_ins_L61 k2 x1 x2) N) x3 S = some S' := h
    generalize hk61e : lpF (fun _ _ => none) (fB_X8_ins_L61 k2 x1 x2) N = k61 at h hk61
    unfold fB_X8_ins_L61 at h
    refine lv_iload_n hx hb dX8_ins_61 rfl (lv_at hl 3 rfl) ?_
    refine lv_aload_n hx hb dX8_ins_62 rfl (lv_at hl 0 rfl) ?_
    refine va_get (D := G) (ci := 8) (v := .int (S 0 14)) (C := RX8) (T := TX8) (N := 91) hx hb hT ku_8 hown hK hP 0 rfl rfl 14 (by decide) (hT _ kw_12_5) (fun _ h9 => h9) rfl dX8_ins_63 ?_
    refine lv_icmp_ge (tgt := 138) hx hb dX8_ins_66 (by decide) (fun c16 => ?_) (fun c16 => ?_)
    · have h := tx_pos c16 h
      obtain ⟨y17, ey17, h⟩ := tx_lt h
      refine lv_iinc (v := y17) (lv' := [(2, .int y17), (0, .ref (aa 0)), (1, .int x1), (3, .int x3)]) hx hb dX8_ins_138 hl (k := 2) rfl ey17 (by decide) rfl (fun ls hl => ?_)
      refine lv_goto (tgt := 2) hx hb dX8_ins_141 (by decide) ?_
      exact hk2 y17 S H locs ls h hP hD hS (lv_sub hl [1, 2, 0] rfl)
    · have h := tx_neg c16 h
      refine lv_aload_n hx hb dX8_ins_69 rfl (lv_at hl 0 rfl) ?_
      refine va_get (D := G) (ci := 8) (v := .ref (aa 30)) (C := RX8) (T := TX8) (N := 91) hx hb hT ku_8 hown hK hP 0 rfl rfl 29 (by decide) (hT _ kw_9_21) (fun _ h9 => h9) rfl dX8_ins_70 ?_
      refine lv_iload_n hx hb dX8_ins_73 rfl (lv_at hl 3 rfl) ?_
      obtain ⟨g18, h⟩ := tx_ck h
      refine va_iald (i := x3) hx hb hK hP 11 0 rfl rfl (tx_in g18) dX8_ins_74 ?_
      refine lv_iload_n hx hb dX8_ins_75 rfl (lv_at hl 2 rfl) ?_
      refine lv_icmp_ne (tgt := 132) hx hb dX8_ins_76 (by decide) (fun c19 => ?_) (fun c19 => ?_)
      · have h := tx_neg c19 h
        obtain ⟨y20, ey20, h⟩ := tx_lt h
        refine lv_iinc (v := y20) (lv' := [(3, .int y20), (0, .ref (aa 0)), (1, .int x1), (2, .int x2)]) hx hb dX8_ins_132 hl (k := 3) rfl ey20 (by decide) rfl (fun ls hl => ?_)
        refine lv_goto (tgt := 61) hx hb dX8_ins_135 (by decide) ?_
        exact hk61 y20 S H locs ls h hP hD hS (lv_sub hl [1, 2, 3, 0] rfl)
      · have h := tx_pos c19 h
        refine lv_aload_n hx hb dX8_ins_79 rfl (lv_at hl 0 rfl) ?_
        refine va_get (D := G) (ci := 8) (v := .ref (aa 53)) (C := RX8) (T := TX8) (N := 91) hx hb hT ku_8 hown hK hP 0 rfl rfl 52 (by decide) (hT _ kw_10_13) (fun _ h9 => h9) rfl dX8_ins_80 ?_
        refine lv_bipush (v := 10) hx hb dX8_ins_83 (by decide) ?_
        refine lv_iload_n hx hb dX8_ins_85 rfl (lv_at hl 1 rfl) ?_
        refine lv_imul hx hb dX8_ins_86 ?_
        refine lv_iload_n hx hb dX8_ins_87 rfl (lv_at hl 3 rfl) ?_
        refine lv_iadd hx hb dX8_ins_88 ?_
        obtain ⟨g21, h⟩ := tx_ck h
        refine va_iald (i := (((10 : Int32) * x1) + x3)) hx hb hK hP 27 0 rfl rfl (tx_in g21) dX8_ins_89 ?_
        refine lv_if_eq (tgt := 96) hx hb dX8_ins_90 (by decide) (fun c22 => ?_) (fun c22 => ?_)
        · have h := tx_pos c22 h
          refine lv_aload_n hx hb dX8_ins_96 rfl (lv_at hl 0 rfl) ?_
          refine lv_iload_n hx hb dX8_ins_97 rfl (lv_at hl 1 rfl) ?_
          refine lv_iload_n hx hb dX8_ins_98 rfl (lv_at hl 3 rfl) ?_
          obtain ⟨r23, hc24, h⟩ := tx_bd h
          refine tw_ci tw_all hP hD hS hA (va_runV (As := [.int x1, .int x3]) (rest := []) ⟨hx, hb, hml, hown, hT⟩ (c_X8_placeFor l G cA H.size aa S L x1 x3  r23 hc24) (cwV 2 hT (tq_gV kw_44_23 kw_45_0 kw_45_1 kw_1_5 kw_45_2) rfl rfl rfl (by decide +kernel) ⟨Nat.le_of_ble_eq_true rfl, Nat.le_of_ble_eq_true rfl⟩) ⟨(tw_pre tw_all hP hD hK hN).1, va_recv hK hP (ci := 8) (q0 := 0) rfl rfl, (tw_pre tw_all hP hD hK hN).2⟩ rfl rfl hl.1 rfl (lv_room (Nat.le_of_ble_eq_true rfl)) dX8_ins_99 ⟨Nat.le_of_ble_eq_true rfl, Nat.le_of_ble_eq_true rfl⟩) (fun _ _ H locs z25 hP hD hS => ?_)
          subst z25
          rw [List.append_nil] at hP hD
          have hP : va_P G vwCl (wM cA aa S L) H := hP
          have hD : va_D A (wM cA aa S L) := hD
          refine lv_istore (lv' := [(4, .int r23), (0, .ref (aa 0)), (1, .int x1), (2, .int x2), (3, .int x3)]) hx hb dX8_ins_102 hl (by decide) rfl (fun ls hl => ?_)
          refine lv_iload hx hb dX8_ins_104 (lv_at hl 0 rfl) ?_
          refine lv_if_ge (tgt := 124) hx hb dX8_ins_106 (by decide) (fun c26 => ?_) (fun c26 => ?_)
          · have h := tx_pos c26 h
            refine lv_aload_n hx hb dX8_ins_124 rfl (lv_at hl 1 rfl) ?_
            refine lv_iload_n hx hb dX8_ins_125 rfl (lv_at hl 2 rfl) ?_
            refine lv_iload hx hb dX8_ins_126 (lv_at hl 0 rfl) ?_
            refine lv_iload_n hx hb dX8_ins_128 rfl (lv_at hl 4 rfl) ?_
            obtain ⟨S_27, hc28, h⟩ := tx_bd h
            refine tw_cv tw_all hP hD hS hA (va_runV (As := [.int x1, .int r23, .int x3]) (rest := []) ⟨hx, hb, hml, hown, hT⟩ (c_X8_lays l G cA H.size aa S L x1 r23 x3  S_27 hc28) (cwV 3 hT (tq_gV kw_37_22 kw_37_23 kw_38_0 kw_1_5 kw_38_1) rfl rfl rfl (by decide +kernel) ⟨Nat.le_of_ble_eq_true rfl, Nat.le_of_ble_eq_true rfl⟩) ⟨(tw_pre tw_all hP hD hK hN).1, va_recv hK hP (ci := 8) (q0 := 0) rfl rfl, (tw_pre tw_all hP hD hK hN).2⟩ rfl rfl hl.1 rfl (lv_room (Nat.le_of_ble_eq_true rfl)) dX8_ins_129 ⟨Nat.le_of_ble_eq_true rfl, Nat.le_of_ble_eq_true rfl⟩) (fun _ H locs z29 hP hD hS => ?_)
            rw [List.append_nil] at hP hD
            have hP : va_P G vwCl (wM cA aa S_27 L) H := hP
            have hD : va_D A (wM cA aa S_27 L) := hD
            obtain ⟨y30, ey30, h⟩ := tx_lt h
            refine lv_iinc (v := y30) (lv' := [(3, .int y30), (4, .int r23), (0, .ref (aa 0)), (1, .int x1), (2, .int x2)]) hx hb dX8_ins_132 hl (k := 4) rfl ey30 (by decide) rfl (fun ls hl => ?_)
            refine lv_goto (tgt := 61) hx hb dX8_ins_135 (by decide) ?_
            exact hk61 y30 S_27 H locs ls h hP hD hS (lv_sub hl [2, 3, 4, 0] rfl)
          · have h := tx_neg c26 h
            refine lv_aload_n hx hb dX8_ins_109 rfl (lv_at hl 1 rfl) ?_
            refine va_get (D := G) (ci := 8) (v := .ref (aa 53)) (C := RX8) (T := TX8) (N := 91) hx hb hT ku_8 hown hK hP 0 rfl rfl 52 (by decide) (hT _ kw_10_13) (fun _ h9 => h9) rfl dX8_ins_110 ?_
            refine lv_bipush (v := 10) hx hb dX8_ins_113 (by decide) ?_
            refine lv_iload_n hx hb dX8_ins_115 rfl (lv_at hl 2 rfl) ?_
            refine lv_imul hx hb dX8_ins_116 ?_
            refine lv_iload_n hx hb dX8_ins_117 rfl (lv_at hl 4 rfl) ?_
            refine lv_iadd hx hb dX8_ins_118 ?_
            refine lv_iconst (v := 5) hx hb dX8_ins_119 (by decide) ?_
            refine va_iast (i := (((10 : Int32) * x1) + x3)) hx hb hK hP hD hS 27 0 rfl rfl (tx_in g21) dX8_ins_120 (fun H locs hP hD hS => ?_)
            obtain ⟨S_31, eS_31, h⟩ := tx_lt h
            rw [sM_a52, eS_31] at hP hD
            refine lv_goto (tgt := 132) hx hb dX8_ins_121 (by decide) ?_
            obtain ⟨y32, ey32, h⟩ := tx_lt h
            refine lv_iinc (v := y32) (lv' := [(3, .int y32), (4, .int r23), (0, .ref (aa 0)), (1, .int x1), (2, .int x2)]) hx hb dX8_ins_132 hl (k := 4) rfl ey32 (by decide) rfl (fun ls hl => ?_)
            refine lv_goto (tgt := 61) hx hb dX8_ins_135 (by decide) ?_
            exact hk61 y32 S_31 H locs ls h hP hD hS (lv_sub hl [2, 3, 4, 0] rfl)
        · have h := tx_neg c22 h
          refine lv_goto (tgt := 132) hx hb dX8_ins_93 (by decide) ?_
          obtain ⟨y33, ey33, h⟩ := tx_lt h
          refine lv_iinc (v := y33) (lv' := [(3, .int y33), (0, .ref (aa 0)), (1, .int x1), (2, .int x2)]) hx hb dX8_ins_132 hl (k := 3) rfl ey33 (by decide) rfl (fun ls hl => ?_)
          refine lv_goto (tgt := 61) hx hb dX8_ins_135 (by decide) ?_
          exact hk61 y33 S H locs ls h hP hD hS (lv_sub hl [1, 2, 3, 0] rfl)
set_option maxHeartbeats 4000000 in
set_option maxRecDepth 100000 in
theorem w_X8_ins_L2 {p : Program} {l : Launch} {e : Env} {s : State} {m : MethodId} {below : List Frame} {meth : Method} {c : Code} {G : va_G} {cA : Nat → ClassId} {A : Nat → Prop} {aa : Nat → Nat} {L : Lo} {x1₀ : Int32} {S' : Tr} {x1 : Int32} (F : tF p s m ([.ref (aa 0), .int x1₀] : List Value).toArray meth c G cA A RX8 cX8_ins 5 none)    (N : Nat) : ∀ (x2 : Int32) (S : Tr) (H : Heap) (locs : List Loc) (ls : Array Slot), lpF (fun _ _ => none) (fB_X8_ins_L2 x1) N x2 S = some S' → va_P G vwCl (wM cA aa S L) H → va_D A (wM cA aa S L) → va_S A s.heap H locs → lv_has ls 5 [(0, .ref (aa 0)), (1, .int x1), (2, .int x2)] → G_X8_ins p l e s m below meth c G cA A aa L x1₀ S' H locs (F0 m 2 ls []) := by
  obtain ⟨hx, hb, hr, hml, hT, hown, hlocks, hK, hN, hA⟩ := id F
  induction N with
  | zero =>
    intro x2 S H locs ls h
    have h : (none : Option (Tr)) = some S' := h
    cases h
  | succ N hk2 =>
    intro x2 S H locs ls h hP hD hS hl
    have h : fB_X8_ins_L2 x1 (lpF (fun _ _ => none) (fB_X8_ins_L2 x1) N) x2 S = some S' := h
    generalize hk2e : lpF (fun _ _ => none) (fB_X8_ins_L2 x1) N = k2 at h hk2
    unfold fB_X8_ins_L2 at h
    refine lv_iload_n hx hb dX8_ins_2 rfl (lv_at hl 2 rfl) ?_
    refine lv_aload_n hx hb dX8_ins_3 rfl (lv_at hl 0 rfl) ?_
    refine va_get (D := G) (ci := 8) (v := .int (S 0 13)) (C := RX8) (T := TX8) (N := 91) hx hb hT ku_8 hown hK hP 0 rfl rfl 13 (by decide) (hT _ kw_12_4) (fun _ h9 => h9) rfl dX8_ins_4 ?_
    refine lv_icmp_ge (tgt := 144) hx hb dX8_ins_7 (by decide) (fun c1 => ?_) (fun c1 => ?_)
    · have h := tx_pos c1 h
      refine lv_iconst (v := 0) hx hb dX8_ins_144 (by decide) ?_
      refine lv_istore_n (lv' := [(2, .int 0), (0, .ref (aa 0)), (1, .int x1)]) hx hb dX8_ins_145 rfl hl (by decide) rfl (fun ls hl => ?_)
      exact w_X8_ins_L146 F 2000 0 S H locs ls h hP hD hS (lv_sub hl [1, 2, 0] rfl)
    · have h := tx_neg c1 h
      refine lv_aload_n hx hb dX8_ins_10 rfl (lv_at hl 0 rfl) ?_
      refine va_get (D := G) (ci := 8) (v := .ref (aa 57)) (C := RX8) (T := TX8) (N := 91) hx hb hT ku_8 hown hK hP 0 rfl rfl 56 (by decide) (hT _ kw_10_17) (fun _ h9 => h9) rfl dX8_ins_11 ?_
      refine lv_bipush (v := 6) hx hb dX8_ins_14 (by decide) ?_
      refine lv_iload_n hx hb dX8_ins_16 rfl (lv_at hl 1 rfl) ?_
      refine lv_imul hx hb dX8_ins_17 ?_
      refine lv_iload_n hx hb dX8_ins_18 rfl (lv_at hl 2 rfl) ?_
      refine lv_iadd hx hb dX8_ins_19 ?_
      obtain ⟨g10, h⟩ := tx_ck h
      refine va_iald (i := (((6 : Int32) * x1) + x2)) hx hb hK hP 31 0 rfl rfl (tx_in g10) dX8_ins_20 ?_
      refine lv_aload_n hx hb dX8_ins_21 rfl (lv_at hl 0 rfl) ?_
      refine va_get (D := G) (ci := 8) (v := .ref (aa 62)) (C := RX8) (T := TX8) (N := 91) hx hb hT ku_8 hown hK hP 0 rfl rfl 61 (by decide) (hT _ kw_10_22) (fun _ h9 => h9) rfl dX8_ins_22 ?_
      refine lv_iload_n hx hb dX8_ins_25 rfl (lv_at hl 1 rfl) ?_
      obtain ⟨g11, h⟩ := tx_ck h
      refine va_iald (i := x1) hx hb hK hP 36 0 rfl rfl (tx_in g11) dX8_ins_26 ?_
      refine lv_icmp_ne (tgt := 138) hx hb dX8_ins_27 (by decide) (fun c12 => ?_) (fun c12 => ?_)
      · have h := tx_neg c12 h
        obtain ⟨y13, ey13, h⟩ := tx_lt h
        refine lv_iinc (v := y13) (lv' := [(2, .int y13), (0, .ref (aa 0)), (1, .int x1)]) hx hb dX8_ins_138 hl (k := 2) rfl ey13 (by decide) rfl (fun ls hl => ?_)
        refine lv_goto (tgt := 2) hx hb dX8_ins_141 (by decide) ?_
        exact hk2 y13 S H locs ls h hP hD hS (lv_sub hl [1, 2, 0] rfl)
      · have h := tx_pos c12 h
        refine lv_aload_n hx hb dX8_ins_30 rfl (lv_at hl 0 rfl) ?_
        refine va_get (D := G) (ci := 8) (v := .ref (aa 59)) (C := RX8) (T := TX8) (N := 91) hx hb hT ku_8 hown hK hP 0 rfl rfl 58 (by decide) (hT _ kw_10_19) (fun _ h9 => h9) rfl dX8_ins_31 ?_
        refine lv_bipush (v := 6) hx hb dX8_ins_34 (by decide) ?_
        refine lv_iload_n hx hb dX8_ins_36 rfl (lv_at hl 1 rfl) ?_
        refine lv_imul hx hb dX8_ins_37 ?_
        refine lv_iload_n hx hb dX8_ins_38 rfl (lv_at hl 2 rfl) ?_
        refine lv_iadd hx hb dX8_ins_39 ?_
        refine va_iald (i := (((6 : Int32) * x1) + x2)) hx hb hK hP 33 0 rfl rfl (tx_in g10) dX8_ins_40 ?_
        refine lv_if_eq (tgt := 47) hx hb dX8_ins_41 (by decide) (fun c14 => ?_) (fun c14 => ?_)
        · have h := tx_pos c14 h
          refine lv_aload_n hx hb dX8_ins_47 rfl (lv_at hl 0 rfl) ?_
          refine va_get (D := G) (ci := 8) (v := .ref (aa 59)) (C := RX8) (T := TX8) (N := 91) hx hb hT ku_8 hown hK hP 0 rfl rfl 58 (by decide) (hT _ kw_10_19) (fun _ h9 => h9) rfl dX8_ins_48 ?_
          refine lv_bipush (v := 6) hx hb dX8_ins_51 (by decide) ?_
          refine lv_iload_n hx hb dX8_ins_53 rfl (lv_at hl 1 rfl) ?_
          refine lv_imul hx hb dX8_ins_54 ?_
          refine lv_iload_n hx hb dX8_ins_55 rfl (lv_at hl 2 rfl) ?_
          refine lv_iadd hx hb dX8_ins_56 ?_
          refine lv_iconst (v := 1) hx hb dX8_ins_57 (by decide) ?_
          refine va_iast (i := (((6 : Int32) * x1) + x2)) hx hb hK hP hD hS 33 0 rfl rfl (tx_in g10) dX8_ins_58 (fun H locs hP hD hS => ?_)
          obtain ⟨S_15, eS_15, h⟩ := tx_lt h
          rw [sM_a58, eS_15] at hP hD
          refine lv_iconst (v := 0) hx hb dX8_ins_59 (by decide) ?_
          refine lv_istore_n (lv' := [(3, .int 0), (0, .ref (aa 0)), (1, .int x1), (2, .int x2)]) hx hb dX8_ins_60 rfl hl (by decide) rfl (fun ls hl => ?_)
          exact w_X8_ins_L61 F k2 hk2 2000 0 S_15 H locs ls h hP hD hS (lv_sub hl [1, 2, 3, 0] rfl)
        · have h := tx_neg c14 h
          refine lv_goto (tgt := 138) hx hb dX8_ins_44 (by decide) ?_
          obtain ⟨y34, ey34, h⟩ := tx_lt h
          refine lv_iinc (v := y34) (lv' := [(2, .int y34), (0, .ref (aa 0)), (1, .int x1)]) hx hb dX8_ins_138 hl (k := 2) rfl ey34 (by decide) rfl (fun ls hl => ?_)
          refine lv_goto (tgt := 2) hx hb dX8_ins_141 (by decide) ?_
          exact hk2 y34 S H locs ls h hP hD hS (lv_sub hl [1, 2, 0] rfl)
set_option maxHeartbeats 4000000 in
set_option maxRecDepth 100000 in
theorem c_X8_ins (l : Launch) (G : va_G) (cA : Nat → ClassId) (sz : Nat) (aa : Nat → Nat) (S : Tr) (L : Lo) (x1 : Int32)  (S' : Tr) (h : f_X8_ins S x1 = some S') : Met l yX8_ins (.code yX8_ins cX8_ins 5 none :: T0) ({ frames := 4, cells := 0, slots := 0, locals := 94 } : Room) (tqP G cA [.ref (aa 0), .int x1] (wM cA aa S L) sz) (tqQv G cA (fun (_ : Unit) => True) (fun (_ : Unit) => wM cA aa S' L) (va_A (wM cA aa S L) sz)) 0 0 (va_A (wM cA aa S L) sz) := by
  refine Met.ofW (cc := cX8_ins) (maxL := 5) (ret := none) (by decide) rfl ?_
  intro p e s m args below meth c s₁ B hml hv
  obtain ⟨rfl, hsz, hP, hK, hD0, hN⟩ := hv
  have hx := B.exec
  have hb := B.bytes
  have hr := B.returns
  have hts := atoms_spec (ws := .code yX8_ins cX8_ins 5 none :: T0) B.pre
  have hT : ∀ w ∈ T0, w.before _ s = true := fun w h => hts w (List.mem_cons_of_mem _ h)
  have hown : s.vm.findClass RX8 = some m.cls := findClass_of_methodNamed B.named
  have hlocks := B.notSynchronized
  subst hsz
  have hD := hD0.self (sz := s.heap.size)
  generalize hAe : va_A (wM cA aa S L) s.heap.size = A at hD ⊢
  have hA : ∀ q : Nat, s.heap.size ≤ q → A q := fun q h => by rw [← hAe]; exact Or.inr h
  have hS : va_S A s.heap s.heap [] := va_S.rf
  have hl := lv_entry ([.ref (aa 0), .int x1]) (n := 5) (Nat.le_of_ble_eq_true rfl)
  rw [lg_entry_eq]
  generalize (lg_sl ([.ref (aa 0), .int x1]) ++ List.replicate (5 - (lg_sl ([.ref (aa 0), .int x1])).length) Slot.unset).toArray = ls at hl ⊢
  have hl : lv_has ls 5 [(0, .ref (aa 0)), (1, .int x1)] := hl
  have F : tF p s m ([.ref (aa 0), .int x1] : List Value).toArray meth c G cA A RX8 cX8_ins 5 none := ⟨hx, hb, hr, hml, hT, hown, hlocks, hK, hN, hA⟩
  obtain ⟨H, hH⟩ : ∃ z, z = s.heap := ⟨_, rfl⟩
  rw [← hH] at hP
  have hS : va_S A s.heap H [] := by rw [hH]; exact hS
  suffices hgo : G_X8_ins p l e s m below meth c G cA A aa L x1 S' H [] (F0 m 0 ls []) by rw [hH] at hgo; exact hgo
  generalize ([] : List Loc) = locs at hS ⊢
  unfold f_X8_ins at h
  refine lv_iconst (v := 0) hx hb dX8_ins_0 (by decide) ?_
  refine lv_istore_n (lv' := [(2, .int 0), (0, .ref (aa 0)), (1, .int x1)]) hx hb dX8_ins_1 rfl hl (by decide) rfl (fun ls hl => ?_)
  exact w_X8_ins_L2 F 2000 0 S H locs ls h hP hD hS (lv_sub hl [1, 2, 0] rfl)
abbrev G_X8_fallOf (p : Program) (l : Launch) (e : Env) (s : State) (m : MethodId) (below : List Frame) (meth : Method) (c : Code) (G : va_G) (cA : Nat → ClassId) (A : Nat → Prop) (aa : Nat → Nat) (x1 : Int32) (x2 : Int32) (r0 : Int32) (S' : Tr) (L' : Lo) (H : Heap) (locs : List Loc) (g : JFrame) : Prop := W p l e (headSpec (.code yX8_fallOf cX8_fallOf 4 (some .int) :: T0) ({ frames := 4, cells := 0, slots := 0, locals := 97 } : Room)).room s m ([.ref (aa 0), .int x1, .int x2] : List Value).toArray below meth c H locs 0 0 (MQ below (tqQi G cA (fun (r : Int32) (_ : Unit) => r = r0) (fun (_ : Unit) => wM cA aa S' L') A) ([.ref (aa 0), .int x1, .int x2] : List Value).toArray s 0 0 A) g
set_option maxHeartbeats 4000000 in
set_option maxRecDepth 100000 in
theorem w_X8_fallOf_J58 {p : Program} {l : Launch} {e : Env} {s : State} {m : MethodId} {below : List Frame} {meth : Method} {c : Code} {G : va_G} {cA : Nat → ClassId} {A : Nat → Prop} {aa : Nat → Nat} {x1₀ : Int32} {x2₀ : Int32} {r0 : Int32} {S' : Tr} {L' : Lo} (F : tF p s m ([.ref (aa 0), .int x1₀, .int x2₀] : List Value).toArray meth c G cA A RX8 cX8_fallOf 4 (some .int))    (s0 : Int32) (s1 : Int32) (S : Tr) (L : Lo) (H : Heap) (locs : List Loc) (ls : Array Slot) (h : fJ_X8_fallOf_J58 s0 s1 S L = some (r0, S', L')) (hP : va_P G vwCl (wM cA aa S_12 L_13) H) (hD : va_D A (wM cA aa S_12 L_13)) (hS : va_S A s.heap H locs) (hl : lv_has ls 4 []) : G_X8_fallOf p l e s m below meth c G cA A aa x1₀ x2₀ r0 S' L' H locs (F0 m 58 ls []) := by
  obtain ⟨hx, hb, hr, hml, hT, hown, hlocks, hK, hN, hA⟩ := id F
  unfold fJ_X8_fallOf_J58 at h
  refine lv_bipush (v := 100) hx hb dX8_fallOf_58 (by decide) ?_
  obtain ⟨⟨r11, S_12, L_13⟩, hc14, h⟩ := tx_bd h
  replace h := tx_let (y := r11) rfl h
  replace h := tx_let (y := S_12) rfl h
  replace h := tx_let (y := L_13) rfl h
  refine tw_ci tw_all hP hD hS hA (va_runV (As := [.int s1, .int s0, .int 100]) (rest := []) ⟨hx, hb, hml, hown, hT⟩ (c_X8_boundLaw l G cA H.size aa S L s1 s0 (100 : Int32)  r11 S_12 L_13 hc14) (cwV 3 hT (tq_gV kw_44_11 kw_44_12 kw_44_13 kw_1_5 kw_44_14) rfl rfl rfl (by decide +kernel) ⟨Nat.le_of_ble_eq_true rfl, Nat.le_of_ble_eq_true rfl⟩) ⟨(tw_pre tw_all hP hD hK hN).1, va_recv hK hP (ci := 8) (q0 := 0) rfl rfl, (tw_pre tw_all hP hD hK hN).2⟩ rfl rfl hl.1 rfl (lv_room (Nat.le_of_ble_eq_true rfl)) dX8_fallOf_60 ⟨Nat.le_of_ble_eq_true rfl, Nat.le_of_ble_eq_true rfl⟩) (fun _ _ H locs z15 hP hD hS => ?_)
  subst z15
  rw [List.append_nil] at hP hD
  have hP : va_P G vwCl (wM cA aa S_12 L_13) H := hP
  have hD : va_D A (wM cA aa S_12 L_13) := hD
  obtain ⟨rfl, rfl, rfl⟩ := tx_3 h
  exact W.iret hx hb hr (fun t ht hW => ⟨⟨_, (), rfl, rfl, by rw [ht]; exact hP, hD⟩, hS.F ht⟩) hS.2.2 dX8_fallOf_63
set_option maxHeartbeats 4000000 in
set_option maxRecDepth 100000 in
theorem w_X8_fallOf_J17 {p : Program} {l : Launch} {e : Env} {s : State} {m : MethodId} {below : List Frame} {meth : Method} {c : Code} {G : va_G} {cA : Nat → ClassId} {A : Nat → Prop} {aa : Nat → Nat} {x1₀ : Int32} {x2₀ : Int32} {r0 : Int32} {S' : Tr} {L' : Lo} (F : tF p s m ([.ref (aa 0), .int x1₀, .int x2₀] : List Value).toArray meth c G cA A RX8 cX8_fallOf 4 (some .int))    (x1 : Int32) (x2 : Int32) (s0 : Int32) (S : Tr) (L : Lo) (H : Heap) (locs : List Loc) (ls : Array Slot) (h : fJ_X8_fallOf_J17 x1 x2 s0 S L = some (r0, S', L')) (hP : va_P G vwCl (wM cA aa S L_7) H) (hD : va_D A (wM cA aa S L_7)) (hS : va_S A s.heap H locs) (hl : lv_has ls 4 [(3, .int y6), (0, .ref (aa 0)), (1, .int x1), (2, .int x2)]) : G_X8_fallOf p l e s m below meth c G cA A aa x1₀ x2₀ r0 S' L' H locs (F0 m 17 ls [.int 1, .ref (aa 0)]) := by
  obtain ⟨hx, hb, hr, hml, hT, hown, hlocks, hK, hN, hA⟩ := id F
  unfold fJ_X8_fallOf_J17 at h
  refine lv_bipush (v := 10) hx hb dX8_fallOf_17 (by decide) ?_
  refine lv_aload_n hx hb dX8_fallOf_19 rfl (lv_at hl 0 rfl) ?_
  refine lv_iload_n hx hb dX8_fallOf_20 rfl (lv_at hl 1 rfl) ?_
  refine lv_iload_n hx hb dX8_fallOf_21 rfl (lv_at hl 2 rfl) ?_
  obtain ⟨r2, hc3, h⟩ := tx_bd h
  refine tw_ci tw_all hP hD hS hA (va_runV (As := [.int x1, .int x2]) (rest := [.int 10, .int s0]) ⟨hx, hb, hml, hown, hT⟩ (c_X8_belowOf l G cA H.size aa S L x1 x2  r2 hc3) (cwV 2 hT (tq_gV kw_31_6 kw_31_7 kw_31_8 kw_1_5 kw_31_9) rfl rfl rfl (by decide +kernel) ⟨Nat.le_of_ble_eq_true rfl, Nat.le_of_ble_eq_true rfl⟩) ⟨(tw_pre tw_all hP hD hK hN).1, va_recv hK hP (ci := 8) (q0 := 0) rfl rfl, (tw_pre tw_all hP hD hK hN).2⟩ rfl rfl hl.1 rfl (lv_room (Nat.le_of_ble_eq_true rfl)) dX8_fallOf_22 ⟨Nat.le_of_ble_eq_true rfl, Nat.le_of_ble_eq_true rfl⟩) (fun _ _ H locs z4 hP hD hS => ?_)
  subst z4
  rw [List.append_nil] at hP hD
  have hP : va_P G vwCl (wM cA aa S L) H := hP
  have hD : va_D A (wM cA aa S L) := hD
  refine lv_imul hx hb dX8_fallOf_25 ?_
  refine lv_iadd hx hb dX8_fallOf_26 ?_
  refine lv_aload_n hx hb dX8_fallOf_27 rfl (lv_at hl 0 rfl) ?_
  refine va_get (D := G) (ci := 8) (v := .ref (aa 31)) (C := RX8) (T := TX8) (N := 91) hx hb hT ku_8 hown hK hP 0 rfl rfl 30 (by decide) (hT _ kw_9_22) (fun _ h9 => h9) rfl dX8_fallOf_28 ?_
  refine lv_iload_n hx hb dX8_fallOf_31 rfl (lv_at hl 2 rfl) ?_
  obtain ⟨g5, h⟩ := tx_ck h
  refine va_iald (i := x2) hx hb hK hP 12 0 rfl rfl (tx_in g5) dX8_fallOf_32 ?_
  refine lv_isub hx hb dX8_fallOf_33 ?_
  refine lv_topi (fun y6 ey6 => ?_)
  have h := tx_let ey6 h
  refine lv_istore_n (lv' := [(3, .int y6), (0, .ref (aa 0)), (1, .int x1), (2, .int x2)]) hx hb dX8_fallOf_34 rfl hl (by decide) rfl (fun ls hl => ?_)
  refine lv_aload_n hx hb dX8_fallOf_35 rfl (lv_at hl 1 rfl) ?_
  refine lv_iload_n hx hb dX8_fallOf_36 rfl (lv_at hl 2 rfl) ?_
  refine lv_iload_n hx hb dX8_fallOf_37 rfl (lv_at hl 3 rfl) ?_
  refine lv_aload_n hx hb dX8_fallOf_38 rfl (lv_at hl 1 rfl) ?_
  refine va_get (D := G) (ci := 8) (v := .ref (aa 30)) (C := RX8) (T := TX8) (N := 91) hx hb hT ku_8 hown hK hP 0 rfl rfl 29 (by decide) (hT _ kw_9_21) (fun _ h9 => h9) rfl dX8_fallOf_39 ?_
  refine lv_iload_n hx hb dX8_fallOf_42 rfl (lv_at hl 3 rfl) ?_
  refine va_iald (i := x2) hx hb hK hP 11 0 rfl rfl (tx_in g5) dX8_fallOf_43 ?_
  obtain ⟨L_7, hc8, h⟩ := tx_bd h
  refine tw_cv tw_all hP hD hS hA (va_runV (As := [.int x1, .int x2, .int (S 30 x2.toNatClampNeg)]) (rest := []) ⟨hx, hb, hml, hown, hT⟩ (c_X8_layNames l G cA H.size aa S L x1 x2 (S 30 x2.toNatClampNeg)  L_7 hc8) (cwV 3 hT (tq_gV kw_34_11 kw_34_12 kw_34_13 kw_1_5 kw_34_14) rfl rfl rfl (by decide +kernel) ⟨Nat.le_of_ble_eq_true rfl, Nat.le_of_ble_eq_true rfl⟩) ⟨(tw_pre tw_all hP hD hK hN).1, va_recv hK hP (ci := 8) (q0 := 0) rfl rfl, (tw_pre tw_all hP hD hK hN).2⟩ rfl rfl hl.1 rfl (lv_room (Nat.le_of_ble_eq_true rfl)) dX8_fallOf_44 ⟨Nat.le_of_ble_eq_true rfl, Nat.le_of_ble_eq_true rfl⟩) (fun _ H locs z9 hP hD hS => ?_)
  rw [List.append_nil] at hP hD
  have hP : va_P G vwCl (wM cA aa S L_7) H := hP
  have hD : va_D A (wM cA aa S L_7) := hD
  refine lv_aload_n hx hb dX8_fallOf_47 rfl (lv_at hl 1 rfl) ?_
  refine lv_iconst (v := 1) hx hb dX8_fallOf_48 (by decide) ?_
  refine lv_iload_n hx hb dX8_fallOf_49 rfl (lv_at hl 0 rfl) ?_
  refine lv_if_ge (tgt := 57) hx hb dX8_fallOf_50 (by decide) (fun c10 => ?_) (fun c10 => ?_)
  · have h := tx_pos c10 h
    refine lv_iload_n hx hb dX8_fallOf_57 rfl (lv_at hl 0 rfl) ?_
    exact w_X8_fallOf_J58 F y6 1 S L_7 H locs ls h hP hD hS (lv_sub hl [] rfl)
  · have h := tx_neg c10 h
    refine lv_iconst (v := 0) hx hb dX8_fallOf_53 (by decide) ?_
    refine lv_goto (tgt := 58) hx hb dX8_fallOf_54 (by decide) ?_
    exact w_X8_fallOf_J58 F 0 1 S L_7 H locs ls h hP hD hS (lv_sub hl [] rfl)
set_option maxHeartbeats 4000000 in
set_option maxRecDepth 100000 in
theorem c_X8_fallOf (l : Launch) (G : va_G) (cA : Nat → ClassId) (sz : Nat) (aa : Nat → Nat) (S : Tr) (L : Lo) (x1 : Int32) (x2 : Int32)  (r0 : Int32) (S' : Tr) (L' : Lo) (h : f_X8_fallOf S L x1 x2 = some (r0, S', L')) : Met l yX8_fallOf (.code yX8_fallOf cX8_fallOf 4 (some .int) :: T0) ({ frames := 4, cells := 0, slots := 0, locals := 97 } : Room) (tqP G cA [.ref (aa 0), .int x1, .int x2] (wM cA aa S L) sz) (tqQi G cA (fun (r : Int32) (_ : Unit) => r = r0) (fun (_ : Unit) => wM cA aa S' L') (va_A (wM cA aa S L) sz)) 0 0 (va_A (wM cA aa S L) sz) := by
  refine Met.ofW (cc := cX8_fallOf) (maxL := 4) (ret := (some .int)) (by decide) rfl ?_
  intro p e s m args below meth c s₁ B hml hv
  obtain ⟨rfl, hsz, hP, hK, hD0, hN⟩ := hv
  have hx := B.exec
  have hb := B.bytes
  have hr := B.returns
  have hts := atoms_spec (ws := .code yX8_fallOf cX8_fallOf 4 (some .int) :: T0) B.pre
  have hT : ∀ w ∈ T0, w.before _ s = true := fun w h => hts w (List.mem_cons_of_mem _ h)
  have hown : s.vm.findClass RX8 = some m.cls := findClass_of_methodNamed B.named
  have hlocks := B.notSynchronized
  subst hsz
  have hD := hD0.self (sz := s.heap.size)
  generalize hAe : va_A (wM cA aa S L) s.heap.size = A at hD ⊢
  have hA : ∀ q : Nat, s.heap.size ≤ q → A q := fun q h => by rw [← hAe]; exact Or.inr h
  have hS : va_S A s.heap s.heap [] := va_S.rf
  have hl := lv_entry ([.ref (aa 0), .int x1, .int x2]) (n := 4) (Nat.le_of_ble_eq_true rfl)
  rw [lg_entry_eq]
  generalize (lg_sl ([.ref (aa 0), .int x1, .int x2]) ++ List.replicate (4 - (lg_sl ([.ref (aa 0), .int x1, .int x2])).length) Slot.unset).toArray = ls at hl ⊢
  have hl : lv_has ls 4 [(0, .ref (aa 0)), (1, .int x1), (2, .int x2)] := hl
  have F : tF p s m ([.ref (aa 0), .int x1, .int x2] : List Value).toArray meth c G cA A RX8 cX8_fallOf 4 (some .int) := ⟨hx, hb, hr, hml, hT, hown, hlocks, hK, hN, hA⟩
  obtain ⟨H, hH⟩ : ∃ z, z = s.heap := ⟨_, rfl⟩
  rw [← hH] at hP
  have hS : va_S A s.heap H [] := by rw [hH]; exact hS
  suffices hgo : G_X8_fallOf p l e s m below meth c G cA A aa x1 x2 r0 S' L' H [] (F0 m 0 ls []) by rw [hH] at hgo; exact hgo
  generalize ([] : List Loc) = locs at hS ⊢
  unfold f_X8_fallOf at h
  refine lv_aload_n hx hb dX8_fallOf_0 rfl (lv_at hl 0 rfl) ?_
  refine va_get (D := G) (ci := 8) (v := .int (S 0 68)) (C := RX8) (T := TX8) (N := 91) hx hb hT ku_8 hown hK hP 0 rfl rfl 68 (by decide) (hT _ kw_13_6) (fun _ h9 => h9) rfl dX8_fallOf_1 ?_
  refine lv_if_eq (tgt := 11) hx hb dX8_fallOf_4 (by decide) (fun c1 => ?_) (fun c1 => ?_)
  · have h := tx_pos c1 h
    refine lv_aload_n hx hb dX8_fallOf_11 rfl (lv_at hl 0 rfl) ?_
    refine va_get (D := G) (ci := 8) (v := .ref (aa 23)) (C := RX8) (T := TX8) (N := 91) hx hb hT ku_8 hown hK hP 0 rfl rfl 22 (by decide) (hT _ kw_9_14) (fun _ h9 => h9) rfl dX8_fallOf_12 ?_
    refine lv_iconst (v := 1) hx hb dX8_fallOf_15 (by decide) ?_
    refine va_iald (i := 1) hx hb hK hP 4 0 rfl rfl (tq_in (by decide)) dX8_fallOf_16 ?_
    refine tq_i (w := (S 23 1)) rfl ?_
    exact w_X8_fallOf_J17 F x1 x2 (S 23 1) S L H locs ls h hP hD hS (lv_sub hl [0, 1, 2] rfl)
  · have h := tx_neg c1 h
    refine lv_iconst (v := 0) hx hb dX8_fallOf_7 (by decide) ?_
    refine lv_goto (tgt := 17) hx hb dX8_fallOf_8 (by decide) ?_
    exact w_X8_fallOf_J17 F x1 x2 0 S L H locs ls h hP hD hS (lv_sub hl [0, 1, 2] rfl)
abbrev G_X8_number1 (p : Program) (l : Launch) (e : Env) (s : State) (m : MethodId) (below : List Frame) (meth : Method) (c : Code) (G : va_G) (cA : Nat → ClassId) (A : Nat → Prop) (aa : Nat → Nat) (S : Tr) (x1 : Int32) (r0 : Int32) (L' : Lo) (H : Heap) (locs : List Loc) (g : JFrame) : Prop := W p l e (headSpec (.code yX8_number1 cX8_number1 2 (some .int) :: T0) ({ frames := 0, cells := 0, slots := 0, locals := 0 } : Room)).room s m ([.ref (aa 0), .int x1] : List Value).toArray below meth c H locs 0 0 (MQ below (tqQi G cA (fun (r : Int32) (_ : Unit) => r = r0) (fun (_ : Unit) => wM cA aa S L') A) ([.ref (aa 0), .int x1] : List Value).toArray s 0 0 A) g
set_option maxHeartbeats 4000000 in
set_option maxRecDepth 100000 in
theorem c_X8_number1 (l : Launch) (G : va_G) (cA : Nat → ClassId) (sz : Nat) (aa : Nat → Nat) (S : Tr) (L : Lo) (x1 : Int32)  (r0 : Int32) (L' : Lo) (h : f_X8_number1 L x1 = some (r0, L')) : Met l yX8_number1 (.code yX8_number1 cX8_number1 2 (some .int) :: T0) ({ frames := 0, cells := 0, slots := 0, locals := 0 } : Room) (tqP G cA [.ref (aa 0), .int x1] (wM cA aa S L) sz) (tqQi G cA (fun (r : Int32) (_ : Unit) => r = r0) (fun (_ : Unit) => wM cA aa S L') (va_A (wM cA aa S L) sz)) 0 0 (va_A (wM cA aa S L) sz) := by
  refine Met.ofW (cc := cX8_number1) (maxL := 2) (ret := (some .int)) (by decide) rfl ?_
  intro p e s m args below meth c s₁ B hml hv
  obtain ⟨rfl, hsz, hP, hK, hD0, hN⟩ := hv
  have hx := B.exec
  have hb := B.bytes
  have hr := B.returns
  have hts := atoms_spec (ws := .code yX8_number1 cX8_number1 2 (some .int) :: T0) B.pre
  have hT : ∀ w ∈ T0, w.before _ s = true := fun w h => hts w (List.mem_cons_of_mem _ h)
  have hown : s.vm.findClass RX8 = some m.cls := findClass_of_methodNamed B.named
  have hlocks := B.notSynchronized
  subst hsz
  have hD := hD0.self (sz := s.heap.size)
  generalize hAe : va_A (wM cA aa S L) s.heap.size = A at hD ⊢
  have hA : ∀ q : Nat, s.heap.size ≤ q → A q := fun q h => by rw [← hAe]; exact Or.inr h
  have hS : va_S A s.heap s.heap [] := va_S.rf
  have hl := lv_entry ([.ref (aa 0), .int x1]) (n := 2) (Nat.le_of_ble_eq_true rfl)
  rw [lg_entry_eq]
  generalize (lg_sl ([.ref (aa 0), .int x1]) ++ List.replicate (2 - (lg_sl ([.ref (aa 0), .int x1])).length) Slot.unset).toArray = ls at hl ⊢
  have hl : lv_has ls 2 [(0, .ref (aa 0)), (1, .int x1)] := hl
  have F : tF p s m ([.ref (aa 0), .int x1] : List Value).toArray meth c G cA A RX8 cX8_number1 2 (some .int) := ⟨hx, hb, hr, hml, hT, hown, hlocks, hK, hN, hA⟩
  obtain ⟨H, hH⟩ : ∃ z, z = s.heap := ⟨_, rfl⟩
  rw [← hH] at hP
  have hS : va_S A s.heap H [] := by rw [hH]; exact hS
  suffices hgo : G_X8_number1 p l e s m below meth c G cA A aa S x1 r0 L' H [] (F0 m 0 ls []) by rw [hH] at hgo; exact hgo
  generalize ([] : List Loc) = locs at hS ⊢
  unfold f_X8_number1 at h
  refine lv_aload_n hx hb dX8_number1_0 rfl (lv_at hl 0 rfl) ?_
  refine lv_aload_n hx hb dX8_number1_1 rfl (lv_at hl 0 rfl) ?_
  refine va_get (D := G) (ci := 8) (v := .long (L 0 63)) (C := RX8) (T := TX8) (N := 91) hx hb hT ku_8 hown hK hP 0 rfl rfl 63 (by decide) (hT _ kw_12_14) (fun _ h9 => h9) rfl dX8_number1_2 ?_
  refine lv_ldc2 (v := 1103515245) hx hb hown (hT _ kw_45_19) dX8_number1_5 ?_
  refine lv_lmul hx hb dX8_number1_8 ?_
  refine lv_ldc2 (v := 12345) hx hb hown (hT _ kw_45_20) dX8_number1_9 ?_
  refine lv_ladd hx hb dX8_number1_12 ?_
  refine lv_ldc2 (v := 2147483647) hx hb hown (hT _ kw_45_21) dX8_number1_13 ?_
  refine lv_land hx hb dX8_number1_16 ?_
  refine va_put (D := G) (ci := 8) (v := .long ((((L 0 63) * 1103515245) + 12345) &&& 2147483647)) (ty := .long) (C := RX8) (T := TX8) (N := 91) hx hb hT ku_8 tyX8 tyX8_ok nmX8 hown hK hP hD hS 0 rfl rfl 63 (by decide) (hT _ kw_12_14) (fun _ h9 => h9) rfl (by decide +kernel) rfl rfl (Nat.le_of_ble_eq_true rfl) dX8_number1_17 (fun H locs hP hD hS => ?_)
  obtain ⟨L_1, eL_1, h⟩ := tx_lt h
  rw [sM_f63, eL_1] at hP hD
  refine lv_aload_n hx hb dX8_number1_20 rfl (lv_at hl 0 rfl) ?_
  refine va_get (D := G) (ci := 8) (v := .long (L_1 0 63)) (C := RX8) (T := TX8) (N := 91) hx hb hT ku_8 hown hK hP 0 rfl rfl 63 (by decide) (hT _ kw_12_14) (fun _ h9 => h9) rfl dX8_number1_21 ?_
  refine lv_ldc2 (v := 65536) hx hb hown (hT _ kw_45_22) dX8_number1_24 ?_
  refine lv_ldiv hx hb dX8_number1_27 (by decide) ?_
  refine lv_iload_n hx hb dX8_number1_28 rfl (lv_at hl 1 rfl) ?_
  refine lv_i2l hx hb dX8_number1_29 rfl ?_
  obtain ⟨g2, h⟩ := tx_ck h
  refine lv_lrem hx hb dX8_number1_30 (tx_nzl g2) ?_
  refine lv_l2i hx hb dX8_number1_31 rfl ?_
  obtain ⟨rfl, rfl⟩ := tx_2 h
  exact W.iret hx hb hr (fun t ht hW => ⟨⟨_, (), rfl, rfl, by rw [ht]; exact hP, hD⟩, hS.F ht⟩) hS.2.2 dX8_number1_32
abbrev G_X8_isDrawn (p : Program) (l : Launch) (e : Env) (s : State) (m : MethodId) (below : List Frame) (meth : Method) (c : Code) (G : va_G) (cA : Nat → ClassId) (A : Nat → Prop) (aa : Nat → Nat) (S : Tr) (x1 : Int32) (r0 : Int32) (L' : Lo) (H : Heap) (locs : List Loc) (g : JFrame) : Prop := W p l e (headSpec (.code yX8_isDrawn cX8_isDrawn 2 (some .boolean) :: T0) ({ frames := 1, cells := 0, slots := 0, locals := 21 } : Room)).room s m ([.ref (aa 0), .int x1] : List Value).toArray below meth c H locs 0 0 (MQ below (tqQi G cA (fun (r : Int32) (_ : Unit) => r = r0) (fun (_ : Unit) => wM cA aa S L') A) ([.ref (aa 0), .int x1] : List Value).toArray s 0 0 A) g
set_option maxHeartbeats 4000000 in
set_option maxRecDepth 100000 in
theorem c_X8_isDrawn (l : Launch) (G : va_G) (cA : Nat → ClassId) (sz : Nat) (aa : Nat → Nat) (S : Tr) (L : Lo) (x1 : Int32)  (r0 : Int32) (L' : Lo) (h : f_X8_isDrawn S L x1 = some (r0, L')) : Met l yX8_isDrawn (.code yX8_isDrawn cX8_isDrawn 2 (some .boolean) :: T0) ({ frames := 1, cells := 0, slots := 0, locals := 21 } : Room) (tqP G cA [.ref (aa 0), .int x1] (wM cA aa S L) sz) (tqQi G cA (fun (r : Int32) (_ : Unit) => r = r0) (fun (_ : Unit) => wM cA aa S L') (va_A (wM cA aa S L) sz)) 0 0 (va_A (wM cA aa S L) sz) := by
  refine Met.ofW (cc := cX8_isDrawn) (maxL := 2) (ret := (some .boolean)) (by decide) rfl ?_
  intro p e s m args below meth c s₁ B hml hv
  obtain ⟨rfl, hsz, hP, hK, hD0, hN⟩ := hv
  have hx := B.exec
  have hb := B.bytes
  have hr := B.returns
  have hts := atoms_spec (ws := .code yX8_isDrawn cX8_isDrawn 2 (some .boolean) :: T0) B.pre
  have hT : ∀ w ∈ T0, w.before _ s = true := fun w h => hts w (List.mem_cons_of_mem _ h)
  have hown : s.vm.findClass RX8 = some m.cls := findClass_of_methodNamed B.named
  have hlocks := B.notSynchronized
  subst hsz
  have hD := hD0.self (sz := s.heap.size)
  generalize hAe : va_A (wM cA aa S L) s.heap.size = A at hD ⊢
  have hA : ∀ q : Nat, s.heap.size ≤ q → A q := fun q h => by rw [← hAe]; exact Or.inr h
  have hS : va_S A s.heap s.heap [] := va_S.rf
  have hl := lv_entry ([.ref (aa 0), .int x1]) (n := 2) (Nat.le_of_ble_eq_true rfl)
  rw [lg_entry_eq]
  generalize (lg_sl ([.ref (aa 0), .int x1]) ++ List.replicate (2 - (lg_sl ([.ref (aa 0), .int x1])).length) Slot.unset).toArray = ls at hl ⊢
  have hl : lv_has ls 2 [(0, .ref (aa 0)), (1, .int x1)] := hl
  have F : tF p s m ([.ref (aa 0), .int x1] : List Value).toArray meth c G cA A RX8 cX8_isDrawn 2 (some .boolean) := ⟨hx, hb, hr, hml, hT, hown, hlocks, hK, hN, hA⟩
  obtain ⟨H, hH⟩ : ∃ z, z = s.heap := ⟨_, rfl⟩
  rw [← hH] at hP
  have hS : va_S A s.heap H [] := by rw [hH]; exact hS
  suffices hgo : G_X8_isDrawn p l e s m below meth c G cA A aa S x1 r0 L' H [] (F0 m 0 ls []) by rw [hH] at hgo; exact hgo
  generalize ([] : List Loc) = locs at hS ⊢
  unfold f_X8_isDrawn at h
  refine lv_aload_n hx hb dX8_isDrawn_0 rfl (lv_at hl 0 rfl) ?_
  refine va_get (D := G) (ci := 8) (v := .int (S 0 65)) (C := RX8) (T := TX8) (N := 91) hx hb hT ku_8 hown hK hP 0 rfl rfl 65 (by decide) (hT _ kw_13_3) (fun _ h9 => h9) rfl dX8_isDrawn_1 ?_
  refine lv_if_eq (tgt := 25) hx hb dX8_isDrawn_4 (by decide) (fun c1 => ?_) (fun c1 => ?_)
  · have h := tx_pos c1 h
    refine lv_iload_n hx hb dX8_isDrawn_25 rfl (lv_at hl 1 rfl) ?_
    refine lv_bipush (v := 50) hx hb dX8_isDrawn_26 (by decide) ?_
    refine lv_icmp_lt (tgt := 35) hx hb dX8_isDrawn_28 (by decide) (fun c2 => ?_) (fun c2 => ?_)
    · have h := tx_pos c2 h
      refine lv_iconst (v := 0) hx hb dX8_isDrawn_35 (by decide) ?_
      obtain ⟨rfl, rfl⟩ := tx_2 h
      exact W.zret (ty := .boolean) hx hb hr rfl (fun t ht hW => ⟨⟨_, (), rfl, rfl, by rw [ht]; exact hP, hD⟩, hS.F ht⟩) hS.2.2 dX8_isDrawn_36
    · have h := tx_neg c2 h
      refine lv_iconst (v := 1) hx hb dX8_isDrawn_31 (by decide) ?_
      refine lv_goto (tgt := 36) hx hb dX8_isDrawn_32 (by decide) ?_
      obtain ⟨rfl, rfl⟩ := tx_2 h
      exact W.zret (ty := .boolean) hx hb hr rfl (fun t ht hW => ⟨⟨_, (), rfl, rfl, by rw [ht]; exact hP, hD⟩, hS.F ht⟩) hS.2.2 dX8_isDrawn_36
  · have h := tx_neg c1 h
    refine lv_iload_n hx hb dX8_isDrawn_7 rfl (lv_at hl 1 rfl) ?_
    refine lv_aload_n hx hb dX8_isDrawn_8 rfl (lv_at hl 0 rfl) ?_
    refine lv_bipush (v := 100) hx hb dX8_isDrawn_9 (by decide) ?_
    obtain ⟨⟨r3, L_4⟩, hc5, h⟩ := tx_bd h
    replace h := tx_let (y := r3) rfl h
    replace h := tx_let (y := L_4) rfl h
    refine tw_ci tw_all hP hD hS hA (va_runV (As := [.int 100]) (rest := [.int x1]) ⟨hx, hb, hml, hown, hT⟩ (c_X8_number1 l G cA H.size aa S L (100 : Int32)  r3 L_4 hc5) (cwV 1 hT (tq_gV kw_45_15 kw_45_16 kw_45_17 kw_1_5 kw_45_18) rfl rfl rfl (by decide +kernel) ⟨Nat.le_of_ble_eq_true rfl, Nat.le_of_ble_eq_true rfl⟩) ⟨(tw_pre tw_all hP hD hK hN).1, va_recv hK hP (ci := 8) (q0 := 0) rfl rfl, (tw_pre tw_all hP hD hK hN).2⟩ rfl rfl hl.1 rfl (lv_room (Nat.le_of_ble_eq_true rfl)) dX8_isDrawn_11 ⟨Nat.le_of_ble_eq_true rfl, Nat.le_of_ble_eq_true rfl⟩) (fun _ _ H locs z6 hP hD hS => ?_)
    subst z6
    rw [List.append_nil] at hP hD
    have hP : va_P G vwCl (wM cA aa S L_4) H := hP
    have hD : va_D A (wM cA aa S L_4) := hD
    refine lv_icmp_le (tgt := 21) hx hb dX8_isDrawn_14 (by decide) (fun c7 => ?_) (fun c7 => ?_)
    · have h := tx_pos c7 h
      refine lv_iconst (v := 0) hx hb dX8_isDrawn_21 (by decide) ?_
      refine lv_goto (tgt := 36) hx hb dX8_isDrawn_22 (by decide) ?_
      obtain ⟨rfl, rfl⟩ := tx_2 h
      exact W.zret (ty := .boolean) hx hb hr rfl (fun t ht hW => ⟨⟨_, (), rfl, rfl, by rw [ht]; exact hP, hD⟩, hS.F ht⟩) hS.2.2 dX8_isDrawn_36
    · have h := tx_neg c7 h
      refine lv_iconst (v := 1) hx hb dX8_isDrawn_17 (by decide) ?_
      refine lv_goto (tgt := 36) hx hb dX8_isDrawn_18 (by decide) ?_
      obtain ⟨rfl, rfl⟩ := tx_2 h
      exact W.zret (ty := .boolean) hx hb hr rfl (fun t ht hW => ⟨⟨_, (), rfl, rfl, by rw [ht]; exact hP, hD⟩, hS.F ht⟩) hS.2.2 dX8_isDrawn_36
abbrev G_X8_onTheWay (p : Program) (l : Launch) (e : Env) (s : State) (m : MethodId) (below : List Frame) (meth : Method) (c : Code) (G : va_G) (cA : Nat → ClassId) (A : Nat → Prop) (aa : Nat → Nat) (x1 : Int32) (S' : Tr) (L' : Lo) (H : Heap) (locs : List Loc) (g : JFrame) : Prop := W p l e (headSpec (.code yX8_onTheWay cX8_onTheWay 4 none :: T0) ({ frames := 5, cells := 0, slots := 0, locals := 120 } : Room)).room s m ([.ref (aa 0), .int x1] : List Value).toArray below meth c H locs 0 0 (MQ below (tqQv G cA (fun (_ : Unit) => True) (fun (_ : Unit) => wM cA aa S' L') A) ([.ref (aa 0), .int x1] : List Value).toArray s 0 0 A) g
set_option maxHeartbeats 4000000 in
set_option maxRecDepth 100000 in
theorem w_X8_onTheWay_L90 {p : Program} {l : Launch} {e : Env} {s : State} {m : MethodId} {below : List Frame} {meth : Method} {c : Code} {G : va_G} {cA : Nat → ClassId} {A : Nat → Prop} {aa : Nat → Nat} {x1₀ : Int32} {S' : Tr} {L' : Lo} {x1 : Int32} (F : tF p s m ([.ref (aa 0), .int x1₀] : List Value).toArray meth c G cA A RX8 cX8_onTheWay 4 none)    (N : Nat) : ∀ (x2 : Int32) (S : Tr) (L : Lo) (H : Heap) (locs : List Loc) (ls : Array Slot), lpF (fun _ _ _ => none) (fB_X8_onTheWay_L90 x1) N x2 S L = some (S', L') → va_P G vwCl (wM cA aa S L) H → va_D A (wM cA aa S L) → va_S A s.heap H locs → lv_has ls 4 [(0, .ref (aa 0)), (1, .int x1), (2, .int x2)] → G_X8_onTheWay p l e s m below meth c G cA A aa x1₀ S' L' H locs (F0 m 90 ls []) := by
  obtain ⟨hx, hb, hr, hml, hT, hown, hlocks, hK, hN, hA⟩ := id F
  induction N with
  | zero =>
    intro x2 S L H locs ls h
    have h : (none : Option (Tr × Lo)) = some (S', L') := h
    cases h
  | succ N hk90 =>
    intro x2 S L H locs ls h hP hD hS hl
    have h : fB_X8_onTheWay_L90 x1 (lpF (fun _ _ _ => none) (fB_X8_onTheWay_L90 x1) N) x2 S L = some (S', L') := h
    generalize hk90e : lpF (fun _ _ _ => none) (fB_X8_onTheWay_L90 x1) N = k90 at h hk90
    unfold fB_X8_onTheWay_L90 at h
    refine lv_iload_n hx hb dX8_onTheWay_90 rfl (lv_at hl 2 rfl) ?_
    refine lv_aload_n hx hb dX8_onTheWay_91 rfl (lv_at hl 0 rfl) ?_
    refine va_get (D := G) (ci := 8) (v := .int (S 0 14)) (C := RX8) (T := TX8) (N := 91) hx hb hT ku_8 hown hK hP 0 rfl rfl 14 (by decide) (hT _ kw_12_5) (fun _ h9 => h9) rfl dX8_onTheWay_92 ?_
    refine lv_icmp_ge (tgt := 184) hx hb dX8_onTheWay_95 (by decide) (fun c2 => ?_) (fun c2 => ?_)
    · have h := tx_pos c2 h
      obtain ⟨rfl, rfl⟩ := tx_2 h
      exact W.vret hx hb hr (fun t ht hW => ⟨⟨(), rfl, trivial, by rw [ht]; exact hP, hD⟩, hS.F ht⟩) hS.2.2 dX8_onTheWay_184
    · have h := tx_neg c2 h
      refine lv_aload_n hx hb dX8_onTheWay_98 rfl (lv_at hl 0 rfl) ?_
      refine va_get (D := G) (ci := 8) (v := .int (S 0 67)) (C := RX8) (T := TX8) (N := 91) hx hb hT ku_8 hown hK hP 0 rfl rfl 67 (by decide) (hT _ kw_13_5) (fun _ h9 => h9) rfl dX8_onTheWay_99 ?_
      refine lv_if_ne (tgt := 184) hx hb dX8_onTheWay_102 (by decide) (fun c3 => ?_) (fun c3 => ?_)
      · have h := tx_neg c3 h
        obtain ⟨rfl, rfl⟩ := tx_2 h
        exact W.vret hx hb hr (fun t ht hW => ⟨⟨(), rfl, trivial, by rw [ht]; exact hP, hD⟩, hS.F ht⟩) hS.2.2 dX8_onTheWay_184
      · have h := tx_pos c3 h
        refine lv_aload_n hx hb dX8_onTheWay_105 rfl (lv_at hl 0 rfl) ?_
        refine va_get (D := G) (ci := 8) (v := .ref (aa 53)) (C := RX8) (T := TX8) (N := 91) hx hb hT ku_8 hown hK hP 0 rfl rfl 52 (by decide) (hT _ kw_10_13) (fun _ h9 => h9) rfl dX8_onTheWay_106 ?_
        refine lv_bipush (v := 10) hx hb dX8_onTheWay_109 (by decide) ?_
        refine lv_iload_n hx hb dX8_onTheWay_111 rfl (lv_at hl 1 rfl) ?_
        refine lv_imul hx hb dX8_onTheWay_112 ?_
        refine lv_iload_n hx hb dX8_onTheWay_113 rfl (lv_at hl 2 rfl) ?_
        refine lv_iadd hx hb dX8_onTheWay_114 ?_
        obtain ⟨g4, h⟩ := tx_ck h
        refine va_iald (i := (((10 : Int32) * x1) + x2)) hx hb hK hP 27 0 rfl rfl (tx_in g4) dX8_onTheWay_115 ?_
        refine lv_iconst (v := 1) hx hb dX8_onTheWay_116 (by decide) ?_
        refine lv_icmp_ne (tgt := 178) hx hb dX8_onTheWay_117 (by decide) (fun c5 => ?_) (fun c5 => ?_)
        · have h := tx_neg c5 h
          obtain ⟨y6, ey6, h⟩ := tx_lt h
          refine lv_iinc (v := y6) (lv' := [(2, .int y6), (0, .ref (aa 0)), (1, .int x1)]) hx hb dX8_onTheWay_178 hl (k := 2) rfl ey6 (by decide) rfl (fun ls hl => ?_)
          refine lv_goto (tgt := 90) hx hb dX8_onTheWay_181 (by decide) ?_
          exact hk90 y6 S L H locs ls h hP hD hS (lv_sub hl [1, 2, 0] rfl)
        · have h := tx_pos c5 h
          refine lv_aload_n hx hb dX8_onTheWay_120 rfl (lv_at hl 0 rfl) ?_
          refine va_get (D := G) (ci := 8) (v := .ref (aa 24)) (C := RX8) (T := TX8) (N := 91) hx hb hT ku_8 hown hK hP 0 rfl rfl 23 (by decide) (hT _ kw_9_15) (fun _ h9 => h9) rfl dX8_onTheWay_121 ?_
          refine lv_aload_n hx hb dX8_onTheWay_124 rfl (lv_at hl 0 rfl) ?_
          refine va_get (D := G) (ci := 8) (v := .ref (aa 54)) (C := RX8) (T := TX8) (N := 91) hx hb hT ku_8 hown hK hP 0 rfl rfl 53 (by decide) (hT _ kw_10_14) (fun _ h9 => h9) rfl dX8_onTheWay_125 ?_
          refine lv_bipush (v := 10) hx hb dX8_onTheWay_128 (by decide) ?_
          refine lv_iload_n hx hb dX8_onTheWay_130 rfl (lv_at hl 1 rfl) ?_
          refine lv_imul hx hb dX8_onTheWay_131 ?_
          refine lv_iload_n hx hb dX8_onTheWay_132 rfl (lv_at hl 2 rfl) ?_
          refine lv_iadd hx hb dX8_onTheWay_133 ?_
          refine va_iald (i := (((10 : Int32) * x1) + x2)) hx hb hK hP 28 0 rfl rfl (tx_in g4) dX8_onTheWay_134 ?_
          obtain ⟨g7, h⟩ := tx_ck h
          refine va_iald (i := (S 54 (((10 : Int32) * x1) + x2).toNatClampNeg)) hx hb hK hP 5 0 rfl rfl (tx_in g7) dX8_onTheWay_135 ?_
          refine lv_iconst (v := 4) hx hb dX8_onTheWay_136 (by decide) ?_
          refine lv_icmp_eq (tgt := 143) hx hb dX8_onTheWay_137 (by decide) (fun c8 => ?_) (fun c8 => ?_)
          · have h := tx_pos c8 h
            refine lv_aload_n hx hb dX8_onTheWay_143 rfl (lv_at hl 0 rfl) ?_
            refine lv_iload_n hx hb dX8_onTheWay_144 rfl (lv_at hl 1 rfl) ?_
            refine lv_iload_n hx hb dX8_onTheWay_145 rfl (lv_at hl 2 rfl) ?_
            refine lv_aload_n hx hb dX8_onTheWay_146 rfl (lv_at hl 0 rfl) ?_
            refine va_get (D := G) (ci := 8) (v := .ref (aa 30)) (C := RX8) (T := TX8) (N := 91) hx hb hT ku_8 hown hK hP 0 rfl rfl 29 (by decide) (hT _ kw_9_21) (fun _ h9 => h9) rfl dX8_onTheWay_147 ?_
            refine lv_iload_n hx hb dX8_onTheWay_150 rfl (lv_at hl 2 rfl) ?_
            obtain ⟨g9, h⟩ := tx_ck h
            refine va_iald (i := x2) hx hb hK hP 11 0 rfl rfl (tx_in g9) dX8_onTheWay_151 ?_
            obtain ⟨L_10, hc11, h⟩ := tx_bd h
            refine tw_cv tw_all hP hD hS hA (va_runV (As := [.int x1, .int x2, .int (S 30 x2.toNatClampNeg)]) (rest := []) ⟨hx, hb, hml, hown, hT⟩ (c_X8_layNames l G cA H.size aa S L x1 x2 (S 30 x2.toNatClampNeg)  L_10 hc11) (cwV 3 hT (tq_gV kw_34_11 kw_34_12 kw_34_13 kw_1_5 kw_34_14) rfl rfl rfl (by decide +kernel) ⟨Nat.le_of_ble_eq_true rfl, Nat.le_of_ble_eq_true rfl⟩) ⟨(tw_pre tw_all hP hD hK hN).1, va_recv hK hP (ci := 8) (q0 := 0) rfl rfl, (tw_pre tw_all hP hD hK hN).2⟩ rfl rfl hl.1 rfl (lv_room (Nat.le_of_ble_eq_true rfl)) dX8_onTheWay_152 ⟨Nat.le_of_ble_eq_true rfl, Nat.le_of_ble_eq_true rfl⟩) (fun _ H locs z12 hP hD hS => ?_)
            rw [List.append_nil] at hP hD
            have hP : va_P G vwCl (wM cA aa S L_10) H := hP
            have hD : va_D A (wM cA aa S L_10) := hD
            refine lv_aload_n hx hb dX8_onTheWay_155 rfl (lv_at hl 0 rfl) ?_
            refine lv_aload_n hx hb dX8_onTheWay_156 rfl (lv_at hl 0 rfl) ?_
            refine lv_iconst (v := 2) hx hb dX8_onTheWay_157 (by decide) ?_
            refine lv_bipush (v := 10) hx hb dX8_onTheWay_158 (by decide) ?_
            refine lv_bipush (v := 100) hx hb dX8_onTheWay_160 (by decide) ?_
            obtain ⟨⟨r13, S_14, L_15⟩, hc16, h⟩ := tx_bd h
            replace h := tx_let (y := r13) rfl h
            replace h := tx_let (y := S_14) rfl h
            replace h := tx_let (y := L_15) rfl h
            refine tw_ci tw_all hP hD hS hA (va_runV (As := [.int 2, .int 10, .int 100]) (rest := [.ref (aa 0)]) ⟨hx, hb, hml, hown, hT⟩ (c_X8_boundLaw l G cA H.size aa S L_10 (2 : Int32) (10 : Int32) (100 : Int32)  r13 S_14 L_15 hc16) (cwV 3 hT (tq_gV kw_44_11 kw_44_12 kw_44_13 kw_1_5 kw_44_14) rfl rfl rfl (by decide +kernel) ⟨Nat.le_of_ble_eq_true rfl, Nat.le_of_ble_eq_true rfl⟩) ⟨(tw_pre tw_all hP hD hK hN).1, va_recv hK hP (ci := 8) (q0 := 0) rfl rfl, (tw_pre tw_all hP hD hK hN).2⟩ rfl rfl hl.1 rfl (lv_room (Nat.le_of_ble_eq_true rfl)) dX8_onTheWay_162 ⟨Nat.le_of_ble_eq_true rfl, Nat.le_of_ble_eq_true rfl⟩) (fun _ _ H locs z17 hP hD hS => ?_)
            subst z17
            rw [List.append_nil] at hP hD
            have hP : va_P G vwCl (wM cA aa S_14 L_15) H := hP
            have hD : va_D A (wM cA aa S_14 L_15) := hD
            obtain ⟨⟨r18, L_19⟩, hc20, h⟩ := tx_bd h
            replace h := tx_let (y := r18) rfl h
            replace h := tx_let (y := L_19) rfl h
            refine tw_ci tw_all hP hD hS hA (va_runV (As := [.int r13]) (rest := []) ⟨hx, hb, hml, hown, hT⟩ (c_X8_isDrawn l G cA H.size aa S_14 L_15 r13  r18 L_19 hc20) (cwV 1 hT (tq_gV kw_45_11 kw_45_12 kw_45_13 kw_1_5 kw_45_14) rfl rfl rfl (by decide +kernel) ⟨Nat.le_of_ble_eq_true rfl, Nat.le_of_ble_eq_true rfl⟩) ⟨(tw_pre tw_all hP hD hK hN).1, va_recv hK hP (ci := 8) (q0 := 0) rfl rfl, (tw_pre tw_all hP hD hK hN).2⟩ rfl rfl hl.1 rfl (lv_room (Nat.le_of_ble_eq_true rfl)) dX8_onTheWay_165 ⟨Nat.le_of_ble_eq_true rfl, Nat.le_of_ble_eq_true rfl⟩) (fun _ _ H locs z21 hP hD hS => ?_)
            subst z21
            rw [List.append_nil] at hP hD
            have hP : va_P G vwCl (wM cA aa S_14 L_19) H := hP
            have hD : va_D A (wM cA aa S_14 L_19) := hD
            refine lv_if_eq (tgt := 178) hx hb dX8_onTheWay_168 (by decide) (fun c22 => ?_) (fun c22 => ?_)
            · have h := tx_pos c22 h
              obtain ⟨y23, ey23, h⟩ := tx_lt h
              refine lv_iinc (v := y23) (lv' := [(2, .int y23), (0, .ref (aa 0)), (1, .int x1)]) hx hb dX8_onTheWay_178 hl (k := 2) rfl ey23 (by decide) rfl (fun ls hl => ?_)
              refine lv_goto (tgt := 90) hx hb dX8_onTheWay_181 (by decide) ?_
              exact hk90 y23 S_14 L_19 H locs ls h hP hD hS (lv_sub hl [1, 2, 0] rfl)
            · have h := tx_neg c22 h
              refine lv_aload_n hx hb dX8_onTheWay_171 rfl (lv_at hl 0 rfl) ?_
              refine lv_iload_n hx hb dX8_onTheWay_172 rfl (lv_at hl 1 rfl) ?_
              refine lv_iload_n hx hb dX8_onTheWay_173 rfl (lv_at hl 2 rfl) ?_
              refine lv_iconst (v := 4) hx hb dX8_onTheWay_174 (by decide) ?_
              obtain ⟨S_24, hc25, h⟩ := tx_bd h
              refine tw_cv tw_all hP hD hS hA (va_runV (As := [.int x1, .int x2, .int 4]) (rest := []) ⟨hx, hb, hml, hown, hT⟩ (c_X8_takes l G cA H.size aa S_14 L_19 x1 x2 (4 : Int32)  S_24 hc25) (cwV 3 hT (tq_gV kw_37_18 kw_37_19 kw_37_20 kw_1_5 kw_37_21) rfl rfl rfl (by decide +kernel) ⟨Nat.le_of_ble_eq_true rfl, Nat.le_of_ble_eq_true rfl⟩) ⟨(tw_pre tw_all hP hD hK hN).1, va_recv hK hP (ci := 8) (q0 := 0) rfl rfl, (tw_pre tw_all hP hD hK hN).2⟩ rfl rfl hl.1 rfl (lv_room (Nat.le_of_ble_eq_true rfl)) dX8_onTheWay_175 ⟨Nat.le_of_ble_eq_true rfl, Nat.le_of_ble_eq_true rfl⟩) (fun _ H locs z26 hP hD hS => ?_)
              rw [List.append_nil] at hP hD
              have hP : va_P G vwCl (wM cA aa S_24 L_19) H := hP
              have hD : va_D A (wM cA aa S_24 L_19) := hD
              obtain ⟨y27, ey27, h⟩ := tx_lt h
              refine lv_iinc (v := y27) (lv' := [(2, .int y27), (0, .ref (aa 0)), (1, .int x1)]) hx hb dX8_onTheWay_178 hl (k := 2) rfl ey27 (by decide) rfl (fun ls hl => ?_)
              refine lv_goto (tgt := 90) hx hb dX8_onTheWay_181 (by decide) ?_
              exact hk90 y27 S_24 L_19 H locs ls h hP hD hS (lv_sub hl [1, 2, 0] rfl)
          · have h := tx_neg c8 h
            refine lv_goto (tgt := 178) hx hb dX8_onTheWay_140 (by decide) ?_
            obtain ⟨y28, ey28, h⟩ := tx_lt h
            refine lv_iinc (v := y28) (lv' := [(2, .int y28), (0, .ref (aa 0)), (1, .int x1)]) hx hb dX8_onTheWay_178 hl (k := 2) rfl ey28 (by decide) rfl (fun ls hl => ?_)
            refine lv_goto (tgt := 90) hx hb dX8_onTheWay_181 (by decide) ?_
            exact hk90 y28 S L H locs ls h hP hD hS (lv_sub hl [1, 2, 0] rfl)
set_option maxHeartbeats 4000000 in
set_option maxRecDepth 100000 in
theorem w_X8_onTheWay_L2 {p : Program} {l : Launch} {e : Env} {s : State} {m : MethodId} {below : List Frame} {meth : Method} {c : Code} {G : va_G} {cA : Nat → ClassId} {A : Nat → Prop} {aa : Nat → Nat} {x1₀ : Int32} {S' : Tr} {L' : Lo} {x1 : Int32} (F : tF p s m ([.ref (aa 0), .int x1₀] : List Value).toArray meth c G cA A RX8 cX8_onTheWay 4 none)    (N : Nat) : ∀ (x2 : Int32) (S : Tr) (L : Lo) (H : Heap) (locs : List Loc) (ls : Array Slot), lpF (fun _ _ _ => none) (fB_X8_onTheWay_L2 x1) N x2 S L = some (S', L') → va_P G vwCl (wM cA aa S L) H → va_D A (wM cA aa S L) → va_S A s.heap H locs → lv_has ls 4 [(0, .ref (aa 0)), (1, .int x1), (2, .int x2)] → G_X8_onTheWay p l e s m below meth c G cA A aa x1₀ S' L' H locs (F0 m 2 ls []) := by
  obtain ⟨hx, hb, hr, hml, hT, hown, hlocks, hK, hN, hA⟩ := id F
  induction N with
  | zero =>
    intro x2 S L H locs ls h
    have h : (none : Option (Tr × Lo)) = some (S', L') := h
    cases h
  | succ N hk2 =>
    intro x2 S L H locs ls h hP hD hS hl
    have h : fB_X8_onTheWay_L2 x1 (lpF (fun _ _ _ => none) (fB_X8_onTheWay_L2 x1) N) x2 S L = some (S', L') := h
    generalize hk2e : lpF (fun _ _ _ => none) (fB_X8_onTheWay_L2 x1) N = k2 at h hk2
    unfold fB_X8_onTheWay_L2 at h
    refine lv_iload_n hx hb dX8_onTheWay_2 rfl (lv_at hl 2 rfl) ?_
    refine lv_aload_n hx hb dX8_onTheWay_3 rfl (lv_at hl 0 rfl) ?_
    refine va_get (D := G) (ci := 8) (v := .int (S 0 12)) (C := RX8) (T := TX8) (N := 91) hx hb hT ku_8 hown hK hP 0 rfl rfl 12 (by decide) (hT _ kw_12_3) (fun _ h9 => h9) rfl dX8_onTheWay_4 ?_
    refine lv_icmp_ge (tgt := 88) hx hb dX8_onTheWay_7 (by decide) (fun c1 => ?_) (fun c1 => ?_)
    · have h := tx_pos c1 h
      refine lv_iconst (v := 0) hx hb dX8_onTheWay_88 (by decide) ?_
      refine lv_istore_n (lv' := [(2, .int 0), (0, .ref (aa 0)), (1, .int x1)]) hx hb dX8_onTheWay_89 rfl hl (by decide) rfl (fun ls hl => ?_)
      exact w_X8_onTheWay_L90 F 2000 0 S L H locs ls h hP hD hS (lv_sub hl [1, 2, 0] rfl)
    · have h := tx_neg c1 h
      refine lv_aload_n hx hb dX8_onTheWay_10 rfl (lv_at hl 0 rfl) ?_
      refine va_get (D := G) (ci := 8) (v := .int (S 0 66)) (C := RX8) (T := TX8) (N := 91) hx hb hT ku_8 hown hK hP 0 rfl rfl 66 (by decide) (hT _ kw_13_4) (fun _ h9 => h9) rfl dX8_onTheWay_11 ?_
      refine lv_if_ne (tgt := 88) hx hb dX8_onTheWay_14 (by decide) (fun c29 => ?_) (fun c29 => ?_)
      · have h := tx_neg c29 h
        refine lv_iconst (v := 0) hx hb dX8_onTheWay_88 (by decide) ?_
        refine lv_istore_n (lv' := [(2, .int 0), (0, .ref (aa 0)), (1, .int x1)]) hx hb dX8_onTheWay_89 rfl hl (by decide) rfl (fun ls hl => ?_)
        exact w_X8_onTheWay_L90 F 2000 0 S L H locs ls h hP hD hS (lv_sub hl [1, 2, 0] rfl)
      · have h := tx_pos c29 h
        refine lv_aload_n hx hb dX8_onTheWay_17 rfl (lv_at hl 0 rfl) ?_
        refine va_get (D := G) (ci := 8) (v := .ref (aa 24)) (C := RX8) (T := TX8) (N := 91) hx hb hT ku_8 hown hK hP 0 rfl rfl 23 (by decide) (hT _ kw_9_15) (fun _ h9 => h9) rfl dX8_onTheWay_18 ?_
        refine lv_iload_n hx hb dX8_onTheWay_21 rfl (lv_at hl 2 rfl) ?_
        obtain ⟨g30, h⟩ := tx_ck h
        refine va_iald (i := x2) hx hb hK hP 5 0 rfl rfl (tx_in g30) dX8_onTheWay_22 ?_
        refine lv_iconst (v := 1) hx hb dX8_onTheWay_23 (by decide) ?_
        refine lv_icmp_gt (tgt := 82) hx hb dX8_onTheWay_24 (by decide) (fun c31 => ?_) (fun c31 => ?_)
        · have h := tx_pos c31 h
          obtain ⟨y32, ey32, h⟩ := tx_lt h
          refine lv_iinc (v := y32) (lv' := [(2, .int y32), (0, .ref (aa 0)), (1, .int x1)]) hx hb dX8_onTheWay_82 hl (k := 2) rfl ey32 (by decide) rfl (fun ls hl => ?_)
          refine lv_goto (tgt := 2) hx hb dX8_onTheWay_85 (by decide) ?_
          exact hk2 y32 S L H locs ls h hP hD hS (lv_sub hl [1, 2, 0] rfl)
        · have h := tx_neg c31 h
          refine lv_aload_n hx hb dX8_onTheWay_27 rfl (lv_at hl 0 rfl) ?_
          refine va_get (D := G) (ci := 8) (v := .ref (aa 56)) (C := RX8) (T := TX8) (N := 91) hx hb hT ku_8 hown hK hP 0 rfl rfl 55 (by decide) (hT _ kw_10_16) (fun _ h9 => h9) rfl dX8_onTheWay_28 ?_
          refine lv_iconst (v := 5) hx hb dX8_onTheWay_31 (by decide) ?_
          refine lv_iload_n hx hb dX8_onTheWay_32 rfl (lv_at hl 1 rfl) ?_
          refine lv_imul hx hb dX8_onTheWay_33 ?_
          refine lv_iload_n hx hb dX8_onTheWay_34 rfl (lv_at hl 2 rfl) ?_
          refine lv_iadd hx hb dX8_onTheWay_35 ?_
          obtain ⟨g33, h⟩ := tx_ck h
          refine va_iald (i := (((5 : Int32) * x1) + x2)) hx hb hK hP 30 0 rfl rfl (tx_in g33) dX8_onTheWay_36 ?_
          refine lv_if_ne (tgt := 43) hx hb dX8_onTheWay_37 (by decide) (fun c34 => ?_) (fun c34 => ?_)
          · have h := tx_neg c34 h
            refine lv_aload_n hx hb dX8_onTheWay_43 rfl (lv_at hl 0 rfl) ?_
            refine lv_iload_n hx hb dX8_onTheWay_44 rfl (lv_at hl 1 rfl) ?_
            refine lv_iload_n hx hb dX8_onTheWay_45 rfl (lv_at hl 2 rfl) ?_
            refine lv_aload_n hx hb dX8_onTheWay_46 rfl (lv_at hl 0 rfl) ?_
            refine va_get (D := G) (ci := 8) (v := .ref (aa 56)) (C := RX8) (T := TX8) (N := 91) hx hb hT ku_8 hown hK hP 0 rfl rfl 55 (by decide) (hT _ kw_10_16) (fun _ h9 => h9) rfl dX8_onTheWay_47 ?_
            refine lv_iconst (v := 5) hx hb dX8_onTheWay_50 (by decide) ?_
            refine lv_iload_n hx hb dX8_onTheWay_51 rfl (lv_at hl 1 rfl) ?_
            refine lv_imul hx hb dX8_onTheWay_52 ?_
            refine lv_iload_n hx hb dX8_onTheWay_53 rfl (lv_at hl 2 rfl) ?_
            refine lv_iadd hx hb dX8_onTheWay_54 ?_
            refine va_iald (i := (((5 : Int32) * x1) + x2)) hx hb hK hP 30 0 rfl rfl (tx_in g33) dX8_onTheWay_55 ?_
            refine lv_iconst (v := 1) hx hb dX8_onTheWay_56 (by decide) ?_
            refine lv_isub hx hb dX8_onTheWay_57 ?_
            obtain ⟨r35, hc36, h⟩ := tx_bd h
            refine tw_ci tw_all hP hD hS hA (va_runV (As := [.int x1, .int x2, .int ((S 56 (((5 : Int32) * x1) + x2).toNatClampNeg) - 1)]) (rest := []) ⟨hx, hb, hml, hown, hT⟩ (c_X8_stackAt l G cA H.size aa S L x1 x2 ((S 56 (((5 : Int32) * x1) + x2).toNatClampNeg) - 1)  r35 hc36) (cwV 3 hT (tq_gV kw_31_10 kw_31_11 kw_31_12 kw_1_5 kw_31_13) rfl rfl rfl (by decide +kernel) ⟨Nat.le_of_ble_eq_true rfl, Nat.le_of_ble_eq_true rfl⟩) ⟨(tw_pre tw_all hP hD hK hN).1, va_recv hK hP (ci := 8) (q0 := 0) rfl rfl, (tw_pre tw_all hP hD hK hN).2⟩ rfl rfl hl.1 rfl (lv_room (Nat.le_of_ble_eq_true rfl)) dX8_onTheWay_58 ⟨Nat.le_of_ble_eq_true rfl, Nat.le_of_ble_eq_true rfl⟩) (fun _ _ H locs z37 hP hD hS => ?_)
            subst z37
            rw [List.append_nil] at hP hD
            have hP : va_P G vwCl (wM cA aa S L) H := hP
            have hD : va_D A (wM cA aa S L) := hD
            refine lv_istore_n (lv' := [(3, .int r35), (0, .ref (aa 0)), (1, .int x1), (2, .int x2)]) hx hb dX8_onTheWay_61 rfl hl (by decide) rfl (fun ls hl => ?_)
            refine lv_aload_n hx hb dX8_onTheWay_62 rfl (lv_at hl 1 rfl) ?_
            refine lv_aload_n hx hb dX8_onTheWay_63 rfl (lv_at hl 1 rfl) ?_
            refine lv_iload_n hx hb dX8_onTheWay_64 rfl (lv_at hl 2 rfl) ?_
            refine lv_iload_n hx hb dX8_onTheWay_65 rfl (lv_at hl 0 rfl) ?_
            obtain ⟨⟨r38, S_39, L_40⟩, hc41, h⟩ := tx_bd h
            replace h := tx_let (y := r38) rfl h
            replace h := tx_let (y := S_39) rfl h
            replace h := tx_let (y := L_40) rfl h
            refine tw_ci tw_all hP hD hS hA (va_runV (As := [.int x1, .int r35]) (rest := [.ref (aa 0)]) ⟨hx, hb, hml, hown, hT⟩ (c_X8_fallOf l G cA H.size aa S L x1 r35  r38 S_39 L_40 hc41) (cwV 2 hT (tq_gV kw_45_7 kw_45_8 kw_45_9 kw_1_5 kw_45_10) rfl rfl rfl (by decide +kernel) ⟨Nat.le_of_ble_eq_true rfl, Nat.le_of_ble_eq_true rfl⟩) ⟨(tw_pre tw_all hP hD hK hN).1, va_recv hK hP (ci := 8) (q0 := 0) rfl rfl, (tw_pre tw_all hP hD hK hN).2⟩ rfl rfl hl.1 rfl (lv_room (Nat.le_of_ble_eq_true rfl)) dX8_onTheWay_66 ⟨Nat.le_of_ble_eq_true rfl, Nat.le_of_ble_eq_true rfl⟩) (fun _ _ H locs z42 hP hD hS => ?_)
            subst z42
            rw [List.append_nil] at hP hD
            have hP : va_P G vwCl (wM cA aa S_39 L_40) H := hP
            have hD : va_D A (wM cA aa S_39 L_40) := hD
            obtain ⟨⟨r43, L_44⟩, hc45, h⟩ := tx_bd h
            replace h := tx_let (y := r43) rfl h
            replace h := tx_let (y := L_44) rfl h
            refine tw_ci tw_all hP hD hS hA (va_runV (As := [.int r38]) (rest := []) ⟨hx, hb, hml, hown, hT⟩ (c_X8_isDrawn l G cA H.size aa S_39 L_40 r38  r43 L_44 hc45) (cwV 1 hT (tq_gV kw_45_11 kw_45_12 kw_45_13 kw_1_5 kw_45_14) rfl rfl rfl (by decide +kernel) ⟨Nat.le_of_ble_eq_true rfl, Nat.le_of_ble_eq_true rfl⟩) ⟨(tw_pre tw_all hP hD hK hN).1, va_recv hK hP (ci := 8) (q0 := 0) rfl rfl, (tw_pre tw_all hP hD hK hN).2⟩ rfl rfl hl.1 rfl (lv_room (Nat.le_of_ble_eq_true rfl)) dX8_onTheWay_69 ⟨Nat.le_of_ble_eq_true rfl, Nat.le_of_ble_eq_true rfl⟩) (fun _ _ H locs z46 hP hD hS => ?_)
            subst z46
            rw [List.append_nil] at hP hD
            have hP : va_P G vwCl (wM cA aa S_39 L_44) H := hP
            have hD : va_D A (wM cA aa S_39 L_44) := hD
            refine lv_if_eq (tgt := 82) hx hb dX8_onTheWay_72 (by decide) (fun c47 => ?_) (fun c47 => ?_)
            · have h := tx_pos c47 h
              obtain ⟨y48, ey48, h⟩ := tx_lt h
              refine lv_iinc (v := y48) (lv' := [(2, .int y48), (3, .int r35), (0, .ref (aa 0)), (1, .int x1)]) hx hb dX8_onTheWay_82 hl (k := 3) rfl ey48 (by decide) rfl (fun ls hl => ?_)
              refine lv_goto (tgt := 2) hx hb dX8_onTheWay_85 (by decide) ?_
              exact hk2 y48 S_39 L_44 H locs ls h hP hD hS (lv_sub hl [2, 3, 0] rfl)
            · have h := tx_neg c47 h
              refine lv_aload_n hx hb dX8_onTheWay_75 rfl (lv_at hl 1 rfl) ?_
              refine lv_iload_n hx hb dX8_onTheWay_76 rfl (lv_at hl 2 rfl) ?_
              refine lv_iload_n hx hb dX8_onTheWay_77 rfl (lv_at hl 0 rfl) ?_
              refine lv_iconst (v := 3) hx hb dX8_onTheWay_78 (by decide) ?_
              obtain ⟨S_49, hc50, h⟩ := tx_bd h
              refine tw_cv tw_all hP hD hS hA (va_runV (As := [.int x1, .int r35, .int 3]) (rest := []) ⟨hx, hb, hml, hown, hT⟩ (c_X8_takes l G cA H.size aa S_39 L_44 x1 r35 (3 : Int32)  S_49 hc50) (cwV 3 hT (tq_gV kw_37_18 kw_37_19 kw_37_20 kw_1_5 kw_37_21) rfl rfl rfl (by decide +kernel) ⟨Nat.le_of_ble_eq_true rfl, Nat.le_of_ble_eq_true rfl⟩) ⟨(tw_pre tw_all hP hD hK hN).1, va_recv hK hP (ci := 8) (q0 := 0) rfl rfl, (tw_pre tw_all hP hD hK hN).2⟩ rfl rfl hl.1 rfl (lv_room (Nat.le_of_ble_eq_true rfl)) dX8_onTheWay_79 ⟨Nat.le_of_ble_eq_true rfl, Nat.le_of_ble_eq_true rfl⟩) (fun _ H locs z51 hP hD hS => ?_)
              rw [List.append_nil] at hP hD
              have hP : va_P G vwCl (wM cA aa S_49 L_44) H := hP
              have hD : va_D A (wM cA aa S_49 L_44) := hD
              obtain ⟨y52, ey52, h⟩ := tx_lt h
              refine lv_iinc (v := y52) (lv' := [(2, .int y52), (3, .int r35), (0, .ref (aa 0)), (1, .int x1)]) hx hb dX8_onTheWay_82 hl (k := 3) rfl ey52 (by decide) rfl (fun ls hl => ?_)
              refine lv_goto (tgt := 2) hx hb dX8_onTheWay_85 (by decide) ?_
              exact hk2 y52 S_49 L_44 H locs ls h hP hD hS (lv_sub hl [2, 3, 0] rfl)
          · have h := tx_pos c34 h
            refine lv_goto (tgt := 82) hx hb dX8_onTheWay_40 (by decide) ?_
            obtain ⟨y53, ey53, h⟩ := tx_lt h
            refine lv_iinc (v := y53) (lv' := [(2, .int y53), (0, .ref (aa 0)), (1, .int x1)]) hx hb dX8_onTheWay_82 hl (k := 2) rfl ey53 (by decide) rfl (fun ls hl => ?_)
            refine lv_goto (tgt := 2) hx hb dX8_onTheWay_85 (by decide) ?_
            exact hk2 y53 S L H locs ls h hP hD hS (lv_sub hl [1, 2, 0] rfl)
set_option maxHeartbeats 4000000 in
set_option maxRecDepth 100000 in
theorem c_X8_onTheWay (l : Launch) (G : va_G) (cA : Nat → ClassId) (sz : Nat) (aa : Nat → Nat) (S : Tr) (L : Lo) (x1 : Int32)  (S' : Tr) (L' : Lo) (h : f_X8_onTheWay S L x1 = some (S', L')) : Met l yX8_onTheWay (.code yX8_onTheWay cX8_onTheWay 4 none :: T0) ({ frames := 5, cells := 0, slots := 0, locals := 120 } : Room) (tqP G cA [.ref (aa 0), .int x1] (wM cA aa S L) sz) (tqQv G cA (fun (_ : Unit) => True) (fun (_ : Unit) => wM cA aa S' L') (va_A (wM cA aa S L) sz)) 0 0 (va_A (wM cA aa S L) sz) := by
  refine Met.ofW (cc := cX8_onTheWay) (maxL := 4) (ret := none) (by decide) rfl ?_
  intro p e s m args below meth c s₁ B hml hv
  obtain ⟨rfl, hsz, hP, hK, hD0, hN⟩ := hv
  have hx := B.exec
  have hb := B.bytes
  have hr := B.returns
  have hts := atoms_spec (ws := .code yX8_onTheWay cX8_onTheWay 4 none :: T0) B.pre
  have hT : ∀ w ∈ T0, w.before _ s = true := fun w h => hts w (List.mem_cons_of_mem _ h)
  have hown : s.vm.findClass RX8 = some m.cls := findClass_of_methodNamed B.named
  have hlocks := B.notSynchronized
  subst hsz
  have hD := hD0.self (sz := s.heap.size)
  generalize hAe : va_A (wM cA aa S L) s.heap.size = A at hD ⊢
  have hA : ∀ q : Nat, s.heap.size ≤ q → A q := fun q h => by rw [← hAe]; exact Or.inr h
  have hS : va_S A s.heap s.heap [] := va_S.rf
  have hl := lv_entry ([.ref (aa 0), .int x1]) (n := 4) (Nat.le_of_ble_eq_true rfl)
  rw [lg_entry_eq]
  generalize (lg_sl ([.ref (aa 0), .int x1]) ++ List.replicate (4 - (lg_sl ([.ref (aa 0), .int x1])).length) Slot.unset).toArray = ls at hl ⊢
  have hl : lv_has ls 4 [(0, .ref (aa 0)), (1, .int x1)] := hl
  have F : tF p s m ([.ref (aa 0), .int x1] : List Value).toArray meth c G cA A RX8 cX8_onTheWay 4 none := ⟨hx, hb, hr, hml, hT, hown, hlocks, hK, hN, hA⟩
  obtain ⟨H, hH⟩ : ∃ z, z = s.heap := ⟨_, rfl⟩
  rw [← hH] at hP
  have hS : va_S A s.heap H [] := by rw [hH]; exact hS
  suffices hgo : G_X8_onTheWay p l e s m below meth c G cA A aa x1 S' L' H [] (F0 m 0 ls []) by rw [hH] at hgo; exact hgo
  generalize ([] : List Loc) = locs at hS ⊢
  unfold f_X8_onTheWay at h
  refine lv_iconst (v := 0) hx hb dX8_onTheWay_0 (by decide) ?_
  refine lv_istore_n (lv' := [(2, .int 0), (0, .ref (aa 0)), (1, .int x1)]) hx hb dX8_onTheWay_1 rfl hl (by decide) rfl (fun ls hl => ?_)
  exact w_X8_onTheWay_L2 F 2000 0 S L H locs ls h hP hD hS (lv_sub hl [1, 2, 0] rfl)
abbrev G_X8_goOn (p : Program) (l : Launch) (e : Env) (s : State) (m : MethodId) (below : List Frame) (meth : Method) (c : Code) (G : va_G) (cA : Nat → ClassId) (A : Nat → Prop) (aa : Nat → Nat) (x1 : Int32) (S' : Tr) (L' : Lo) (H : Heap) (locs : List Loc) (g : JFrame) : Prop := W p l e (headSpec (.code yX8_goOn cX8_goOn 2 none :: T0) ({ frames := 7, cells := 0, slots := 0, locals := 170 } : Room)).room s m ([.ref (aa 0), .int x1] : List Value).toArray below meth c H locs 0 0 (MQ below (tqQv G cA (fun (_ : Unit) => True) (fun (_ : Unit) => wM cA aa S' L') A) ([.ref (aa 0), .int x1] : List Value).toArray s 0 0 A) g
set_option maxHeartbeats 4000000 in
set_option maxRecDepth 100000 in
theorem w_X8_goOn_J26 {p : Program} {l : Launch} {e : Env} {s : State} {m : MethodId} {below : List Frame} {meth : Method} {c : Code} {G : va_G} {cA : Nat → ClassId} {A : Nat → Prop} {aa : Nat → Nat} {x1₀ : Int32} {S' : Tr} {L' : Lo} (F : tF p s m ([.ref (aa 0), .int x1₀] : List Value).toArray meth c G cA A RX8 cX8_goOn 2 none)    (x1 : Int32) (S : Tr) (L : Lo) (H : Heap) (locs : List Loc) (ls : Array Slot) (h : fJ_X8_goOn_J26 x1 S L = some (S', L')) (hP : va_P G vwCl (wM cA aa S_11 L) H) (hD : va_D A (wM cA aa S_11 L)) (hS : va_S A s.heap H locs) (hl : lv_has ls 2 [(0, .ref (aa 0)), (1, .int x1)]) : G_X8_goOn p l e s m below meth c G cA A aa x1₀ S' L' H locs (F0 m 26 ls []) := by
  obtain ⟨hx, hb, hr, hml, hT, hown, hlocks, hK, hN, hA⟩ := id F
  unfold fJ_X8_goOn_J26 at h
  refine lv_aload_n hx hb dX8_goOn_26 rfl (lv_at hl 0 rfl) ?_
  refine va_get (D := G) (ci := 8) (v := .ref (aa 62)) (C := RX8) (T := TX8) (N := 91) hx hb hT ku_8 hown hK hP 0 rfl rfl 61 (by decide) (hT _ kw_10_22) (fun _ h9 => h9) rfl dX8_goOn_27 ?_
  refine lv_iload_n hx hb dX8_goOn_30 rfl (lv_at hl 1 rfl) ?_
  refine lv_dup2_11 hx hb dX8_goOn_31 rfl rfl ?_
  obtain ⟨g10, h⟩ := tx_ck h
  refine va_iald (i := x1) hx hb hK hP 36 0 rfl rfl (tx_in g10) dX8_goOn_32 ?_
  refine lv_iconst (v := 1) hx hb dX8_goOn_33 (by decide) ?_
  refine lv_iadd hx hb dX8_goOn_34 ?_
  refine va_iast (i := x1) hx hb hK hP hD hS 36 0 rfl rfl (tx_in g10) dX8_goOn_35 (fun H locs hP hD hS => ?_)
  obtain ⟨S_11, eS_11, h⟩ := tx_lt h
  rw [sM_a61, eS_11] at hP hD
  obtain ⟨rfl, rfl⟩ := tx_2 h
  exact W.vret hx hb hr (fun t ht hW => ⟨⟨(), rfl, trivial, by rw [ht]; exact hP, hD⟩, hS.F ht⟩) hS.2.2 dX8_goOn_36
set_option maxHeartbeats 4000000 in
set_option maxRecDepth 100000 in
theorem c_X8_goOn (l : Launch) (G : va_G) (cA : Nat → ClassId) (sz : Nat) (aa : Nat → Nat) (S : Tr) (L : Lo) (x1 : Int32)  (S' : Tr) (L' : Lo) (h : f_X8_goOn S L x1 = some (S', L')) : Met l yX8_goOn (.code yX8_goOn cX8_goOn 2 none :: T0) ({ frames := 7, cells := 0, slots := 0, locals := 170 } : Room) (tqP G cA [.ref (aa 0), .int x1] (wM cA aa S L) sz) (tqQv G cA (fun (_ : Unit) => True) (fun (_ : Unit) => wM cA aa S' L') (va_A (wM cA aa S L) sz)) 0 0 (va_A (wM cA aa S L) sz) := by
  refine Met.ofW (cc := cX8_goOn) (maxL := 2) (ret := none) (by decide) rfl ?_
  intro p e s m args below meth c s₁ B hml hv
  obtain ⟨rfl, hsz, hP, hK, hD0, hN⟩ := hv
  have hx := B.exec
  have hb := B.bytes
  have hr := B.returns
  have hts := atoms_spec (ws := .code yX8_goOn cX8_goOn 2 none :: T0) B.pre
  have hT : ∀ w ∈ T0, w.before _ s = true := fun w h => hts w (List.mem_cons_of_mem _ h)
  have hown : s.vm.findClass RX8 = some m.cls := findClass_of_methodNamed B.named
  have hlocks := B.notSynchronized
  subst hsz
  have hD := hD0.self (sz := s.heap.size)
  generalize hAe : va_A (wM cA aa S L) s.heap.size = A at hD ⊢
  have hA : ∀ q : Nat, s.heap.size ≤ q → A q := fun q h => by rw [← hAe]; exact Or.inr h
  have hS : va_S A s.heap s.heap [] := va_S.rf
  have hl := lv_entry ([.ref (aa 0), .int x1]) (n := 2) (Nat.le_of_ble_eq_true rfl)
  rw [lg_entry_eq]
  generalize (lg_sl ([.ref (aa 0), .int x1]) ++ List.replicate (2 - (lg_sl ([.ref (aa 0), .int x1])).length) Slot.unset).toArray = ls at hl ⊢
  have hl : lv_has ls 2 [(0, .ref (aa 0)), (1, .int x1)] := hl
  have F : tF p s m ([.ref (aa 0), .int x1] : List Value).toArray meth c G cA A RX8 cX8_goOn 2 none := ⟨hx, hb, hr, hml, hT, hown, hlocks, hK, hN, hA⟩
  obtain ⟨H, hH⟩ : ∃ z, z = s.heap := ⟨_, rfl⟩
  rw [← hH] at hP
  have hS : va_S A s.heap H [] := by rw [hH]; exact hS
  suffices hgo : G_X8_goOn p l e s m below meth c G cA A aa x1 S' L' H [] (F0 m 0 ls []) by rw [hH] at hgo; exact hgo
  generalize ([] : List Loc) = locs at hS ⊢
  unfold f_X8_goOn at h
  refine lv_aload_n hx hb dX8_goOn_0 rfl (lv_at hl 0 rfl) ?_
  refine lv_iload_n hx hb dX8_goOn_1 rfl (lv_at hl 1 rfl) ?_
  obtain ⟨⟨S_1, L_2⟩, hc3, h⟩ := tx_bd h
  replace h := tx_let (y := S_1) rfl h
  replace h := tx_let (y := L_2) rfl h
  refine tw_cv tw_all hP hD hS hA (va_runV (As := [.int x1]) (rest := []) ⟨hx, hb, hml, hown, hT⟩ (c_X8_outs l G cA H.size aa S L x1  S_1 L_2 hc3) (cwV 1 hT (tq_gV kw_43_18 kw_43_19 kw_43_20 kw_1_5 kw_43_21) rfl rfl rfl (by decide +kernel) ⟨Nat.le_of_ble_eq_true rfl, Nat.le_of_ble_eq_true rfl⟩) ⟨(tw_pre tw_all hP hD hK hN).1, va_recv hK hP (ci := 8) (q0 := 0) rfl rfl, (tw_pre tw_all hP hD hK hN).2⟩ rfl rfl hl.1 rfl (lv_room (Nat.le_of_ble_eq_true rfl)) dX8_goOn_2 ⟨Nat.le_of_ble_eq_true rfl, Nat.le_of_ble_eq_true rfl⟩) (fun _ H locs z4 hP hD hS => ?_)
  rw [List.append_nil] at hP hD
  have hP : va_P G vwCl (wM cA aa S_1 L_2) H := hP
  have hD : va_D A (wM cA aa S_1 L_2) := hD
  refine lv_aload_n hx hb dX8_goOn_5 rfl (lv_at hl 0 rfl) ?_
  refine lv_iload_n hx hb dX8_goOn_6 rfl (lv_at hl 1 rfl) ?_
  obtain ⟨S_5, hc6, h⟩ := tx_bd h
  refine tw_cv tw_all hP hD hS hA (va_runV (As := [.int x1]) (rest := []) ⟨hx, hb, hml, hown, hT⟩ (c_X8_ins l G cA H.size aa S_1 L_2 x1  S_5 hc6) (cwV 1 hT (tq_gV kw_44_19 kw_44_20 kw_44_21 kw_1_5 kw_44_22) rfl rfl rfl (by decide +kernel) ⟨Nat.le_of_ble_eq_true rfl, Nat.le_of_ble_eq_true rfl⟩) ⟨(tw_pre tw_all hP hD hK hN).1, va_recv hK hP (ci := 8) (q0 := 0) rfl rfl, (tw_pre tw_all hP hD hK hN).2⟩ rfl rfl hl.1 rfl (lv_room (Nat.le_of_ble_eq_true rfl)) dX8_goOn_7 ⟨Nat.le_of_ble_eq_true rfl, Nat.le_of_ble_eq_true rfl⟩) (fun _ H locs z7 hP hD hS => ?_)
  rw [List.append_nil] at hP hD
  have hP : va_P G vwCl (wM cA aa S_5 L_2) H := hP
  have hD : va_D A (wM cA aa S_5 L_2) := hD
  refine lv_aload_n hx hb dX8_goOn_10 rfl (lv_at hl 0 rfl) ?_
  refine va_get (D := G) (ci := 8) (v := .ref (aa 62)) (C := RX8) (T := TX8) (N := 91) hx hb hT ku_8 hown hK hP 0 rfl rfl 61 (by decide) (hT _ kw_10_22) (fun _ h9 => h9) rfl dX8_goOn_11 ?_
  refine lv_iload_n hx hb dX8_goOn_14 rfl (lv_at hl 1 rfl) ?_
  obtain ⟨g8, h⟩ := tx_ck h
  refine va_iald (i := x1) hx hb hK hP 36 0 rfl rfl (tx_in g8) dX8_goOn_15 ?_
  refine lv_bipush (v := 20) hx hb dX8_goOn_16 (by decide) ?_
  refine lv_icmp_ge (tgt := 26) hx hb dX8_goOn_18 (by decide) (fun c9 => ?_) (fun c9 => ?_)
  · have h := tx_pos c9 h
    exact w_X8_goOn_J26 F x1 S_5 L_2 H locs ls h hP hD hS (lv_sub hl [0, 1] rfl)
  · have h := tx_neg c9 h
    refine lv_aload_n hx hb dX8_goOn_21 rfl (lv_at hl 0 rfl) ?_
    refine lv_iload_n hx hb dX8_goOn_22 rfl (lv_at hl 1 rfl) ?_
    obtain ⟨⟨S_12, L_13⟩, hc14, h⟩ := tx_bd h
    replace h := tx_let (y := S_12) rfl h
    replace h := tx_let (y := L_13) rfl h
    refine tw_cv tw_all hP hD hS hA (va_runV (As := [.int x1]) (rest := []) ⟨hx, hb, hml, hown, hT⟩ (c_X8_onTheWay l G cA H.size aa S_5 L_2 x1  S_12 L_13 hc14) (cwV 1 hT (tq_gV kw_45_3 kw_45_4 kw_45_5 kw_1_5 kw_45_6) rfl rfl rfl (by decide +kernel) ⟨Nat.le_of_ble_eq_true rfl, Nat.le_of_ble_eq_true rfl⟩) ⟨(tw_pre tw_all hP hD hK hN).1, va_recv hK hP (ci := 8) (q0 := 0) rfl rfl, (tw_pre tw_all hP hD hK hN).2⟩ rfl rfl hl.1 rfl (lv_room (Nat.le_of_ble_eq_true rfl)) dX8_goOn_23 ⟨Nat.le_of_ble_eq_true rfl, Nat.le_of_ble_eq_true rfl⟩) (fun _ H locs z15 hP hD hS => ?_)
    rw [List.append_nil] at hP hD
    have hP : va_P G vwCl (wM cA aa S_12 L_13) H := hP
    have hD : va_D A (wM cA aa S_12 L_13) := hD
    exact w_X8_goOn_J26 F x1 S_12 L_13 H locs ls h hP hD hS (lv_sub hl [0, 1] rfl)
abbrev G_X8_toEnd (p : Program) (l : Launch) (e : Env) (s : State) (m : MethodId) (below : List Frame) (meth : Method) (c : Code) (G : va_G) (cA : Nat → ClassId) (A : Nat → Prop) (aa : Nat → Nat) (S' : Tr) (L' : Lo) (H : Heap) (locs : List Loc) (g : JFrame) : Prop := W p l e (headSpec (.code yX8_toEnd cX8_toEnd 1 none :: T0) ({ frames := 8, cells := 0, slots := 0, locals := 191 } : Room)).room s m ([.ref (aa 0)] : List Value).toArray below meth c H locs 0 0 (MQ below (tqQv G cA (fun (_ : Unit) => True) (fun (_ : Unit) => wM cA aa S' L') A) ([.ref (aa 0)] : List Value).toArray s 0 0 A) g
set_option maxHeartbeats 4000000 in
set_option maxRecDepth 100000 in
theorem w_X8_toEnd_L0 {p : Program} {l : Launch} {e : Env} {s : State} {m : MethodId} {below : List Frame} {meth : Method} {c : Code} {G : va_G} {cA : Nat → ClassId} {A : Nat → Prop} {aa : Nat → Nat} {S' : Tr} {L' : Lo} (F : tF p s m ([.ref (aa 0)] : List Value).toArray meth c G cA A RX8 cX8_toEnd 1 none)    (N : Nat) : ∀ (S : Tr) (L : Lo) (H : Heap) (locs : List Loc) (ls : Array Slot), lpF (fun _ _ => none) (fB_X8_toEnd_L0 ) N S L = some (S', L') → va_P G vwCl (wM cA aa S L) H → va_D A (wM cA aa S L) → va_S A s.heap H locs → lv_has ls 1 [(0, .ref (aa 0))] → G_X8_toEnd p l e s m below meth c G cA A aa S' L' H locs (F0 m 0 ls []) := by
  obtain ⟨hx, hb, hr, hml, hT, hown, hlocks, hK, hN, hA⟩ := id F
  induction N with
  | zero =>
    intro S L H locs ls h
    have h : (none : Option (Tr × Lo)) = some (S', L') := h
    cases h
  | succ N hk0 =>
    intro S L H locs ls h hP hD hS hl
    have h : fB_X8_toEnd_L0  (lpF (fun _ _ => none) (fB_X8_toEnd_L0 ) N) S L = some (S', L') := h
    generalize hk0e : lpF (fun _ _ => none) (fB_X8_toEnd_L0 ) N = k0 at h hk0
    unfold fB_X8_toEnd_L0 at h
    refine lv_aload_n hx hb dX8_toEnd_0 rfl (lv_at hl 0 rfl) ?_
    refine va_get (D := G) (ci := 8) (v := .ref (aa 62)) (C := RX8) (T := TX8) (N := 91) hx hb hT ku_8 hown hK hP 0 rfl rfl 61 (by decide) (hT _ kw_10_22) (fun _ h9 => h9) rfl dX8_toEnd_1 ?_
    refine lv_iconst (v := 1) hx hb dX8_toEnd_4 (by decide) ?_
    refine va_iald (i := 1) hx hb hK hP 36 0 rfl rfl (tq_in (by decide)) dX8_toEnd_5 ?_
    refine tq_i (w := (S 62 1)) rfl ?_
    refine lv_bipush (v := 21) hx hb dX8_toEnd_6 (by decide) ?_
    refine lv_icmp_ge (tgt := 19) hx hb dX8_toEnd_8 (by decide) (fun c1 => ?_) (fun c1 => ?_)
    · have h := tx_pos c1 h
      obtain ⟨rfl, rfl⟩ := tx_2 h
      exact W.vret hx hb hr (fun t ht hW => ⟨⟨(), rfl, trivial, by rw [ht]; exact hP, hD⟩, hS.F ht⟩) hS.2.2 dX8_toEnd_19
    · have h := tx_neg c1 h
      refine lv_aload_n hx hb dX8_toEnd_11 rfl (lv_at hl 0 rfl) ?_
      refine lv_iconst (v := 1) hx hb dX8_toEnd_12 (by decide) ?_
      obtain ⟨⟨S_2, L_3⟩, hc4, h⟩ := tx_bd h
      replace h := tx_let (y := S_2) rfl h
      replace h := tx_let (y := L_3) rfl h
      refine tw_cv tw_all hP hD hS hA (va_runV (As := [.int 1]) (rest := []) ⟨hx, hb, hml, hown, hT⟩ (c_X8_goOn l G cA H.size aa S L (1 : Int32)  S_2 L_3 hc4) (cwV 1 hT (tq_gV kw_43_14 kw_43_15 kw_43_16 kw_1_5 kw_43_17) rfl rfl rfl (by decide +kernel) ⟨Nat.le_of_ble_eq_true rfl, Nat.le_of_ble_eq_true rfl⟩) ⟨(tw_pre tw_all hP hD hK hN).1, va_recv hK hP (ci := 8) (q0 := 0) rfl rfl, (tw_pre tw_all hP hD hK hN).2⟩ rfl rfl hl.1 rfl (lv_room (Nat.le_of_ble_eq_true rfl)) dX8_toEnd_13 ⟨Nat.le_of_ble_eq_true rfl, Nat.le_of_ble_eq_true rfl⟩) (fun _ H locs z5 hP hD hS => ?_)
      rw [List.append_nil] at hP hD
      have hP : va_P G vwCl (wM cA aa S_2 L_3) H := hP
      have hD : va_D A (wM cA aa S_2 L_3) := hD
      refine lv_goto (tgt := 0) hx hb dX8_toEnd_16 (by decide) ?_
      exact hk0 S_2 L_3 H locs ls h hP hD hS (lv_sub hl [0] rfl)
set_option maxHeartbeats 4000000 in
set_option maxRecDepth 100000 in
theorem c_X8_toEnd (l : Launch) (G : va_G) (cA : Nat → ClassId) (sz : Nat) (aa : Nat → Nat) (S : Tr) (L : Lo)  (S' : Tr) (L' : Lo) (h : f_X8_toEnd S L = some (S', L')) : Met l yX8_toEnd (.code yX8_toEnd cX8_toEnd 1 none :: T0) ({ frames := 8, cells := 0, slots := 0, locals := 191 } : Room) (tqP G cA [.ref (aa 0)] (wM cA aa S L) sz) (tqQv G cA (fun (_ : Unit) => True) (fun (_ : Unit) => wM cA aa S' L') (va_A (wM cA aa S L) sz)) 0 0 (va_A (wM cA aa S L) sz) := by
  refine Met.ofW (cc := cX8_toEnd) (maxL := 1) (ret := none) (by decide) rfl ?_
  intro p e s m args below meth c s₁ B hml hv
  obtain ⟨rfl, hsz, hP, hK, hD0, hN⟩ := hv
  have hx := B.exec
  have hb := B.bytes
  have hr := B.returns
  have hts := atoms_spec (ws := .code yX8_toEnd cX8_toEnd 1 none :: T0) B.pre
  have hT : ∀ w ∈ T0, w.before _ s = true := fun w h => hts w (List.mem_cons_of_mem _ h)
  have hown : s.vm.findClass RX8 = some m.cls := findClass_of_methodNamed B.named
  have hlocks := B.notSynchronized
  subst hsz
  have hD := hD0.self (sz := s.heap.size)
  generalize hAe : va_A (wM cA aa S L) s.heap.size = A at hD ⊢
  have hA : ∀ q : Nat, s.heap.size ≤ q → A q := fun q h => by rw [← hAe]; exact Or.inr h
  have hS : va_S A s.heap s.heap [] := va_S.rf
  have hl := lv_entry ([.ref (aa 0)]) (n := 1) (Nat.le_of_ble_eq_true rfl)
  rw [lg_entry_eq]
  generalize (lg_sl ([.ref (aa 0)]) ++ List.replicate (1 - (lg_sl ([.ref (aa 0)])).length) Slot.unset).toArray = ls at hl ⊢
  have hl : lv_has ls 1 [(0, .ref (aa 0))] := hl
  have F : tF p s m ([.ref (aa 0)] : List Value).toArray meth c G cA A RX8 cX8_toEnd 1 none := ⟨hx, hb, hr, hml, hT, hown, hlocks, hK, hN, hA⟩
  obtain ⟨H, hH⟩ : ∃ z, z = s.heap := ⟨_, rfl⟩
  rw [← hH] at hP
  have hS : va_S A s.heap H [] := by rw [hH]; exact hS
  suffices hgo : G_X8_toEnd p l e s m below meth c G cA A aa S' L' H [] (F0 m 0 ls []) by rw [hH] at hgo; exact hgo
  generalize ([] : List Loc) = locs at hS ⊢
  unfold f_X8_toEnd at h
  exact w_X8_toEnd_L0 F 2000 S L H locs ls h hP hD hS (lv_sub hl [0] rfl)
abbrev G_X8_more (p : Program) (l : Launch) (e : Env) (s : State) (m : MethodId) (below : List Frame) (meth : Method) (c : Code) (G : va_G) (cA : Nat → ClassId) (A : Nat → Prop) (aa : Nat → Nat) (S : Tr) (L : Lo) (r0 : Int32) (H : Heap) (locs : List Loc) (g : JFrame) : Prop := W p l e (headSpec (.code yX8_more cX8_more 1 (some .int) :: T0) ({ frames := 0, cells := 0, slots := 0, locals := 0 } : Room)).room s m ([.ref (aa 0)] : List Value).toArray below meth c H locs 0 0 (MQ below (tqQi G cA (fun (r : Int32) (_ : Unit) => r = r0) (fun (_ : Unit) => wM cA aa S L) A) ([.ref (aa 0)] : List Value).toArray s 0 0 A) g
set_option maxHeartbeats 4000000 in
set_option maxRecDepth 100000 in
theorem c_X8_more (l : Launch) (G : va_G) (cA : Nat → ClassId) (sz : Nat) (aa : Nat → Nat) (S : Tr) (L : Lo)  (r0 : Int32) (h : f_X8_more S = some r0) : Met l yX8_more (.code yX8_more cX8_more 1 (some .int) :: T0) ({ frames := 0, cells := 0, slots := 0, locals := 0 } : Room) (tqP G cA [.ref (aa 0)] (wM cA aa S L) sz) (tqQi G cA (fun (r : Int32) (_ : Unit) => r = r0) (fun (_ : Unit) => wM cA aa S L) (va_A (wM cA aa S L) sz)) 0 0 (va_A (wM cA aa S L) sz) := by
  refine Met.ofW (cc := cX8_more) (maxL := 1) (ret := (some .int)) (by decide) rfl ?_
  intro p e s m args below meth c s₁ B hml hv
  obtain ⟨rfl, hsz, hP, hK, hD0, hN⟩ := hv
  have hx := B.exec
  have hb := B.bytes
  have hr := B.returns
  have hts := atoms_spec (ws := .code yX8_more cX8_more 1 (some .int) :: T0) B.pre
  have hT : ∀ w ∈ T0, w.before _ s = true := fun w h => hts w (List.mem_cons_of_mem _ h)
  have hown : s.vm.findClass RX8 = some m.cls := findClass_of_methodNamed B.named
  have hlocks := B.notSynchronized
  subst hsz
  have hD := hD0.self (sz := s.heap.size)
  generalize hAe : va_A (wM cA aa S L) s.heap.size = A at hD ⊢
  have hA : ∀ q : Nat, s.heap.size ≤ q → A q := fun q h => by rw [← hAe]; exact Or.inr h
  have hS : va_S A s.heap s.heap [] := va_S.rf
  have hl := lv_entry ([.ref (aa 0)]) (n := 1) (Nat.le_of_ble_eq_true rfl)
  rw [lg_entry_eq]
  generalize (lg_sl ([.ref (aa 0)]) ++ List.replicate (1 - (lg_sl ([.ref (aa 0)])).length) Slot.unset).toArray = ls at hl ⊢
  have hl : lv_has ls 1 [(0, .ref (aa 0))] := hl
  have F : tF p s m ([.ref (aa 0)] : List Value).toArray meth c G cA A RX8 cX8_more 1 (some .int) := ⟨hx, hb, hr, hml, hT, hown, hlocks, hK, hN, hA⟩
  obtain ⟨H, hH⟩ : ∃ z, z = s.heap := ⟨_, rfl⟩
  rw [← hH] at hP
  have hS : va_S A s.heap H [] := by rw [hH]; exact hS
  suffices hgo : G_X8_more p l e s m below meth c G cA A aa S L r0 H [] (F0 m 0 ls []) by rw [hH] at hgo; exact hgo
  generalize ([] : List Loc) = locs at hS ⊢
  unfold f_X8_more at h
  refine lv_aload_n hx hb dX8_more_0 rfl (lv_at hl 0 rfl) ?_
  refine va_get (D := G) (ci := 8) (v := .ref (aa 61)) (C := RX8) (T := TX8) (N := 91) hx hb hT ku_8 hown hK hP 0 rfl rfl 60 (by decide) (hT _ kw_10_21) (fun _ h9 => h9) rfl dX8_more_1 ?_
  refine lv_iconst (v := 1) hx hb dX8_more_4 (by decide) ?_
  refine va_iald (i := 1) hx hb hK hP 35 0 rfl rfl (tq_in (by decide)) dX8_more_5 ?_
  refine tq_i (w := (S 61 1)) rfl ?_
  refine lv_aload_n hx hb dX8_more_6 rfl (lv_at hl 0 rfl) ?_
  refine va_get (D := G) (ci := 8) (v := .ref (aa 61)) (C := RX8) (T := TX8) (N := 91) hx hb hT ku_8 hown hK hP 0 rfl rfl 60 (by decide) (hT _ kw_10_21) (fun _ h9 => h9) rfl dX8_more_7 ?_
  refine lv_iconst (v := 0) hx hb dX8_more_10 (by decide) ?_
  refine va_iald (i := 0) hx hb hK hP 35 0 rfl rfl (tq_in (by decide)) dX8_more_11 ?_
  refine tq_i (w := (S 61 0)) rfl ?_
  refine lv_isub hx hb dX8_more_12 ?_
  obtain rfl := tx_1 h
  exact W.iret hx hb hr (fun t ht hW => ⟨⟨_, (), rfl, rfl, by rw [ht]; exact hP, hD⟩, hS.F ht⟩) hS.2.2 dX8_more_13
abbrev G_X8_liftsBy (p : Program) (l : Launch) (e : Env) (s : State) (m : MethodId) (below : List Frame) (meth : Method) (c : Code) (G : va_G) (cA : Nat → ClassId) (A : Nat → Prop) (aa : Nat → Nat) (x1 : Int32) (r0 : Int32) (S' : Tr) (L' : Lo) (H : Heap) (locs : List Loc) (g : JFrame) : Prop := W p l e (headSpec (.code yX8_liftsBy cX8_liftsBy 2 (some .int) :: T0) ({ frames := 9, cells := 0, slots := 0, locals := 211 } : Room)).room s m ([.ref (aa 0), .int x1] : List Value).toArray below meth c H locs 0 0 (MQ below (tqQi G cA (fun (r : Int32) (_ : Unit) => r = r0) (fun (_ : Unit) => wM cA aa S' L') A) ([.ref (aa 0), .int x1] : List Value).toArray s 0 0 A) g
set_option maxHeartbeats 4000000 in
set_option maxRecDepth 100000 in
theorem c_X8_liftsBy (l : Launch) (G : va_G) (cA : Nat → ClassId) (sz : Nat) (aa : Nat → Nat) (S : Tr) (L : Lo) (x1 : Int32)  (r0 : Int32) (S' : Tr) (L' : Lo) (h : f_X8_liftsBy S L x1 = some (r0, S', L')) : Met l yX8_liftsBy (.code yX8_liftsBy cX8_liftsBy 2 (some .int) :: T0) ({ frames := 9, cells := 0, slots := 0, locals := 211 } : Room) (tqP G cA [.ref (aa 0), .int x1] (wM cA aa S L) sz) (tqQi G cA (fun (r : Int32) (_ : Unit) => r = r0) (fun (_ : Unit) => wM cA aa S' L') (va_A (wM cA aa S L) sz)) 0 0 (va_A (wM cA aa S L) sz) := by
  refine Met.ofW (cc := cX8_liftsBy) (maxL := 2) (ret := (some .int)) (by decide) rfl ?_
  intro p e s m args below meth c s₁ B hml hv
  obtain ⟨rfl, hsz, hP, hK, hD0, hN⟩ := hv
  have hx := B.exec
  have hb := B.bytes
  have hr := B.returns
  have hts := atoms_spec (ws := .code yX8_liftsBy cX8_liftsBy 2 (some .int) :: T0) B.pre
  have hT : ∀ w ∈ T0, w.before _ s = true := fun w h => hts w (List.mem_cons_of_mem _ h)
  have hown : s.vm.findClass RX8 = some m.cls := findClass_of_methodNamed B.named
  have hlocks := B.notSynchronized
  subst hsz
  have hD := hD0.self (sz := s.heap.size)
  generalize hAe : va_A (wM cA aa S L) s.heap.size = A at hD ⊢
  have hA : ∀ q : Nat, s.heap.size ≤ q → A q := fun q h => by rw [← hAe]; exact Or.inr h
  have hS : va_S A s.heap s.heap [] := va_S.rf
  have hl := lv_entry ([.ref (aa 0), .int x1]) (n := 2) (Nat.le_of_ble_eq_true rfl)
  rw [lg_entry_eq]
  generalize (lg_sl ([.ref (aa 0), .int x1]) ++ List.replicate (2 - (lg_sl ([.ref (aa 0), .int x1])).length) Slot.unset).toArray = ls at hl ⊢
  have hl : lv_has ls 2 [(0, .ref (aa 0)), (1, .int x1)] := hl
  have F : tF p s m ([.ref (aa 0), .int x1] : List Value).toArray meth c G cA A RX8 cX8_liftsBy 2 (some .int) := ⟨hx, hb, hr, hml, hT, hown, hlocks, hK, hN, hA⟩
  obtain ⟨H, hH⟩ : ∃ z, z = s.heap := ⟨_, rfl⟩
  rw [← hH] at hP
  have hS : va_S A s.heap H [] := by rw [hH]; exact hS
  suffices hgo : G_X8_liftsBy p l e s m below meth c G cA A aa x1 r0 S' L' H [] (F0 m 0 ls []) by rw [hH] at hgo; exact hgo
  generalize ([] : List Loc) = locs at hS ⊢
  unfold f_X8_liftsBy at h
  refine lv_aload_n hx hb dX8_liftsBy_0 rfl (lv_at hl 0 rfl) ?_
  obtain ⟨S_1, hc2, h⟩ := tx_bd h
  refine tw_cv tw_all hP hD hS hA (va_runV (As := []) (rest := []) ⟨hx, hb, hml, hown, hT⟩ (c_X8_layTried l G cA H.size aa S L  S_1 hc2) (cwV 0 hT (tq_gV kw_39_5 kw_39_6 kw_39_7 kw_1_5 kw_39_8) rfl rfl rfl (by decide +kernel) ⟨Nat.le_of_ble_eq_true rfl, Nat.le_of_ble_eq_true rfl⟩) ⟨(tw_pre tw_all hP hD hK hN).1, va_recv hK hP (ci := 8) (q0 := 0) rfl rfl, (tw_pre tw_all hP hD hK hN).2⟩ rfl rfl hl.1 rfl (lv_room (Nat.le_of_ble_eq_true rfl)) dX8_liftsBy_1 ⟨Nat.le_of_ble_eq_true rfl, Nat.le_of_ble_eq_true rfl⟩) (fun _ H locs z3 hP hD hS => ?_)
  rw [List.append_nil] at hP hD
  have hP : va_P G vwCl (wM cA aa S_1 L) H := hP
  have hD : va_D A (wM cA aa S_1 L) := hD
  refine lv_aload_n hx hb dX8_liftsBy_4 rfl (lv_at hl 0 rfl) ?_
  refine lv_iload_n hx hb dX8_liftsBy_5 rfl (lv_at hl 1 rfl) ?_
  refine va_put (D := G) (ci := 8) (v := .int x1) (ty := .int) (C := RX8) (T := TX8) (N := 91) hx hb hT ku_8 tyX8 tyX8_ok nmX8 hown hK hP hD hS 0 rfl rfl 64 (by decide) (hT _ kw_13_2) (fun _ h9 => h9) rfl (by decide +kernel) rfl rfl (Nat.le_of_ble_eq_true rfl) dX8_liftsBy_6 (fun H locs hP hD hS => ?_)
  obtain ⟨S_4, eS_4, h⟩ := tx_lt h
  rw [sM_f64, eS_4] at hP hD
  refine lv_aload_n hx hb dX8_liftsBy_9 rfl (lv_at hl 0 rfl) ?_
  obtain ⟨⟨S_5, L_6⟩, hc7, h⟩ := tx_bd h
  replace h := tx_let (y := S_5) rfl h
  replace h := tx_let (y := L_6) rfl h
  refine tw_cv tw_all hP hD hS hA (va_runV (As := []) (rest := []) ⟨hx, hb, hml, hown, hT⟩ (c_X8_toEnd l G cA H.size aa S_4 L  S_5 L_6 hc7) (cwV 0 hT (tq_gV kw_48_5 kw_48_6 kw_48_7 kw_1_5 kw_48_8) rfl rfl rfl (by decide +kernel) ⟨Nat.le_of_ble_eq_true rfl, Nat.le_of_ble_eq_true rfl⟩) ⟨(tw_pre tw_all hP hD hK hN).1, va_recv hK hP (ci := 8) (q0 := 0) rfl rfl, (tw_pre tw_all hP hD hK hN).2⟩ rfl rfl hl.1 rfl (lv_room (Nat.le_of_ble_eq_true rfl)) dX8_liftsBy_10 ⟨Nat.le_of_ble_eq_true rfl, Nat.le_of_ble_eq_true rfl⟩) (fun _ H locs z8 hP hD hS => ?_)
  rw [List.append_nil] at hP hD
  have hP : va_P G vwCl (wM cA aa S_5 L_6) H := hP
  have hD : va_D A (wM cA aa S_5 L_6) := hD
  refine lv_aload_n hx hb dX8_liftsBy_13 rfl (lv_at hl 0 rfl) ?_
  obtain ⟨r9, hc10, h⟩ := tx_bd h
  refine tw_ci tw_all hP hD hS hA (va_runV (As := []) (rest := []) ⟨hx, hb, hml, hown, hT⟩ (c_X8_more l G cA H.size aa S_5 L_6  r9 hc10) (cwV 0 hT (tq_gV kw_48_9 kw_48_10 kw_48_11 kw_1_5 kw_48_12) rfl rfl rfl (by decide +kernel) ⟨Nat.le_of_ble_eq_true rfl, Nat.le_of_ble_eq_true rfl⟩) ⟨(tw_pre tw_all hP hD hK hN).1, va_recv hK hP (ci := 8) (q0 := 0) rfl rfl, (tw_pre tw_all hP hD hK hN).2⟩ rfl rfl hl.1 rfl (lv_room (Nat.le_of_ble_eq_true rfl)) dX8_liftsBy_14 ⟨Nat.le_of_ble_eq_true rfl, Nat.le_of_ble_eq_true rfl⟩) (fun _ _ H locs z11 hP hD hS => ?_)
  subst z11
  rw [List.append_nil] at hP hD
  have hP : va_P G vwCl (wM cA aa S_5 L_6) H := hP
  have hD : va_D A (wM cA aa S_5 L_6) := hD
  obtain ⟨rfl, rfl, rfl⟩ := tx_3 h
  exact W.iret hx hb hr (fun t ht hW => ⟨⟨_, (), rfl, rfl, by rw [ht]; exact hP, hD⟩, hS.F ht⟩) hS.2.2 dX8_liftsBy_17
abbrev G_X8_isBelow (p : Program) (l : Launch) (e : Env) (s : State) (m : MethodId) (below : List Frame) (meth : Method) (c : Code) (G : va_G) (cA : Nat → ClassId) (A : Nat → Prop) (aa : Nat → Nat) (S : Tr) (L : Lo) (x1 : Int32) (x2 : Int32) (r0 : Int32) (H : Heap) (locs : List Loc) (g : JFrame) : Prop := W p l e (headSpec (.code yX8_isBelow cX8_isBelow 5 (some .boolean) :: T0) ({ frames := 0, cells := 0, slots := 0, locals := 0 } : Room)).room s m ([.ref (aa 0), .int x1, .int x2] : List Value).toArray below meth c H locs 0 0 (MQ below (tqQi G cA (fun (r : Int32) (_ : Unit) => r = r0) (fun (_ : Unit) => wM cA aa S L) A) ([.ref (aa 0), .int x1, .int x2] : List Value).toArray s 0 0 A) g
set_option maxHeartbeats 4000000 in
set_option maxRecDepth 100000 in
theorem c_X8_isBelow (l : Launch) (G : va_G) (cA : Nat → ClassId) (sz : Nat) (aa : Nat → Nat) (S : Tr) (L : Lo) (x1 : Int32) (x2 : Int32)  (r0 : Int32) (h : f_X8_isBelow S x1 x2 = some r0) : Met l yX8_isBelow (.code yX8_isBelow cX8_isBelow 5 (some .boolean) :: T0) ({ frames := 0, cells := 0, slots := 0, locals := 0 } : Room) (tqP G cA [.ref (aa 0), .int x1, .int x2] (wM cA aa S L) sz) (tqQi G cA (fun (r : Int32) (_ : Unit) => r = r0) (fun (_ : Unit) => wM cA aa S L) (va_A (wM cA aa S L) sz)) 0 0 (va_A (wM cA aa S L) sz) := by
  refine Met.ofW (cc := cX8_isBelow) (maxL := 5) (ret := (some .boolean)) (by decide) rfl ?_
  intro p e s m args below meth c s₁ B hml hv
  obtain ⟨rfl, hsz, hP, hK, hD0, hN⟩ := hv
  have hx := B.exec
  have hb := B.bytes
  have hr := B.returns
  have hts := atoms_spec (ws := .code yX8_isBelow cX8_isBelow 5 (some .boolean) :: T0) B.pre
  have hT : ∀ w ∈ T0, w.before _ s = true := fun w h => hts w (List.mem_cons_of_mem _ h)
  have hown : s.vm.findClass RX8 = some m.cls := findClass_of_methodNamed B.named
  have hlocks := B.notSynchronized
  subst hsz
  have hD := hD0.self (sz := s.heap.size)
  generalize hAe : va_A (wM cA aa S L) s.heap.size = A at hD ⊢
  have hA : ∀ q : Nat, s.heap.size ≤ q → A q := fun q h => by rw [← hAe]; exact Or.inr h
  have hS : va_S A s.heap s.heap [] := va_S.rf
  have hl := lv_entry ([.ref (aa 0), .int x1, .int x2]) (n := 5) (Nat.le_of_ble_eq_true rfl)
  rw [lg_entry_eq]
  generalize (lg_sl ([.ref (aa 0), .int x1, .int x2]) ++ List.replicate (5 - (lg_sl ([.ref (aa 0), .int x1, .int x2])).length) Slot.unset).toArray = ls at hl ⊢
  have hl : lv_has ls 5 [(0, .ref (aa 0)), (1, .int x1), (2, .int x2)] := hl
  have F : tF p s m ([.ref (aa 0), .int x1, .int x2] : List Value).toArray meth c G cA A RX8 cX8_isBelow 5 (some .boolean) := ⟨hx, hb, hr, hml, hT, hown, hlocks, hK, hN, hA⟩
  obtain ⟨H, hH⟩ : ∃ z, z = s.heap := ⟨_, rfl⟩
  rw [← hH] at hP
  have hS : va_S A s.heap H [] := by rw [hH]; exact hS
  suffices hgo : G_X8_isBelow p l e s m below meth c G cA A aa S L x1 x2 r0 H [] (F0 m 0 ls []) by rw [hH] at hgo; exact hgo
  generalize ([] : List Loc) = locs at hS ⊢
  unfold f_X8_isBelow at h
  refine lv_aload_n hx hb dX8_isBelow_0 rfl (lv_at hl 0 rfl) ?_
  refine va_get (D := G) (ci := 8) (v := .ref (aa 28)) (C := RX8) (T := TX8) (N := 91) hx hb hT ku_8 hown hK hP 0 rfl rfl 27 (by decide) (hT _ kw_9_19) (fun _ h9 => h9) rfl dX8_isBelow_1 ?_
  refine lv_aload_n hx hb dX8_isBelow_4 rfl (lv_at hl 0 rfl) ?_
  refine va_get (D := G) (ci := 8) (v := .ref (aa 30)) (C := RX8) (T := TX8) (N := 91) hx hb hT ku_8 hown hK hP 0 rfl rfl 29 (by decide) (hT _ kw_9_21) (fun _ h9 => h9) rfl dX8_isBelow_5 ?_
  refine lv_iload_n hx hb dX8_isBelow_8 rfl (lv_at hl 1 rfl) ?_
  obtain ⟨g1, h⟩ := tx_ck h
  refine va_iald (i := x1) hx hb hK hP 11 0 rfl rfl (tx_in g1) dX8_isBelow_9 ?_
  obtain ⟨g2, h⟩ := tx_ck h
  refine va_iald (i := (S 30 x1.toNatClampNeg)) hx hb hK hP 9 0 rfl rfl (tx_in g2) dX8_isBelow_10 ?_
  refine lv_topi (fun y3 ey3 => ?_)
  have h := tx_let ey3 h
  refine lv_istore_n (lv' := [(3, .int y3), (0, .ref (aa 0)), (1, .int x1), (2, .int x2)]) hx hb dX8_isBelow_11 rfl hl (by decide) rfl (fun ls hl => ?_)
  refine lv_aload_n hx hb dX8_isBelow_12 rfl (lv_at hl 1 rfl) ?_
  refine va_get (D := G) (ci := 8) (v := .ref (aa 28)) (C := RX8) (T := TX8) (N := 91) hx hb hT ku_8 hown hK hP 0 rfl rfl 27 (by decide) (hT _ kw_9_19) (fun _ h9 => h9) rfl dX8_isBelow_13 ?_
  refine lv_aload_n hx hb dX8_isBelow_16 rfl (lv_at hl 1 rfl) ?_
  refine va_get (D := G) (ci := 8) (v := .ref (aa 30)) (C := RX8) (T := TX8) (N := 91) hx hb hT ku_8 hown hK hP 0 rfl rfl 29 (by decide) (hT _ kw_9_21) (fun _ h9 => h9) rfl dX8_isBelow_17 ?_
  refine lv_iload_n hx hb dX8_isBelow_20 rfl (lv_at hl 3 rfl) ?_
  obtain ⟨g4, h⟩ := tx_ck h
  refine va_iald (i := x2) hx hb hK hP 11 0 rfl rfl (tx_in g4) dX8_isBelow_21 ?_
  obtain ⟨g5, h⟩ := tx_ck h
  refine va_iald (i := (S 30 x2.toNatClampNeg)) hx hb hK hP 9 0 rfl rfl (tx_in g5) dX8_isBelow_22 ?_
  refine lv_topi (fun y6 ey6 => ?_)
  have h := tx_let ey6 h
  refine lv_istore (lv' := [(4, .int y6), (3, .int y3), (0, .ref (aa 0)), (1, .int x1), (2, .int x2)]) hx hb dX8_isBelow_23 hl (by decide) rfl (fun ls hl => ?_)
  refine lv_iload_n hx hb dX8_isBelow_25 rfl (lv_at hl 1 rfl) ?_
  refine lv_iload hx hb dX8_isBelow_26 (lv_at hl 0 rfl) ?_
  refine lv_icmp_gt (tgt := 42) hx hb dX8_isBelow_28 (by decide) (fun c7 => ?_) (fun c7 => ?_)
  · have h := tx_pos c7 h
    refine lv_iconst (v := 1) hx hb dX8_isBelow_42 (by decide) ?_
    refine lv_goto (tgt := 47) hx hb dX8_isBelow_43 (by decide) ?_
    obtain rfl := tx_1 h
    exact W.zret (ty := .boolean) hx hb hr rfl (fun t ht hW => ⟨⟨_, (), rfl, rfl, by rw [ht]; exact hP, hD⟩, hS.F ht⟩) hS.2.2 dX8_isBelow_47
  · have h := tx_neg c7 h
    refine lv_iload_n hx hb dX8_isBelow_31 rfl (lv_at hl 1 rfl) ?_
    refine lv_iload hx hb dX8_isBelow_32 (lv_at hl 0 rfl) ?_
    refine lv_icmp_ne (tgt := 46) hx hb dX8_isBelow_34 (by decide) (fun c8 => ?_) (fun c8 => ?_)
    · have h := tx_neg c8 h
      refine lv_iconst (v := 0) hx hb dX8_isBelow_46 (by decide) ?_
      obtain rfl := tx_1 h
      exact W.zret (ty := .boolean) hx hb hr rfl (fun t ht hW => ⟨⟨_, (), rfl, rfl, by rw [ht]; exact hP, hD⟩, hS.F ht⟩) hS.2.2 dX8_isBelow_47
    · have h := tx_pos c8 h
      refine lv_iload_n hx hb dX8_isBelow_37 rfl (lv_at hl 3 rfl) ?_
      refine lv_iload_n hx hb dX8_isBelow_38 rfl (lv_at hl 4 rfl) ?_
      refine lv_icmp_le (tgt := 46) hx hb dX8_isBelow_39 (by decide) (fun c9 => ?_) (fun c9 => ?_)
      · have h := tx_pos c9 h
        refine lv_iconst (v := 0) hx hb dX8_isBelow_46 (by decide) ?_
        obtain rfl := tx_1 h
        exact W.zret (ty := .boolean) hx hb hr rfl (fun t ht hW => ⟨⟨_, (), rfl, rfl, by rw [ht]; exact hP, hD⟩, hS.F ht⟩) hS.2.2 dX8_isBelow_47
      · have h := tx_neg c9 h
        refine lv_iconst (v := 1) hx hb dX8_isBelow_42 (by decide) ?_
        refine lv_goto (tgt := 47) hx hb dX8_isBelow_43 (by decide) ?_
        obtain rfl := tx_1 h
        exact W.zret (ty := .boolean) hx hb hr rfl (fun t ht hW => ⟨⟨_, (), rfl, rfl, by rw [ht]; exact hP, hD⟩, hS.F ht⟩) hS.2.2 dX8_isBelow_47
