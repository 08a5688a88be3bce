abbrev G_X8_valueOf (p : Program) (l : Launch) (e : Env) (s : State) (m : MethodId) (below : List Frame) (meth : Method) (c : Code) (G : va_G) (cA : Nat → ClassId) (A : Nat → Prop) (aa : Nat → Nat) (L : Lo) (x1 : Int32) (r0 : Int64) (S' : Tr) (H : Heap) (locs : List Loc) (g : JFrame) : Prop := W p l e (headSpec (.code yX8_valueOf cX8_valueOf 6 (some .long) :: T0) ({ frames := 1, cells := 0, slots := 0, locals := 25 } : Room)).room s m ([.ref (aa 0), .int x1] : List Value).toArray below meth c H locs 0 0 (MQ below (tqQl G cA (fun (r : Int64) (_ : Unit) => r = r0) (fun (_ : Unit) => wM cA aa S' L) A) ([.ref (aa 0), .int x1] : List Value).toArray s 0 0 A) g
set_option maxHeartbeats 4000000 in
set_option maxRecDepth 100000 in
theorem w_X8_valueOf_J240 {p : Program} {l : Launch} {e : Env} {s : State} {m : MethodId} {below : List Frame} {meth : Method} {c : Code} {G : va_G} {cA : Nat → ClassId} {A : Nat → Prop} {aa : Nat → Nat} {L : Lo} {x1₀ : Int32} {r0 : Int64} {S' : Tr} (F : tF p s m ([.ref (aa 0), .int x1₀] : List Value).toArray meth c G cA A RX8 cX8_valueOf 6 (some .long))    (x2 : Int64) (x4 : Int64) (s0 : Int32) (S : Tr) (H : Heap) (locs : List Loc) (ls : Array Slot) (h : fJ_X8_valueOf_J240 L x2 x4 s0 S = some (r0, S')) (hP : va_P G vwCl (wM cA aa S_34 L) H) (hD : va_D A (wM cA aa S_34 L)) (hS : va_S A s.heap H locs) (hl : lv_has ls 6 [(0, .ref (aa 0)), (2, .long x2), (4, .long x4)]) : G_X8_valueOf p l e s m below meth c G cA A aa L x1₀ r0 S' H locs (F0 m 240 ls []) := by
  obtain ⟨hx, hb, hr, hml, hT, hown, hlocks, hK, hN, hA⟩ := id F
  unfold fJ_X8_valueOf_J240 at h
  obtain ⟨g33, h⟩ := tx_ck h
  refine va_put (D := G) (ci := 8) (v := .int s0) (ty := .boolean) (C := RX8) (T := TX8) (N := 91) hx hb hT ku_8 tyX8 tyX8_ok nmX8 hown hK hP hD hS 0 rfl rfl 51 (by decide) (hT _ kw_34_10) (fun _ h9 => h9) rfl (by decide +kernel) (tx_z g33) rfl (Nat.le_of_ble_eq_true rfl) dX8_valueOf_240 (fun H locs hP hD hS => ?_)
  obtain ⟨S_34, eS_34, h⟩ := tx_lt h
  rw [sM_f51, eS_34] at hP hD
  refine lv_aload_n hx hb dX8_valueOf_243 rfl (lv_at hl 0 rfl) ?_
  refine va_get (D := G) (ci := 8) (v := .int (S_34 0 51)) (C := RX8) (T := TX8) (N := 91) hx hb hT ku_8 hown hK hP 0 rfl rfl 51 (by decide) (hT _ kw_34_10) (fun _ h9 => h9) rfl dX8_valueOf_244 ?_
  refine lv_if_eq (tgt := 254) hx hb dX8_valueOf_247 (by decide) (fun c35 => ?_) (fun c35 => ?_)
  · have h := tx_pos c35 h
    refine lv_lload_n hx hb dX8_valueOf_254 rfl (lv_at hl 1 rfl) ?_
    refine lv_lload hx hb dX8_valueOf_255 (lv_at hl 2 rfl) ?_
    obtain ⟨g36, h⟩ := tx_ck h
    refine lv_ldiv hx hb dX8_valueOf_257 (tx_nzl g36) ?_
    obtain ⟨rfl, rfl⟩ := tx_2 h
    exact W.lret hx hb hr (fun t ht hW => ⟨⟨_, (), rfl, rfl, by rw [ht]; exact hP, hD⟩, hS.F ht⟩) hS.2.2 dX8_valueOf_258
  · have h := tx_neg c35 h
    refine lv_lconst (v := 0) hx hb dX8_valueOf_250 (by decide) ?_
    refine lv_goto (tgt := 258) hx hb dX8_valueOf_251 (by decide) ?_
    obtain ⟨rfl, rfl⟩ := tx_2 h
    exact W.lret hx hb hr (fun t ht hW => ⟨⟨_, (), rfl, rfl, by rw [ht]; exact hP, hD⟩, hS.F ht⟩) hS.2.2 dX8_valueOf_258
set_option maxHeartbeats 4000000 in
set_option maxRecDepth 100000 in
theorem w_X8_valueOf_J235 {p : Program} {l : Launch} {e : Env} {s : State} {m : MethodId} {below : List Frame} {meth : Method} {c : Code} {G : va_G} {cA : Nat → ClassId} {A : Nat → Prop} {aa : Nat → Nat} {L : Lo} {x1₀ : Int32} {r0 : Int64} {S' : Tr} (F : tF p s m ([.ref (aa 0), .int x1₀] : List Value).toArray meth c G cA A RX8 cX8_valueOf 6 (some .long))    (x2 : Int64) (x4 : Int64) (S : Tr) (H : Heap) (locs : List Loc) (ls : Array Slot) (h : fJ_X8_valueOf_J235 L x2 x4 S = some (r0, S')) (hP : va_P G vwCl (wM cA aa S L) H) (hD : va_D A (wM cA aa S L)) (hS : va_S A s.heap H locs) (hl : lv_has ls 6 [(0, .ref (aa 0)), (2, .long x2), (4, .long x4)]) : G_X8_valueOf p l e s m below meth c G cA A aa L x1₀ r0 S' H locs (F0 m 235 ls [.int 1, .ref (aa 0)]) := by
  obtain ⟨hx, hb, hr, hml, hT, hown, hlocks, hK, hN, hA⟩ := id F
  unfold fJ_X8_valueOf_J235 at h
  refine lv_iconst (v := 1) hx hb dX8_valueOf_235 (by decide) ?_
  refine lv_goto (tgt := 240) hx hb dX8_valueOf_236 (by decide) ?_
  exact w_X8_valueOf_J240 F x2 x4 1 S H locs ls h hP hD hS (lv_sub hl [0, 1, 2] rfl)
set_option maxHeartbeats 4000000 in
set_option maxRecDepth 100000 in
theorem c_X8_valueOf (l : Launch) (G : va_G) (cA : Nat → ClassId) (sz : Nat) (aa : Nat → Nat) (S : Tr) (L : Lo) (x1 : Int32)  (r0 : Int64) (S' : Tr) (h : f_X8_valueOf S L x1 = some (r0, S')) : Met l yX8_valueOf (.code yX8_valueOf cX8_valueOf 6 (some .long) :: T0) ({ frames := 1, cells := 0, slots := 0, locals := 25 } : Room) (tqP G cA [.ref (aa 0), .int x1] (wM cA aa S L) sz) (tqQl G cA (fun (r : Int64) (_ : Unit) => r = r0) (fun (_ : Unit) => wM cA aa S' L) (va_A (wM cA aa S L) sz)) 0 0 (va_A (wM cA aa S L) sz) := by
  refine Met.ofW (cc := cX8_valueOf) (maxL := 6) (ret := (some .long)) (by decide) rfl ?_
  intro p e s m args below meth c s₁ B hml hv
  obtain ⟨rfl, hsz, hP, hK, hD0, hN⟩ := hv
  have hx := B.exec
  have hb := B.bytes
  have hr := B.returns
  have hts := atoms_spec (ws := .code yX8_valueOf cX8_valueOf 6 (some .long) :: T0) B.pre
  have hT : ∀ w ∈ T0, w.before _ s = true := fun w h => hts w (List.mem_cons_of_mem _ h)
  have hown : s.vm.findClass RX8 = some m.cls := findClass_of_methodNamed B.named
  have hlocks := B.notSynchronized
  subst hsz
  have hD := hD0.self (sz := s.heap.size)
  generalize hAe : va_A (wM cA aa S L) s.heap.size = A at hD ⊢
  have hA : ∀ q : Nat, s.heap.size ≤ q → A q := fun q h => by rw [← hAe]; exact Or.inr h
  have hS : va_S A s.heap s.heap [] := va_S.rf
  have hl := lv_entry ([.ref (aa 0), .int x1]) (n := 6) (Nat.le_of_ble_eq_true rfl)
  rw [lg_entry_eq]
  generalize (lg_sl ([.ref (aa 0), .int x1]) ++ List.replicate (6 - (lg_sl ([.ref (aa 0), .int x1])).length) Slot.unset).toArray = ls at hl ⊢
  have hl : lv_has ls 6 [(0, .ref (aa 0)), (1, .int x1)] := hl
  have F : tF p s m ([.ref (aa 0), .int x1] : List Value).toArray meth c G cA A RX8 cX8_valueOf 6 (some .long) := ⟨hx, hb, hr, hml, hT, hown, hlocks, hK, hN, hA⟩
  obtain ⟨H, hH⟩ : ∃ z, z = s.heap := ⟨_, rfl⟩
  rw [← hH] at hP
  have hS : va_S A s.heap H [] := by rw [hH]; exact hS
  suffices hgo : G_X8_valueOf p l e s m below meth c G cA A aa L x1 r0 S' H [] (F0 m 0 ls []) by rw [hH] at hgo; exact hgo
  generalize ([] : List Loc) = locs at hS ⊢
  unfold f_X8_valueOf at h
  refine lv_aload_n hx hb dX8_valueOf_0 rfl (lv_at hl 0 rfl) ?_
  refine va_get (D := G) (ci := 8) (v := .ref (aa 39)) (C := RX8) (T := TX8) (N := 91) hx hb hT ku_8 hown hK hP 0 rfl rfl 38 (by decide) (hT _ kw_10_6) (fun _ h9 => h9) rfl dX8_valueOf_1 ?_
  refine lv_iload_n hx hb dX8_valueOf_4 rfl (lv_at hl 1 rfl) ?_
  obtain ⟨g1, h⟩ := tx_ck h
  refine va_iald (i := x1) hx hb hK hP 20 0 rfl rfl (tx_in g1) dX8_valueOf_5 ?_
  refine lv_if_ne (tgt := 17) hx hb dX8_valueOf_6 (by decide) (fun c2 => ?_) (fun c2 => ?_)
  · have h := tx_neg c2 h
    refine lv_aload_n hx hb dX8_valueOf_17 rfl (lv_at hl 0 rfl) ?_
    refine va_get (D := G) (ci := 8) (v := .ref (aa 39)) (C := RX8) (T := TX8) (N := 91) hx hb hT ku_8 hown hK hP 0 rfl rfl 38 (by decide) (hT _ kw_10_6) (fun _ h9 => h9) rfl dX8_valueOf_18 ?_
    refine lv_iload_n hx hb dX8_valueOf_21 rfl (lv_at hl 1 rfl) ?_
    refine va_iald (i := x1) hx hb hK hP 20 0 rfl rfl (tx_in g1) dX8_valueOf_22 ?_
    refine lv_iconst (v := 1) hx hb dX8_valueOf_23 (by decide) ?_
    refine lv_icmp_ne (tgt := 39) hx hb dX8_valueOf_24 (by decide) (fun c3 => ?_) (fun c3 => ?_)
    · have h := tx_neg c3 h
      refine lv_aload_n hx hb dX8_valueOf_39 rfl (lv_at hl 0 rfl) ?_
      refine va_get (D := G) (ci := 8) (v := .ref (aa 51)) (C := RX8) (T := TX8) (N := 91) hx hb hT ku_8 hown hK hP 0 rfl rfl 50 (by decide) (hT _ kw_10_12) (fun _ h9 => h9) rfl dX8_valueOf_40 ?_
      refine lv_aload_n hx hb dX8_valueOf_43 rfl (lv_at hl 0 rfl) ?_
      refine va_get (D := G) (ci := 8) (v := .ref (aa 40)) (C := RX8) (T := TX8) (N := 91) hx hb hT ku_8 hown hK hP 0 rfl rfl 39 (by decide) (hT _ kw_10_7) (fun _ h9 => h9) rfl dX8_valueOf_44 ?_
      refine lv_iload_n hx hb dX8_valueOf_47 rfl (lv_at hl 1 rfl) ?_
      refine va_iald (i := x1) hx hb hK hP 21 0 rfl rfl (tx_in g1) dX8_valueOf_48 ?_
      obtain ⟨g4, h⟩ := tx_ck h
      refine va_lald (i := (S 40 x1.toNatClampNeg)) hx hb hK hP 26 2 rfl rfl (tx_in g4) dX8_valueOf_49 ?_
      refine lv_topl (fun y5 ey5 => ?_)
      have h := tx_let ey5 h
      refine lv_lstore_n (lv' := [(2, .long y5), (0, .ref (aa 0)), (1, .int x1)]) hx hb dX8_valueOf_50 rfl hl (by decide) rfl (fun ls hl => ?_)
      refine lv_aload_n hx hb dX8_valueOf_51 rfl (lv_at hl 1 rfl) ?_
      refine va_get (D := G) (ci := 8) (v := .ref (aa 39)) (C := RX8) (T := TX8) (N := 91) hx hb hT ku_8 hown hK hP 0 rfl rfl 38 (by decide) (hT _ kw_10_6) (fun _ h9 => h9) rfl dX8_valueOf_52 ?_
      refine lv_iload_n hx hb dX8_valueOf_55 rfl (lv_at hl 2 rfl) ?_
      refine va_iald (i := x1) hx hb hK hP 20 0 rfl rfl (tx_in g1) dX8_valueOf_56 ?_
      refine lv_iconst (v := 2) hx hb dX8_valueOf_57 (by decide) ?_
      refine lv_icmp_ne (tgt := 73) hx hb dX8_valueOf_58 (by decide) (fun c6 => ?_) (fun c6 => ?_)
      · have h := tx_neg c6 h
        refine lv_aload_n hx hb dX8_valueOf_73 rfl (lv_at hl 1 rfl) ?_
        refine va_get (D := G) (ci := 8) (v := .ref (aa 51)) (C := RX8) (T := TX8) (N := 91) hx hb hT ku_8 hown hK hP 0 rfl rfl 50 (by decide) (hT _ kw_10_12) (fun _ h9 => h9) rfl dX8_valueOf_74 ?_
        refine lv_aload_n hx hb dX8_valueOf_77 rfl (lv_at hl 1 rfl) ?_
        refine va_get (D := G) (ci := 8) (v := .ref (aa 41)) (C := RX8) (T := TX8) (N := 91) hx hb hT ku_8 hown hK hP 0 rfl rfl 40 (by decide) (hT _ kw_10_8) (fun _ h9 => h9) rfl dX8_valueOf_78 ?_
        refine lv_iload_n hx hb dX8_valueOf_81 rfl (lv_at hl 2 rfl) ?_
        refine va_iald (i := x1) hx hb hK hP 22 0 rfl rfl (tx_in g1) dX8_valueOf_82 ?_
        obtain ⟨g7, h⟩ := tx_ck h
        refine va_lald (i := (S 41 x1.toNatClampNeg)) hx hb hK hP 26 2 rfl rfl (tx_in g7) dX8_valueOf_83 ?_
        refine lv_topl (fun y8 ey8 => ?_)
        have h := tx_let ey8 h
        refine lv_lstore (lv' := [(4, .long y8), (2, .long y5), (0, .ref (aa 0)), (1, .int x1)]) hx hb dX8_valueOf_84 hl (by decide) rfl (fun ls hl => ?_)
        refine lv_aload_n hx hb dX8_valueOf_86 rfl (lv_at hl 2 rfl) ?_
        refine va_get (D := G) (ci := 8) (v := .ref (aa 39)) (C := RX8) (T := TX8) (N := 91) hx hb hT ku_8 hown hK hP 0 rfl rfl 38 (by decide) (hT _ kw_10_6) (fun _ h9 => h9) rfl dX8_valueOf_87 ?_
        refine lv_iload_n hx hb dX8_valueOf_90 rfl (lv_at hl 3 rfl) ?_
        refine va_iald (i := x1) hx hb hK hP 20 0 rfl rfl (tx_in g1) dX8_valueOf_91 ?_
        refine lv_topi (fun y9 ey9 => ?_)
        have h := tx_let ey9 h
        by_cases c10 : y9 = 3
        · have h := tx_pos c10 h
          refine lv_tableIn (off := 64) (tgt := 162) hx hb dX8_valueOf_92 (by rw [c10]; decide) (by rw [c10]; decide) (by rw [c10]; decide) (by decide) ?_
          refine lv_lload_n hx hb dX8_valueOf_156 rfl (lv_at hl 1 rfl) ?_
          refine lv_lconst (v := 0) hx hb dX8_valueOf_157 (by decide) ?_
          refine W.lcmp hx hb dX8_valueOf_158 ?_
          refine lv_if_eq (tgt := 173) hx hb dX8_valueOf_159 (by decide) (fun c11 => ?_) (fun c11 => ?_)
          · have h := tx_pos c11 h
            refine lv_lconst (v := 0) hx hb dX8_valueOf_173 (by decide) ?_
            obtain ⟨rfl, rfl⟩ := tx_2 h
            exact W.lret hx hb hr (fun t ht hW => ⟨⟨_, (), rfl, rfl, by rw [ht]; exact hP, hD⟩, hS.F ht⟩) hS.2.2 dX8_valueOf_174
          · have h := tx_neg c11 h
            refine lv_lload hx hb dX8_valueOf_162 (lv_at hl 0 rfl) ?_
            refine lv_lconst (v := 0) hx hb dX8_valueOf_164 (by decide) ?_
            refine W.lcmp hx hb dX8_valueOf_165 ?_
            refine lv_if_eq (tgt := 173) hx hb dX8_valueOf_166 (by decide) (fun c12 => ?_) (fun c12 => ?_)
            · have h := tx_pos c12 h
              refine lv_lconst (v := 0) hx hb dX8_valueOf_173 (by decide) ?_
              obtain ⟨rfl, rfl⟩ := tx_2 h
              exact W.lret hx hb hr (fun t ht hW => ⟨⟨_, (), rfl, rfl, by rw [ht]; exact hP, hD⟩, hS.F ht⟩) hS.2.2 dX8_valueOf_174
            · have h := tx_neg c12 h
              refine lv_lconst (v := 1) hx hb dX8_valueOf_169 (by decide) ?_
              refine lv_goto (tgt := 174) hx hb dX8_valueOf_170 (by decide) ?_
              obtain ⟨rfl, rfl⟩ := tx_2 h
              exact W.lret hx hb hr (fun t ht hW => ⟨⟨_, (), rfl, rfl, by rw [ht]; exact hP, hD⟩, hS.F ht⟩) hS.2.2 dX8_valueOf_174
        · have h := tx_neg c10 h
          by_cases c13 : y9 = 4
          · have h := tx_pos c13 h
            refine lv_tableIn (off := 83) (tgt := 181) hx hb dX8_valueOf_92 (by rw [c13]; decide) (by rw [c13]; decide) (by rw [c13]; decide) (by decide) ?_
            refine lv_lload_n hx hb dX8_valueOf_175 rfl (lv_at hl 1 rfl) ?_
            refine lv_lconst (v := 0) hx hb dX8_valueOf_176 (by decide) ?_
            refine W.lcmp hx hb dX8_valueOf_177 ?_
            refine lv_if_ne (tgt := 188) hx hb dX8_valueOf_178 (by decide) (fun c14 => ?_) (fun c14 => ?_)
            · have h := tx_neg c14 h
              refine lv_lconst (v := 1) hx hb dX8_valueOf_188 (by decide) ?_
              refine lv_goto (tgt := 193) hx hb dX8_valueOf_189 (by decide) ?_
              obtain ⟨rfl, rfl⟩ := tx_2 h
              exact W.lret hx hb hr (fun t ht hW => ⟨⟨_, (), rfl, rfl, by rw [ht]; exact hP, hD⟩, hS.F ht⟩) hS.2.2 dX8_valueOf_193
            · have h := tx_pos c14 h
              refine lv_lload hx hb dX8_valueOf_181 (lv_at hl 0 rfl) ?_
              refine lv_lconst (v := 0) hx hb dX8_valueOf_183 (by decide) ?_
              refine W.lcmp hx hb dX8_valueOf_184 ?_
              refine lv_if_eq (tgt := 192) hx hb dX8_valueOf_185 (by decide) (fun c15 => ?_) (fun c15 => ?_)
              · have h := tx_pos c15 h
                refine lv_lconst (v := 0) hx hb dX8_valueOf_192 (by decide) ?_
                obtain ⟨rfl, rfl⟩ := tx_2 h
                exact W.lret hx hb hr (fun t ht hW => ⟨⟨_, (), rfl, rfl, by rw [ht]; exact hP, hD⟩, hS.F ht⟩) hS.2.2 dX8_valueOf_193
              · have h := tx_neg c15 h
                refine lv_lconst (v := 1) hx hb dX8_valueOf_188 (by decide) ?_
                refine lv_goto (tgt := 193) hx hb dX8_valueOf_189 (by decide) ?_
                obtain ⟨rfl, rfl⟩ := tx_2 h
                exact W.lret hx hb hr (fun t ht hW => ⟨⟨_, (), rfl, rfl, by rw [ht]; exact hP, hD⟩, hS.F ht⟩) hS.2.2 dX8_valueOf_193
          · have h := tx_neg c13 h
            by_cases c16 : y9 = 11
            · have h := tx_pos c16 h
              refine lv_tableIn (off := 102) (tgt := 203) hx hb dX8_valueOf_92 (by rw [c16]; decide) (by rw [c16]; decide) (by rw [c16]; decide) (by decide) ?_
              refine lv_aload_n hx hb dX8_valueOf_194 rfl (lv_at hl 2 rfl) ?_
              refine lv_lload_n hx hb dX8_valueOf_195 rfl (lv_at hl 1 rfl) ?_
              refine lv_lload hx hb dX8_valueOf_196 (lv_at hl 0 rfl) ?_
              refine lv_ladd hx hb dX8_valueOf_198 ?_
              obtain ⟨⟨r17, S_18⟩, hc19, h⟩ := tx_bd h
              replace h := tx_let (y := r17) rfl h
              replace h := tx_let (y := S_18) rfl h
              refine tw_cl tw_all hP hD hS hA (va_runV (As := [.long (y5 + y8)]) (rest := []) ⟨hx, hb, hml, hown, hT⟩ (c_X8_bounded l G cA H.size aa S L (y5 + y8)  r17 S_18 hc19) (cwV 1 hT (tq_gV kw_35_3 kw_35_4 kw_35_5 kw_1_5 kw_35_6) rfl rfl rfl (by decide +kernel) ⟨Nat.le_of_ble_eq_true rfl, Nat.le_of_ble_eq_true rfl⟩) ⟨(tw_pre tw_all hP hD hK hN).1, va_recv hK hP (ci := 8) (q0 := 0) rfl rfl, (tw_pre tw_all hP hD hK hN).2⟩ rfl rfl hl.1 rfl (lv_room (Nat.le_of_ble_eq_true rfl)) dX8_valueOf_199 ⟨Nat.le_of_ble_eq_true rfl, Nat.le_of_ble_eq_true rfl⟩) (fun _ _ H locs z20 hP hD hS => ?_)
              subst z20
              rw [List.append_nil] at hP hD
              have hP : va_P G vwCl (wM cA aa S_18 L) H := hP
              have hD : va_D A (wM cA aa S_18 L) := hD
              obtain ⟨rfl, rfl⟩ := tx_2 h
              exact W.lret hx hb hr (fun t ht hW => ⟨⟨_, (), rfl, rfl, by rw [ht]; exact hP, hD⟩, hS.F ht⟩) hS.2.2 dX8_valueOf_202
            · have h := tx_neg c16 h
              by_cases c21 : y9 = 12
              · have h := tx_pos c21 h
                refine lv_tableIn (off := 111) (tgt := 212) hx hb dX8_valueOf_92 (by rw [c21]; decide) (by rw [c21]; decide) (by rw [c21]; decide) (by decide) ?_
                refine lv_aload_n hx hb dX8_valueOf_203 rfl (lv_at hl 2 rfl) ?_
                refine lv_lload_n hx hb dX8_valueOf_204 rfl (lv_at hl 1 rfl) ?_
                refine lv_lload hx hb dX8_valueOf_205 (lv_at hl 0 rfl) ?_
                refine lv_lsub hx hb dX8_valueOf_207 ?_
                obtain ⟨⟨r22, S_23⟩, hc24, h⟩ := tx_bd h
                replace h := tx_let (y := r22) rfl h
                replace h := tx_let (y := S_23) rfl h
                refine tw_cl tw_all hP hD hS hA (va_runV (As := [.long (y5 - y8)]) (rest := []) ⟨hx, hb, hml, hown, hT⟩ (c_X8_bounded l G cA H.size aa S L (y5 - y8)  r22 S_23 hc24) (cwV 1 hT (tq_gV kw_35_3 kw_35_4 kw_35_5 kw_1_5 kw_35_6) rfl rfl rfl (by decide +kernel) ⟨Nat.le_of_ble_eq_true rfl, Nat.le_of_ble_eq_true rfl⟩) ⟨(tw_pre tw_all hP hD hK hN).1, va_recv hK hP (ci := 8) (q0 := 0) rfl rfl, (tw_pre tw_all hP hD hK hN).2⟩ rfl rfl hl.1 rfl (lv_room (Nat.le_of_ble_eq_true rfl)) dX8_valueOf_208 ⟨Nat.le_of_ble_eq_true rfl, Nat.le_of_ble_eq_true rfl⟩) (fun _ _ H locs z25 hP hD hS => ?_)
                subst z25
                rw [List.append_nil] at hP hD
                have hP : va_P G vwCl (wM cA aa S_23 L) H := hP
                have hD : va_D A (wM cA aa S_23 L) := hD
                obtain ⟨rfl, rfl⟩ := tx_2 h
                exact W.lret hx hb hr (fun t ht hW => ⟨⟨_, (), rfl, rfl, by rw [ht]; exact hP, hD⟩, hS.F ht⟩) hS.2.2 dX8_valueOf_211
              · have h := tx_neg c21 h
                by_cases c26 : y9 = 13
                · have h := tx_pos c26 h
                  refine lv_tableIn (off := 120) (tgt := 220) hx hb dX8_valueOf_92 (by rw [c26]; decide) (by rw [c26]; decide) (by rw [c26]; decide) (by decide) ?_
                  refine lv_aload_n hx hb dX8_valueOf_212 rfl (lv_at hl 2 rfl) ?_
                  refine lv_lload_n hx hb dX8_valueOf_213 rfl (lv_at hl 1 rfl) ?_
                  refine lv_lload hx hb dX8_valueOf_214 (lv_at hl 0 rfl) ?_
                  obtain ⟨⟨r27, S_28⟩, hc29, h⟩ := tx_bd h
                  replace h := tx_let (y := r27) rfl h
                  replace h := tx_let (y := S_28) rfl h
                  refine tw_cl tw_all hP hD hS hA (va_runV (As := [.long y5, .long y8]) (rest := []) ⟨hx, hb, hml, hown, hT⟩ (c_X8_times l G cA H.size aa S L y5 y8  r27 S_28 hc29) (cwV 2 hT (tq_gV kw_35_9 kw_35_10 kw_35_11 kw_1_5 kw_35_12) rfl rfl rfl (by decide +kernel) ⟨Nat.le_of_ble_eq_true rfl, Nat.le_of_ble_eq_true rfl⟩) ⟨(tw_pre tw_all hP hD hK hN).1, va_recv hK hP (ci := 8) (q0 := 0) rfl rfl, (tw_pre tw_all hP hD hK hN).2⟩ rfl rfl hl.1 rfl (lv_room (Nat.le_of_ble_eq_true rfl)) dX8_valueOf_216 ⟨Nat.le_of_ble_eq_true rfl, Nat.le_of_ble_eq_true rfl⟩) (fun _ _ H locs z30 hP hD hS => ?_)
                  subst z30
                  rw [List.append_nil] at hP hD
                  have hP : va_P G vwCl (wM cA aa S_28 L) H := hP
                  have hD : va_D A (wM cA aa S_28 L) := hD
                  obtain ⟨rfl, rfl⟩ := tx_2 h
                  exact W.lret hx hb hr (fun t ht hW => ⟨⟨_, (), rfl, rfl, by rw [ht]; exact hP, hD⟩, hS.F ht⟩) hS.2.2 dX8_valueOf_219
                · have h := tx_neg c26 h
                  by_cases c31 : y9 = 14
                  · have h := tx_pos c31 h
                    refine lv_tableIn (off := 128) (tgt := 228) hx hb dX8_valueOf_92 (by rw [c31]; decide) (by rw [c31]; decide) (by rw [c31]; decide) (by decide) ?_
                    refine lv_aload_n hx hb dX8_valueOf_220 rfl (lv_at hl 2 rfl) ?_
                    refine lv_aload_n hx hb dX8_valueOf_221 rfl (lv_at hl 2 rfl) ?_
                    refine va_get (D := G) (ci := 8) (v := .int (S 0 51)) (C := RX8) (T := TX8) (N := 91) hx hb hT ku_8 hown hK hP 0 rfl rfl 51 (by decide) (hT _ kw_34_10) (fun _ h9 => h9) rfl dX8_valueOf_222 ?_
                    refine lv_if_ne (tgt := 235) hx hb dX8_valueOf_225 (by decide) (fun c32 => ?_) (fun c32 => ?_)
                    · have h := tx_neg c32 h
                      exact w_X8_valueOf_J235 F y5 y8 S H locs ls h hP hD hS (lv_sub hl [2, 1, 0] rfl)
                    · have h := tx_pos c32 h
                      refine lv_lload hx hb dX8_valueOf_228 (lv_at hl 0 rfl) ?_
                      refine lv_lconst (v := 0) hx hb dX8_valueOf_230 (by decide) ?_
                      refine W.lcmp hx hb dX8_valueOf_231 ?_
                      refine lv_if_ne (tgt := 239) hx hb dX8_valueOf_232 (by decide) (fun c37 => ?_) (fun c37 => ?_)
                      · have h := tx_neg c37 h
                        refine lv_iconst (v := 0) hx hb dX8_valueOf_239 (by decide) ?_
                        exact w_X8_valueOf_J240 F y5 y8 0 S H locs ls h hP hD hS (lv_sub hl [2, 1, 0] rfl)
                      · have h := tx_pos c37 h
                        exact w_X8_valueOf_J235 F y5 y8 S H locs ls h hP hD hS (lv_sub hl [2, 1, 0] rfl)
                  · have h := tx_neg c31 h
                    have kc10 := tq_eqn (a := y9.toInt) (b := 3) rfl (by decide) c10
                    have kc13 := tq_eqn (a := y9.toInt) (b := 4) rfl (by decide) c13
                    have kc16 := tq_eqn (a := y9.toInt) (b := 11) rfl (by decide) c16
                    have kc21 := tq_eqn (a := y9.toInt) (b := 12) rfl (by decide) c21
                    have kc26 := tq_eqn (a := y9.toInt) (b := 13) rfl (by decide) c26
                    have kc31 := tq_eqn (a := y9.toInt) (b := 14) rfl (by decide) c31
                    rcases (show (y9.toInt < 3 ∨ 14 < y9.toInt) ∨ y9.toInt = 5 ∨ y9.toInt = 6 ∨ y9.toInt = 7 ∨ y9.toInt = 8 ∨ y9.toInt = 9 ∨ y9.toInt = 10 by omega) with k42 | k42 | k42 | k42 | k42 | k42 | k42
                    · refine lv_tableOut (tgt := 259) hx hb dX8_valueOf_92 k42 (by decide) ?_
                      refine lv_aload_n hx hb dX8_valueOf_259 rfl (lv_at hl 2 rfl) ?_
                      refine va_get (D := G) (ci := 8) (v := .ref (aa 39)) (C := RX8) (T := TX8) (N := 91) hx hb hT ku_8 hown hK hP 0 rfl rfl 38 (by decide) (hT _ kw_10_6) (fun _ h9 => h9) rfl dX8_valueOf_260 ?_
                      refine lv_iload_n hx hb dX8_valueOf_263 rfl (lv_at hl 3 rfl) ?_
                      refine va_iald (i := x1) hx hb hK hP 20 0 rfl rfl (tx_in g1) dX8_valueOf_264 ?_
                      refine lv_lload_n hx hb dX8_valueOf_265 rfl (lv_at hl 1 rfl) ?_
                      refine lv_lload hx hb dX8_valueOf_266 (lv_at hl 0 rfl) ?_
                      obtain ⟨r38, hc39, h⟩ := tx_bd h
                      refine tw_ci (tw_none (ws := wM cA aa S L)) hP hD hS hA (va_runS (As := [.int (S 39 x1.toNatClampNeg), .long y5, .long y8]) (rest := []) ⟨hx, hb, hml, hown, hT⟩ (c_X8_compares l G cA H.size (S 39 x1.toNatClampNeg) y5 y8  r38 hc39) (va_cwS 3 hT (tq_gS kw_35_13 kw_35_14 kw_1_5 kw_35_15) rfl rfl rfl (by decide +kernel) ⟨Nat.le_of_ble_eq_true rfl, Nat.le_of_ble_eq_true rfl⟩) (tw_pre (tw_none (ws := wM cA aa S L)) hP hD hK hN) rfl rfl hl.1 rfl (lv_room (Nat.le_of_ble_eq_true rfl)) dX8_valueOf_268 ⟨Nat.le_of_ble_eq_true rfl, Nat.le_of_ble_eq_true rfl⟩) (fun _ _ H locs z40 hP hD hS => ?_)
                      subst z40
                      have hP : va_P G vwCl (wM cA aa S L) H := hP
                      have hD : va_D A (wM cA aa S L) := hD
                      refine lv_if_eq (tgt := 278) hx hb dX8_valueOf_271 (by decide) (fun c41 => ?_) (fun c41 => ?_)
                      · have h := tx_pos c41 h
                        refine lv_lconst (v := 0) hx hb dX8_valueOf_278 (by decide) ?_
                        obtain ⟨rfl, rfl⟩ := tx_2 h
                        exact W.lret hx hb hr (fun t ht hW => ⟨⟨_, (), rfl, rfl, by rw [ht]; exact hP, hD⟩, hS.F ht⟩) hS.2.2 dX8_valueOf_279
                      · have h := tx_neg c41 h
                        refine lv_lconst (v := 1) hx hb dX8_valueOf_274 (by decide) ?_
                        refine lv_goto (tgt := 279) hx hb dX8_valueOf_275 (by decide) ?_
                        obtain ⟨rfl, rfl⟩ := tx_2 h
                        exact W.lret hx hb hr (fun t ht hW => ⟨⟨_, (), rfl, rfl, by rw [ht]; exact hP, hD⟩, hS.F ht⟩) hS.2.2 dX8_valueOf_279
                    · refine lv_tableIn (off := 167) (tgt := 259) hx hb dX8_valueOf_92 (by omega) (by omega) (by rw [k42]; rfl) (by decide) ?_
                      refine lv_aload_n hx hb dX8_valueOf_259 rfl (lv_at hl 2 rfl) ?_
                      refine va_get (D := G) (ci := 8) (v := .ref (aa 39)) (C := RX8) (T := TX8) (N := 91) hx hb hT ku_8 hown hK hP 0 rfl rfl 38 (by decide) (hT _ kw_10_6) (fun _ h9 => h9) rfl dX8_valueOf_260 ?_
                      refine lv_iload_n hx hb dX8_valueOf_263 rfl (lv_at hl 3 rfl) ?_
                      refine va_iald (i := x1) hx hb hK hP 20 0 rfl rfl (tx_in g1) dX8_valueOf_264 ?_
                      refine lv_lload_n hx hb dX8_valueOf_265 rfl (lv_at hl 1 rfl) ?_
                      refine lv_lload hx hb dX8_valueOf_266 (lv_at hl 0 rfl) ?_
                      obtain ⟨r38, hc39, h⟩ := tx_bd h
                      refine tw_ci (tw_none (ws := wM cA aa S L)) hP hD hS hA (va_runS (As := [.int (S 39 x1.toNatClampNeg), .long y5, .long y8]) (rest := []) ⟨hx, hb, hml, hown, hT⟩ (c_X8_compares l G cA H.size (S 39 x1.toNatClampNeg) y5 y8  r38 hc39) (va_cwS 3 hT (tq_gS kw_35_13 kw_35_14 kw_1_5 kw_35_15) rfl rfl rfl (by decide +kernel) ⟨Nat.le_of_ble_eq_true rfl, Nat.le_of_ble_eq_true rfl⟩) (tw_pre (tw_none (ws := wM cA aa S L)) hP hD hK hN) rfl rfl hl.1 rfl (lv_room (Nat.le_of_ble_eq_true rfl)) dX8_valueOf_268 ⟨Nat.le_of_ble_eq_true rfl, Nat.le_of_ble_eq_true rfl⟩) (fun _ _ H locs z40 hP hD hS => ?_)
                      subst z40
                      have hP : va_P G vwCl (wM cA aa S L) H := hP
                      have hD : va_D A (wM cA aa S L) := hD
                      refine lv_if_eq (tgt := 278) hx hb dX8_valueOf_271 (by decide) (fun c41 => ?_) (fun c41 => ?_)
                      · have h := tx_pos c41 h
                        refine lv_lconst (v := 0) hx hb dX8_valueOf_278 (by decide) ?_
                        obtain ⟨rfl, rfl⟩ := tx_2 h
                        exact W.lret hx hb hr (fun t ht hW => ⟨⟨_, (), rfl, rfl, by rw [ht]; exact hP, hD⟩, hS.F ht⟩) hS.2.2 dX8_valueOf_279
                      · have h := tx_neg c41 h
                        refine lv_lconst (v := 1) hx hb dX8_valueOf_274 (by decide) ?_
                        refine lv_goto (tgt := 279) hx hb dX8_valueOf_275 (by decide) ?_
                        obtain ⟨rfl, rfl⟩ := tx_2 h
                        exact W.lret hx hb hr (fun t ht hW => ⟨⟨_, (), rfl, rfl, by rw [ht]; exact hP, hD⟩, hS.F ht⟩) hS.2.2 dX8_valueOf_279
                    · refine lv_tableIn (off := 167) (tgt := 259) hx hb dX8_valueOf_92 (by omega) (by omega) (by rw [k42]; rfl) (by decide) ?_
                      refine lv_aload_n hx hb dX8_valueOf_259 rfl (lv_at hl 2 rfl) ?_
                      refine va_get (D := G) (ci := 8) (v := .ref (aa 39)) (C := RX8) (T := TX8) (N := 91) hx hb hT ku_8 hown hK hP 0 rfl rfl 38 (by decide) (hT _ kw_10_6) (fun _ h9 => h9) rfl dX8_valueOf_260 ?_
                      refine lv_iload_n hx hb dX8_valueOf_263 rfl (lv_at hl 3 rfl) ?_
                      refine va_iald (i := x1) hx hb hK hP 20 0 rfl rfl (tx_in g1) dX8_valueOf_264 ?_
                      refine lv_lload_n hx hb dX8_valueOf_265 rfl (lv_at hl 1 rfl) ?_
                      refine lv_lload hx hb dX8_valueOf_266 (lv_at hl 0 rfl) ?_
                      obtain ⟨r38, hc39, h⟩ := tx_bd h
                      refine tw_ci (tw_none (ws := wM cA aa S L)) hP hD hS hA (va_runS (As := [.int (S 39 x1.toNatClampNeg), .long y5, .long y8]) (rest := []) ⟨hx, hb, hml, hown, hT⟩ (c_X8_compares l G cA H.size (S 39 x1.toNatClampNeg) y5 y8  r38 hc39) (va_cwS 3 hT (tq_gS kw_35_13 kw_35_14 kw_1_5 kw_35_15) rfl rfl rfl (by decide +kernel) ⟨Nat.le_of_ble_eq_true rfl, Nat.le_of_ble_eq_true rfl⟩) (tw_pre (tw_none (ws := wM cA aa S L)) hP hD hK hN) rfl rfl hl.1 rfl (lv_room (Nat.le_of_ble_eq_true rfl)) dX8_valueOf_268 ⟨Nat.le_of_ble_eq_true rfl, Nat.le_of_ble_eq_true rfl⟩) (fun _ _ H locs z40 hP hD hS => ?_)
                      subst z40
                      have hP : va_P G vwCl (wM cA aa S L) H := hP
                      have hD : va_D A (wM cA aa S L) := hD
                      refine lv_if_eq (tgt := 278) hx hb dX8_valueOf_271 (by decide) (fun c41 => ?_) (fun c41 => ?_)
                      · have h := tx_pos c41 h
                        refine lv_lconst (v := 0) hx hb dX8_valueOf_278 (by decide) ?_
                        obtain ⟨rfl, rfl⟩ := tx_2 h
                        exact W.lret hx hb hr (fun t ht hW => ⟨⟨_, (), rfl, rfl, by rw [ht]; exact hP, hD⟩, hS.F ht⟩) hS.2.2 dX8_valueOf_279
                      · have h := tx_neg c41 h
                        refine lv_lconst (v := 1) hx hb dX8_valueOf_274 (by decide) ?_
                        refine lv_goto (tgt := 279) hx hb dX8_valueOf_275 (by decide) ?_
                        obtain ⟨rfl, rfl⟩ := tx_2 h
                        exact W.lret hx hb hr (fun t ht hW => ⟨⟨_, (), rfl, rfl, by rw [ht]; exact hP, hD⟩, hS.F ht⟩) hS.2.2 dX8_valueOf_279
                    · refine lv_tableIn (off := 167) (tgt := 259) hx hb dX8_valueOf_92 (by omega) (by omega) (by rw [k42]; rfl) (by decide) ?_
                      refine lv_aload_n hx hb dX8_valueOf_259 rfl (lv_at hl 2 rfl) ?_
                      refine va_get (D := G) (ci := 8) (v := .ref (aa 39)) (C := RX8) (T := TX8) (N := 91) hx hb hT ku_8 hown hK hP 0 rfl rfl 38 (by decide) (hT _ kw_10_6) (fun _ h9 => h9) rfl dX8_valueOf_260 ?_
                      refine lv_iload_n hx hb dX8_valueOf_263 rfl (lv_at hl 3 rfl) ?_
                      refine va_iald (i := x1) hx hb hK hP 20 0 rfl rfl (tx_in g1) dX8_valueOf_264 ?_
                      refine lv_lload_n hx hb dX8_valueOf_265 rfl (lv_at hl 1 rfl) ?_
                      refine lv_lload hx hb dX8_valueOf_266 (lv_at hl 0 rfl) ?_
                      obtain ⟨r38, hc39, h⟩ := tx_bd h
                      refine tw_ci (tw_none (ws := wM cA aa S L)) hP hD hS hA (va_runS (As := [.int (S 39 x1.toNatClampNeg), .long y5, .long y8]) (rest := []) ⟨hx, hb, hml, hown, hT⟩ (c_X8_compares l G cA H.size (S 39 x1.toNatClampNeg) y5 y8  r38 hc39) (va_cwS 3 hT (tq_gS kw_35_13 kw_35_14 kw_1_5 kw_35_15) rfl rfl rfl (by decide +kernel) ⟨Nat.le_of_ble_eq_true rfl, Nat.le_of_ble_eq_true rfl⟩) (tw_pre (tw_none (ws := wM cA aa S L)) hP hD hK hN) rfl rfl hl.1 rfl (lv_room (Nat.le_of_ble_eq_true rfl)) dX8_valueOf_268 ⟨Nat.le_of_ble_eq_true rfl, Nat.le_of_ble_eq_true rfl⟩) (fun _ _ H locs z40 hP hD hS => ?_)
                      subst z40
                      have hP : va_P G vwCl (wM cA aa S L) H := hP
                      have hD : va_D A (wM cA aa S L) := hD
                      refine lv_if_eq (tgt := 278) hx hb dX8_valueOf_271 (by decide) (fun c41 => ?_) (fun c41 => ?_)
                      · have h := tx_pos c41 h
                        refine lv_lconst (v := 0) hx hb dX8_valueOf_278 (by decide) ?_
                        obtain ⟨rfl, rfl⟩ := tx_2 h
                        exact W.lret hx hb hr (fun t ht hW => ⟨⟨_, (), rfl, rfl, by rw [ht]; exact hP, hD⟩, hS.F ht⟩) hS.2.2 dX8_valueOf_279
                      · have h := tx_neg c41 h
                        refine lv_lconst (v := 1) hx hb dX8_valueOf_274 (by decide) ?_
                        refine lv_goto (tgt := 279) hx hb dX8_valueOf_275 (by decide) ?_
                        obtain ⟨rfl, rfl⟩ := tx_2 h
                        exact W.lret hx hb hr (fun t ht hW => ⟨⟨_, (), rfl, rfl, by rw [ht]; exact hP, hD⟩, hS.F ht⟩) hS.2.2 dX8_valueOf_279
                    · refine lv_tableIn (off := 167) (tgt := 259) hx hb dX8_valueOf_92 (by omega) (by omega) (by rw [k42]; rfl) (by decide) ?_
                      refine lv_aload_n hx hb dX8_valueOf_259 rfl (lv_at hl 2 rfl) ?_
                      refine va_get (D := G) (ci := 8) (v := .ref (aa 39)) (C := RX8) (T := TX8) (N := 91) hx hb hT ku_8 hown hK hP 0 rfl rfl 38 (by decide) (hT _ kw_10_6) (fun _ h9 => h9) rfl dX8_valueOf_260 ?_
                      refine lv_iload_n hx hb dX8_valueOf_263 rfl (lv_at hl 3 rfl) ?_
                      refine va_iald (i := x1) hx hb hK hP 20 0 rfl rfl (tx_in g1) dX8_valueOf_264 ?_
                      refine lv_lload_n hx hb dX8_valueOf_265 rfl (lv_at hl 1 rfl) ?_
                      refine lv_lload hx hb dX8_valueOf_266 (lv_at hl 0 rfl) ?_
                      obtain ⟨r38, hc39, h⟩ := tx_bd h
                      refine tw_ci (tw_none (ws := wM cA aa S L)) hP hD hS hA (va_runS (As := [.int (S 39 x1.toNatClampNeg), .long y5, .long y8]) (rest := []) ⟨hx, hb, hml, hown, hT⟩ (c_X8_compares l G cA H.size (S 39 x1.toNatClampNeg) y5 y8  r38 hc39) (va_cwS 3 hT (tq_gS kw_35_13 kw_35_14 kw_1_5 kw_35_15) rfl rfl rfl (by decide +kernel) ⟨Nat.le_of_ble_eq_true rfl, Nat.le_of_ble_eq_true rfl⟩) (tw_pre (tw_none (ws := wM cA aa S L)) hP hD hK hN) rfl rfl hl.1 rfl (lv_room (Nat.le_of_ble_eq_true rfl)) dX8_valueOf_268 ⟨Nat.le_of_ble_eq_true rfl, Nat.le_of_ble_eq_true rfl⟩) (fun _ _ H locs z40 hP hD hS => ?_)
                      subst z40
                      have hP : va_P G vwCl (wM cA aa S L) H := hP
                      have hD : va_D A (wM cA aa S L) := hD
                      refine lv_if_eq (tgt := 278) hx hb dX8_valueOf_271 (by decide) (fun c41 => ?_) (fun c41 => ?_)
                      · have h := tx_pos c41 h
                        refine lv_lconst (v := 0) hx hb dX8_valueOf_278 (by decide) ?_
                        obtain ⟨rfl, rfl⟩ := tx_2 h
                        exact W.lret hx hb hr (fun t ht hW => ⟨⟨_, (), rfl, rfl, by rw [ht]; exact hP, hD⟩, hS.F ht⟩) hS.2.2 dX8_valueOf_279
                      · have h := tx_neg c41 h
                        refine lv_lconst (v := 1) hx hb dX8_valueOf_274 (by decide) ?_
                        refine lv_goto (tgt := 279) hx hb dX8_valueOf_275 (by decide) ?_
                        obtain ⟨rfl, rfl⟩ := tx_2 h
                        exact W.lret hx hb hr (fun t ht hW => ⟨⟨_, (), rfl, rfl, by rw [ht]; exact hP, hD⟩, hS.F ht⟩) hS.2.2 dX8_valueOf_279
                    · refine lv_tableIn (off := 167) (tgt := 259) hx hb dX8_valueOf_92 (by omega) (by omega) (by rw [k42]; rfl) (by decide) ?_
                      refine lv_aload_n hx hb dX8_valueOf_259 rfl (lv_at hl 2 rfl) ?_
                      refine va_get (D := G) (ci := 8) (v := .ref (aa 39)) (C := RX8) (T := TX8) (N := 91) hx hb hT ku_8 hown hK hP 0 rfl rfl 38 (by decide) (hT _ kw_10_6) (fun _ h9 => h9) rfl dX8_valueOf_260 ?_
                      refine lv_iload_n hx hb dX8_valueOf_263 rfl (lv_at hl 3 rfl) ?_
                      refine va_iald (i := x1) hx hb hK hP 20 0 rfl rfl (tx_in g1) dX8_valueOf_264 ?_
                      refine lv_lload_n hx hb dX8_valueOf_265 rfl (lv_at hl 1 rfl) ?_
                      refine lv_lload hx hb dX8_valueOf_266 (lv_at hl 0 rfl) ?_
                      obtain ⟨r38, hc39, h⟩ := tx_bd h
                      refine tw_ci (tw_none (ws := wM cA aa S L)) hP hD hS hA (va_runS (As := [.int (S 39 x1.toNatClampNeg), .long y5, .long y8]) (rest := []) ⟨hx, hb, hml, hown, hT⟩ (c_X8_compares l G cA H.size (S 39 x1.toNatClampNeg) y5 y8  r38 hc39) (va_cwS 3 hT (tq_gS kw_35_13 kw_35_14 kw_1_5 kw_35_15) rfl rfl rfl (by decide +kernel) ⟨Nat.le_of_ble_eq_true rfl, Nat.le_of_ble_eq_true rfl⟩) (tw_pre (tw_none (ws := wM cA aa S L)) hP hD hK hN) rfl rfl hl.1 rfl (lv_room (Nat.le_of_ble_eq_true rfl)) dX8_valueOf_268 ⟨Nat.le_of_ble_eq_true rfl, Nat.le_of_ble_eq_true rfl⟩) (fun _ _ H locs z40 hP hD hS => ?_)
                      subst z40
                      have hP : va_P G vwCl (wM cA aa S L) H := hP
                      have hD : va_D A (wM cA aa S L) := hD
                      refine lv_if_eq (tgt := 278) hx hb dX8_valueOf_271 (by decide) (fun c41 => ?_) (fun c41 => ?_)
                      · have h := tx_pos c41 h
                        refine lv_lconst (v := 0) hx hb dX8_valueOf_278 (by decide) ?_
                        obtain ⟨rfl, rfl⟩ := tx_2 h
                        exact W.lret hx hb hr (fun t ht hW => ⟨⟨_, (), rfl, rfl, by rw [ht]; exact hP, hD⟩, hS.F ht⟩) hS.2.2 dX8_valueOf_279
                      · have h := tx_neg c41 h
                        refine lv_lconst (v := 1) hx hb dX8_valueOf_274 (by decide) ?_
                        refine lv_goto (tgt := 279) hx hb dX8_valueOf_275 (by decide) ?_
                        obtain ⟨rfl, rfl⟩ := tx_2 h
                        exact W.lret hx hb hr (fun t ht hW => ⟨⟨_, (), rfl, rfl, by rw [ht]; exact hP, hD⟩, hS.F ht⟩) hS.2.2 dX8_valueOf_279
                    · refine lv_tableIn (off := 167) (tgt := 259) hx hb dX8_valueOf_92 (by omega) (by omega) (by rw [k42]; rfl) (by decide) ?_
                      refine lv_aload_n hx hb dX8_valueOf_259 rfl (lv_at hl 2 rfl) ?_
                      refine va_get (D := G) (ci := 8) (v := .ref (aa 39)) (C := RX8) (T := TX8) (N := 91) hx hb hT ku_8 hown hK hP 0 rfl rfl 38 (by decide) (hT _ kw_10_6) (fun _ h9 => h9) rfl dX8_valueOf_260 ?_
                      refine lv_iload_n hx hb dX8_valueOf_263 rfl (lv_at hl 3 rfl) ?_
                      refine va_iald (i := x1) hx hb hK hP 20 0 rfl rfl (tx_in g1) dX8_valueOf_264 ?_
                      refine lv_lload_n hx hb dX8_valueOf_265 rfl (lv_at hl 1 rfl) ?_
                      refine lv_lload hx hb dX8_valueOf_266 (lv_at hl 0 rfl) ?_
                      obtain ⟨r38, hc39, h⟩ := tx_bd h
                      refine tw_ci (tw_none (ws := wM cA aa S L)) hP hD hS hA (va_runS (As := [.int (S 39 x1.toNatClampNeg), .long y5, .long y8]) (rest := []) ⟨hx, hb, hml, hown, hT⟩ (c_X8_compares l G cA H.size (S 39 x1.toNatClampNeg) y5 y8  r38 hc39) (va_cwS 3 hT (tq_gS kw_35_13 kw_35_14 kw_1_5 kw_35_15) rfl rfl rfl (by decide +kernel) ⟨Nat.le_of_ble_eq_true rfl, Nat.le_of_ble_eq_true rfl⟩) (tw_pre (tw_none (ws := wM cA aa S L)) hP hD hK hN) rfl rfl hl.1 rfl (lv_room (Nat.le_of_ble_eq_true rfl)) dX8_valueOf_268 ⟨Nat.le_of_ble_eq_true rfl, Nat.le_of_ble_eq_true rfl⟩) (fun _ _ H locs z40 hP hD hS => ?_)
                      subst z40
                      have hP : va_P G vwCl (wM cA aa S L) H := hP
                      have hD : va_D A (wM cA aa S L) := hD
                      refine lv_if_eq (tgt := 278) hx hb dX8_valueOf_271 (by decide) (fun c41 => ?_) (fun c41 => ?_)
                      · have h := tx_pos c41 h
                        refine lv_lconst (v := 0) hx hb dX8_valueOf_278 (by decide) ?_
                        obtain ⟨rfl, rfl⟩ := tx_2 h
                        exact W.lret hx hb hr (fun t ht hW => ⟨⟨_, (), rfl, rfl, by rw [ht]; exact hP, hD⟩, hS.F ht⟩) hS.2.2 dX8_valueOf_279
                      · have h := tx_neg c41 h
                        refine lv_lconst (v := 1) hx hb dX8_valueOf_274 (by decide) ?_
                        refine lv_goto (tgt := 279) hx hb dX8_valueOf_275 (by decide) ?_
                        obtain ⟨rfl, rfl⟩ := tx_2 h
                        exact W.lret hx hb hr (fun t ht hW => ⟨⟨_, (), rfl, rfl, by rw [ht]; exact hP, hD⟩, hS.F ht⟩) hS.2.2 dX8_valueOf_279
      · have h := tx_pos c6 h
        refine lv_lload_n hx hb dX8_valueOf_61 rfl (lv_at hl 0 rfl) ?_
        refine lv_lconst (v := 0) hx hb dX8_valueOf_62 (by decide) ?_
        refine W.lcmp hx hb dX8_valueOf_63 ?_
        refine lv_if_ne (tgt := 71) hx hb dX8_valueOf_64 (by decide) (fun c43 => ?_) (fun c43 => ?_)
        · have h := tx_neg c43 h
          refine lv_lconst (v := 0) hx hb dX8_valueOf_71 (by decide) ?_
          obtain ⟨rfl, rfl⟩ := tx_2 h
          exact W.lret hx hb hr (fun t ht hW => ⟨⟨_, (), rfl, rfl, by rw [ht]; exact hP, hD⟩, hS.F ht⟩) hS.2.2 dX8_valueOf_72
        · have h := tx_pos c43 h
          refine lv_lconst (v := 1) hx hb dX8_valueOf_67 (by decide) ?_
          refine lv_goto (tgt := 72) hx hb dX8_valueOf_68 (by decide) ?_
          obtain ⟨rfl, rfl⟩ := tx_2 h
          exact W.lret hx hb hr (fun t ht hW => ⟨⟨_, (), rfl, rfl, by rw [ht]; exact hP, hD⟩, hS.F ht⟩) hS.2.2 dX8_valueOf_72
    · have h := tx_pos c3 h
      refine lv_aload_n hx hb dX8_valueOf_27 rfl (lv_at hl 0 rfl) ?_
      refine va_get (D := G) (ci := 8) (v := .ref (aa 50)) (C := RX8) (T := TX8) (N := 91) hx hb hT ku_8 hown hK hP 0 rfl rfl 49 (by decide) (hT _ kw_10_11) (fun _ h9 => h9) rfl dX8_valueOf_28 ?_
      refine lv_aload_n hx hb dX8_valueOf_31 rfl (lv_at hl 0 rfl) ?_
      refine va_get (D := G) (ci := 8) (v := .ref (aa 40)) (C := RX8) (T := TX8) (N := 91) hx hb hT ku_8 hown hK hP 0 rfl rfl 39 (by decide) (hT _ kw_10_7) (fun _ h9 => h9) rfl dX8_valueOf_32 ?_
      refine lv_iload_n hx hb dX8_valueOf_35 rfl (lv_at hl 1 rfl) ?_
      refine va_iald (i := x1) hx hb hK hP 21 0 rfl rfl (tx_in g1) dX8_valueOf_36 ?_
      obtain ⟨g44, h⟩ := tx_ck h
      refine va_lald (i := (S 40 x1.toNatClampNeg)) hx hb hK hP 25 2 rfl rfl (tx_in g44) dX8_valueOf_37 ?_
      obtain ⟨rfl, rfl⟩ := tx_2 h
      exact W.lret hx hb hr (fun t ht hW => ⟨⟨_, (), rfl, rfl, by rw [ht]; exact hP, hD⟩, hS.F ht⟩) hS.2.2 dX8_valueOf_38
  · have h := tx_pos c2 h
    refine lv_aload_n hx hb dX8_valueOf_9 rfl (lv_at hl 0 rfl) ?_
    refine va_get (D := G) (ci := 8) (v := .ref (aa 40)) (C := RX8) (T := TX8) (N := 91) hx hb hT ku_8 hown hK hP 0 rfl rfl 39 (by decide) (hT _ kw_10_7) (fun _ h9 => h9) rfl dX8_valueOf_10 ?_
    refine lv_iload_n hx hb dX8_valueOf_13 rfl (lv_at hl 1 rfl) ?_
    refine va_iald (i := x1) hx hb hK hP 21 0 rfl rfl (tx_in g1) dX8_valueOf_14 ?_
    refine lv_i2l hx hb dX8_valueOf_15 rfl ?_
    obtain ⟨rfl, rfl⟩ := tx_2 h
    exact W.lret hx hb hr (fun t ht hW => ⟨⟨_, (), rfl, rfl, by rw [ht]; exact hP, hD⟩, hS.F ht⟩) hS.2.2 dX8_valueOf_16
abbrev G_X8_lawOf (p : Program) (l : Launch) (e : Env) (s : State) (m : MethodId) (below : List Frame) (meth : Method) (c : Code) (G : va_G) (cA : Nat → ClassId) (A : Nat → Prop) (aa : Nat → Nat) (x1 : Int32) (r0 : Int64) (S' : Tr) (L' : Lo) (H : Heap) (locs : List Loc) (g : JFrame) : Prop := W p l e (headSpec (.code yX8_lawOf cX8_lawOf 3 (some .long) :: T0) ({ frames := 2, cells := 0, slots := 0, locals := 50 } : Room)).room s m ([.ref (aa 0), .int x1] : List Value).toArray below meth c H locs 0 0 (MQ below (tqQl G cA (fun (r : Int64) (_ : Unit) => r = r0) (fun (_ : Unit) => wM cA aa S' L') A) ([.ref (aa 0), .int x1] : List Value).toArray s 0 0 A) g
set_option maxHeartbeats 4000000 in
set_option maxRecDepth 100000 in
theorem w_X8_lawOf_J39 {p : Program} {l : Launch} {e : Env} {s : State} {m : MethodId} {below : List Frame} {meth : Method} {c : Code} {G : va_G} {cA : Nat → ClassId} {A : Nat → Prop} {aa : Nat → Nat} {x1₀ : Int32} {r0 : Int64} {S' : Tr} {L' : Lo} (F : tF p s m ([.ref (aa 0), .int x1₀] : List Value).toArray meth c G cA A RX8 cX8_lawOf 3 (some .long))    (x1 : Int32) (S : Tr) (L : Lo) (H : Heap) (locs : List Loc) (ls : Array Slot) (h : fJ_X8_lawOf_J39 x1 S L = some (r0, S', L')) (hP : va_P G vwCl (wM cA aa S L) H) (hD : va_D A (wM cA aa S L)) (hS : va_S A s.heap H locs) (hl : lv_has ls 3 [(0, .ref (aa 0)), (1, .int x1)]) : G_X8_lawOf p l e s m below meth c G cA A aa x1₀ r0 S' L' H locs (F0 m 39 ls []) := by
  obtain ⟨hx, hb, hr, hml, hT, hown, hlocks, hK, hN, hA⟩ := id F
  unfold fJ_X8_lawOf_J39 at h
  refine lv_aload_n hx hb dX8_lawOf_39 rfl (lv_at hl 0 rfl) ?_
  refine va_get (D := G) (ci := 8) (v := .int (S 0 51)) (C := RX8) (T := TX8) (N := 91) hx hb hT ku_8 hown hK hP 0 rfl rfl 51 (by decide) (hT _ kw_34_10) (fun _ h9 => h9) rfl dX8_lawOf_40 ?_
  refine lv_if_eq (tgt := 50) hx hb dX8_lawOf_43 (by decide) (fun c6 => ?_) (fun c6 => ?_)
  · have h := tx_pos c6 h
    refine lv_aload_n hx hb dX8_lawOf_50 rfl (lv_at hl 0 rfl) ?_
    refine va_get (D := G) (ci := 8) (v := .ref (aa 51)) (C := RX8) (T := TX8) (N := 91) hx hb hT ku_8 hown hK hP 0 rfl rfl 50 (by decide) (hT _ kw_10_12) (fun _ h9 => h9) rfl dX8_lawOf_51 ?_
    refine lv_aload_n hx hb dX8_lawOf_54 rfl (lv_at hl 0 rfl) ?_
    refine va_get (D := G) (ci := 8) (v := .ref (aa 38)) (C := RX8) (T := TX8) (N := 91) hx hb hT ku_8 hown hK hP 0 rfl rfl 37 (by decide) (hT _ kw_10_5) (fun _ h9 => h9) rfl dX8_lawOf_55 ?_
    refine lv_iload_n hx hb dX8_lawOf_58 rfl (lv_at hl 1 rfl) ?_
    obtain ⟨g7, h⟩ := tx_ck h
    refine va_iald (i := x1) hx hb hK hP 19 0 rfl rfl (tx_in g7) dX8_lawOf_59 ?_
    refine lv_iconst (v := 1) hx hb dX8_lawOf_60 (by decide) ?_
    refine lv_isub hx hb dX8_lawOf_61 ?_
    obtain ⟨g8, h⟩ := tx_ck h
    refine va_lald (i := ((S 38 x1.toNatClampNeg) - 1)) hx hb hK hP 26 2 rfl rfl (tx_in g8) dX8_lawOf_62 ?_
    obtain ⟨rfl, rfl, rfl⟩ := tx_3 h
    exact W.lret hx hb hr (fun t ht hW => ⟨⟨_, (), rfl, rfl, by rw [ht]; exact hP, hD⟩, hS.F ht⟩) hS.2.2 dX8_lawOf_63
  · have h := tx_neg c6 h
    refine lv_lconst (v := 0) hx hb dX8_lawOf_46 (by decide) ?_
    refine lv_goto (tgt := 63) hx hb dX8_lawOf_47 (by decide) ?_
    obtain ⟨rfl, rfl, rfl⟩ := tx_3 h
    exact W.lret hx hb hr (fun t ht hW => ⟨⟨_, (), rfl, rfl, by rw [ht]; exact hP, hD⟩, hS.F ht⟩) hS.2.2 dX8_lawOf_63
set_option maxHeartbeats 4000000 in
set_option maxRecDepth 100000 in
theorem w_X8_lawOf_L12 {p : Program} {l : Launch} {e : Env} {s : State} {m : MethodId} {below : List Frame} {meth : Method} {c : Code} {G : va_G} {cA : Nat → ClassId} {A : Nat → Prop} {aa : Nat → Nat} {x1₀ : Int32} {r0 : Int64} {S' : Tr} {L' : Lo} {x1 : Int32} (F : tF p s m ([.ref (aa 0), .int x1₀] : List Value).toArray meth c G cA A RX8 cX8_lawOf 3 (some .long))    (N : Nat) : ∀ (x2 : Int32) (S : Tr) (L : Lo) (H : Heap) (locs : List Loc) (ls : Array Slot), lpF (fun _ _ _ => none) (fB_X8_lawOf_L12 x1) N x2 S L = some (r0, S', L') → va_P G vwCl (wM cA aa S L) H → va_D A (wM cA aa S L) → va_S A s.heap H locs → lv_has ls 3 [(0, .ref (aa 0)), (1, .int x1), (2, .int x2)] → G_X8_lawOf p l e s m below meth c G cA A aa x1₀ r0 S' L' H locs (F0 m 12 ls []) := by
  obtain ⟨hx, hb, hr, hml, hT, hown, hlocks, hK, hN, hA⟩ := id F
  induction N with
  | zero =>
    intro x2 S L H locs ls h
    have h : (none : Option (Int64 × Tr × Lo)) = some (r0, S', L') := h
    cases h
  | succ N hk12 =>
    intro x2 S L H locs ls h hP hD hS hl
    have h : fB_X8_lawOf_L12 x1 (lpF (fun _ _ _ => none) (fB_X8_lawOf_L12 x1) N) x2 S L = some (r0, S', L') := h
    generalize hk12e : lpF (fun _ _ _ => none) (fB_X8_lawOf_L12 x1) N = k12 at h hk12
    unfold fB_X8_lawOf_L12 at h
    refine lv_iload_n hx hb dX8_lawOf_12 rfl (lv_at hl 2 rfl) ?_
    refine lv_aload_n hx hb dX8_lawOf_13 rfl (lv_at hl 0 rfl) ?_
    refine va_get (D := G) (ci := 8) (v := .ref (aa 38)) (C := RX8) (T := TX8) (N := 91) hx hb hT ku_8 hown hK hP 0 rfl rfl 37 (by decide) (hT _ kw_10_5) (fun _ h9 => h9) rfl dX8_lawOf_14 ?_
    refine lv_iload_n hx hb dX8_lawOf_17 rfl (lv_at hl 1 rfl) ?_
    obtain ⟨g4, h⟩ := tx_ck h
    refine va_iald (i := x1) hx hb hK hP 19 0 rfl rfl (tx_in g4) dX8_lawOf_18 ?_
    refine lv_icmp_ge (tgt := 39) hx hb dX8_lawOf_19 (by decide) (fun c5 => ?_) (fun c5 => ?_)
    · have h := tx_pos c5 h
      exact w_X8_lawOf_J39 F x1 S L H locs ls h hP hD hS (lv_sub hl [0, 1] rfl)
    · have h := tx_neg c5 h
      refine lv_aload_n hx hb dX8_lawOf_22 rfl (lv_at hl 0 rfl) ?_
      refine va_get (D := G) (ci := 8) (v := .ref (aa 51)) (C := RX8) (T := TX8) (N := 91) hx hb hT ku_8 hown hK hP 0 rfl rfl 50 (by decide) (hT _ kw_10_12) (fun _ h9 => h9) rfl dX8_lawOf_23 ?_
      refine lv_iload_n hx hb dX8_lawOf_26 rfl (lv_at hl 2 rfl) ?_
      refine lv_aload_n hx hb dX8_lawOf_27 rfl (lv_at hl 0 rfl) ?_
      refine lv_iload_n hx hb dX8_lawOf_28 rfl (lv_at hl 2 rfl) ?_
      obtain ⟨⟨r9, S_10⟩, hc11, h⟩ := tx_bd h
      replace h := tx_let (y := r9) rfl h
      replace h := tx_let (y := S_10) rfl h
      refine tw_cl tw_all hP hD hS hA (va_runV (As := [.int x2]) (rest := [.int x2, .ref (aa 51)]) ⟨hx, hb, hml, hown, hT⟩ (c_X8_valueOf l G cA H.size aa S L x2  r9 S_10 hc11) (cwV 1 hT (tq_gV kw_34_23 kw_35_0 kw_35_1 kw_1_5 kw_35_2) rfl rfl rfl (by decide +kernel) ⟨Nat.le_of_ble_eq_true rfl, Nat.le_of_ble_eq_true rfl⟩) ⟨(tw_pre tw_all hP hD hK hN).1, va_recv hK hP (ci := 8) (q0 := 0) rfl rfl, (tw_pre tw_all hP hD hK hN).2⟩ rfl rfl hl.1 rfl (lv_room (Nat.le_of_ble_eq_true rfl)) dX8_lawOf_29 ⟨Nat.le_of_ble_eq_true rfl, Nat.le_of_ble_eq_true rfl⟩) (fun _ _ H locs z12 hP hD hS => ?_)
      subst z12
      rw [List.append_nil] at hP hD
      have hP : va_P G vwCl (wM cA aa S_10 L) H := hP
      have hD : va_D A (wM cA aa S_10 L) := hD
      obtain ⟨g13, h⟩ := tx_ck h
      refine va_last (i := x2) hx hb hK hP hD hS 26 2 rfl rfl (tx_in g13) dX8_lawOf_32 (fun H locs hP hD hS => ?_)
      obtain ⟨L_14, eL_14, h⟩ := tx_lt h
      rw [sM_a50, eL_14] at hP hD
      obtain ⟨y15, ey15, h⟩ := tx_lt h
      refine lv_iinc (v := y15) (lv' := [(2, .int y15), (0, .ref (aa 0)), (1, .int x1)]) hx hb dX8_lawOf_33 hl (k := 2) rfl ey15 (by decide) rfl (fun ls hl => ?_)
      refine lv_goto (tgt := 12) hx hb dX8_lawOf_36 (by decide) ?_
      exact hk12 y15 S_10 L_14 H locs ls h hP hD hS (lv_sub hl [1, 2, 0] rfl)
set_option maxHeartbeats 4000000 in
set_option maxRecDepth 100000 in
theorem c_X8_lawOf (l : Launch) (G : va_G) (cA : Nat → ClassId) (sz : Nat) (aa : Nat → Nat) (S : Tr) (L : Lo) (x1 : Int32)  (r0 : Int64) (S' : Tr) (L' : Lo) (h : f_X8_lawOf S L x1 = some (r0, S', L')) : Met l yX8_lawOf (.code yX8_lawOf cX8_lawOf 3 (some .long) :: T0) ({ frames := 2, cells := 0, slots := 0, locals := 50 } : Room) (tqP G cA [.ref (aa 0), .int x1] (wM cA aa S L) sz) (tqQl G cA (fun (r : Int64) (_ : Unit) => r = r0) (fun (_ : Unit) => wM cA aa S' L') (va_A (wM cA aa S L) sz)) 0 0 (va_A (wM cA aa S L) sz) := by
  refine Met.ofW (cc := cX8_lawOf) (maxL := 3) (ret := (some .long)) (by decide) rfl ?_
  intro p e s m args below meth c s₁ B hml hv
  obtain ⟨rfl, hsz, hP, hK, hD0, hN⟩ := hv
  have hx := B.exec
  have hb := B.bytes
  have hr := B.returns
  have hts := atoms_spec (ws := .code yX8_lawOf cX8_lawOf 3 (some .long) :: T0) B.pre
  have hT : ∀ w ∈ T0, w.before _ s = true := fun w h => hts w (List.mem_cons_of_mem _ h)
  have hown : s.vm.findClass RX8 = some m.cls := findClass_of_methodNamed B.named
  have hlocks := B.notSynchronized
  subst hsz
  have hD := hD0.self (sz := s.heap.size)
  generalize hAe : va_A (wM cA aa S L) s.heap.size = A at hD ⊢
  have hA : ∀ q : Nat, s.heap.size ≤ q → A q := fun q h => by rw [← hAe]; exact Or.inr h
  have hS : va_S A s.heap s.heap [] := va_S.rf
  have hl := lv_entry ([.ref (aa 0), .int x1]) (n := 3) (Nat.le_of_ble_eq_true rfl)
  rw [lg_entry_eq]
  generalize (lg_sl ([.ref (aa 0), .int x1]) ++ List.replicate (3 - (lg_sl ([.ref (aa 0), .int x1])).length) Slot.unset).toArray = ls at hl ⊢
  have hl : lv_has ls 3 [(0, .ref (aa 0)), (1, .int x1)] := hl
  have F : tF p s m ([.ref (aa 0), .int x1] : List Value).toArray meth c G cA A RX8 cX8_lawOf 3 (some .long) := ⟨hx, hb, hr, hml, hT, hown, hlocks, hK, hN, hA⟩
  obtain ⟨H, hH⟩ : ∃ z, z = s.heap := ⟨_, rfl⟩
  rw [← hH] at hP
  have hS : va_S A s.heap H [] := by rw [hH]; exact hS
  suffices hgo : G_X8_lawOf p l e s m below meth c G cA A aa x1 r0 S' L' H [] (F0 m 0 ls []) by rw [hH] at hgo; exact hgo
  generalize ([] : List Loc) = locs at hS ⊢
  unfold f_X8_lawOf at h
  refine lv_aload_n hx hb dX8_lawOf_0 rfl (lv_at hl 0 rfl) ?_
  refine lv_iconst (v := 0) hx hb dX8_lawOf_1 (by decide) ?_
  refine va_put (D := G) (ci := 8) (v := .int 0) (ty := .boolean) (C := RX8) (T := TX8) (N := 91) hx hb hT ku_8 tyX8 tyX8_ok nmX8 hown hK hP hD hS 0 rfl rfl 51 (by decide) (hT _ kw_34_10) (fun _ h9 => h9) rfl (by decide +kernel) rfl rfl (Nat.le_of_ble_eq_true rfl) dX8_lawOf_2 (fun H locs hP hD hS => ?_)
  obtain ⟨S_1, eS_1, h⟩ := tx_lt h
  rw [sM_f51, eS_1] at hP hD
  refine lv_aload_n hx hb dX8_lawOf_5 rfl (lv_at hl 0 rfl) ?_
  refine va_get (D := G) (ci := 8) (v := .ref (aa 37)) (C := RX8) (T := TX8) (N := 91) hx hb hT ku_8 hown hK hP 0 rfl rfl 36 (by decide) (hT _ kw_10_4) (fun _ h9 => h9) rfl dX8_lawOf_6 ?_
  refine lv_iload_n hx hb dX8_lawOf_9 rfl (lv_at hl 1 rfl) ?_
  obtain ⟨g2, h⟩ := tx_ck h
  refine va_iald (i := x1) hx hb hK hP 18 0 rfl rfl (tx_in g2) dX8_lawOf_10 ?_
  refine lv_topi (fun y3 ey3 => ?_)
  have h := tx_let ey3 h
  refine lv_istore_n (lv' := [(2, .int y3), (0, .ref (aa 0)), (1, .int x1)]) hx hb dX8_lawOf_11 rfl hl (by decide) rfl (fun ls hl => ?_)
  exact w_X8_lawOf_L12 F 2000 y3 S_1 L H locs ls h hP hD hS (lv_sub hl [1, 2, 0] rfl)
abbrev G_X8_boundLaw (p : Program) (l : Launch) (e : Env) (s : State) (m : MethodId) (below : List Frame) (meth : Method) (c : Code) (G : va_G) (cA : Nat → ClassId) (A : Nat → Prop) (aa : Nat → Nat) (x1 : Int32) (x2 : Int32) (x3 : Int32) (r0 : Int32) (S' : Tr) (L' : Lo) (H : Heap) (locs : List Loc) (g : JFrame) : Prop := W p l e (headSpec (.code yX8_boundLaw cX8_boundLaw 6 (some .int) :: T0) ({ frames := 3, cells := 0, slots := 0, locals := 72 } : Room)).room s m ([.ref (aa 0), .int x1, .int x2, .int x3] : List Value).toArray below meth c H locs 0 0 (MQ below (tqQi G cA (fun (r : Int32) (_ : Unit) => r = r0) (fun (_ : Unit) => wM cA aa S' L') A) ([.ref (aa 0), .int x1, .int x2, .int x3] : List Value).toArray s 0 0 A) g
set_option maxHeartbeats 4000000 in
set_option maxRecDepth 100000 in
theorem c_X8_boundLaw (l : Launch) (G : va_G) (cA : Nat → ClassId) (sz : Nat) (aa : Nat → Nat) (S : Tr) (L : Lo) (x1 : Int32) (x2 : Int32) (x3 : Int32)  (r0 : Int32) (S' : Tr) (L' : Lo) (h : f_X8_boundLaw S L x1 x2 x3 = some (r0, S', L')) : Met l yX8_boundLaw (.code yX8_boundLaw cX8_boundLaw 6 (some .int) :: T0) ({ frames := 3, cells := 0, slots := 0, locals := 72 } : Room) (tqP G cA [.ref (aa 0), .int x1, .int x2, .int x3] (wM cA aa S L) sz) (tqQi G cA (fun (r : Int32) (_ : Unit) => r = r0) (fun (_ : Unit) => wM cA aa S' L') (va_A (wM cA aa S L) sz)) 0 0 (va_A (wM cA aa S L) sz) := by
  refine Met.ofW (cc := cX8_boundLaw) (maxL := 6) (ret := (some .int)) (by decide) rfl ?_
  intro p e s m args below meth c s₁ B hml hv
  obtain ⟨rfl, hsz, hP, hK, hD0, hN⟩ := hv
  have hx := B.exec
  have hb := B.bytes
  have hr := B.returns
  have hts := atoms_spec (ws := .code yX8_boundLaw cX8_boundLaw 6 (some .int) :: T0) B.pre
  have hT : ∀ w ∈ T0, w.before _ s = true := fun w h => hts w (List.mem_cons_of_mem _ h)
  have hown : s.vm.findClass RX8 = some m.cls := findClass_of_methodNamed B.named
  have hlocks := B.notSynchronized
  subst hsz
  have hD := hD0.self (sz := s.heap.size)
  generalize hAe : va_A (wM cA aa S L) s.heap.size = A at hD ⊢
  have hA : ∀ q : Nat, s.heap.size ≤ q → A q := fun q h => by rw [← hAe]; exact Or.inr h
  have hS : va_S A s.heap s.heap [] := va_S.rf
  have hl := lv_entry ([.ref (aa 0), .int x1, .int x2, .int x3]) (n := 6) (Nat.le_of_ble_eq_true rfl)
  rw [lg_entry_eq]
  generalize (lg_sl ([.ref (aa 0), .int x1, .int x2, .int x3]) ++ List.replicate (6 - (lg_sl ([.ref (aa 0), .int x1, .int x2, .int x3])).length) Slot.unset).toArray = ls at hl ⊢
  have hl : lv_has ls 6 [(0, .ref (aa 0)), (1, .int x1), (2, .int x2), (3, .int x3)] := hl
  have F : tF p s m ([.ref (aa 0), .int x1, .int x2, .int x3] : List Value).toArray meth c G cA A RX8 cX8_boundLaw 6 (some .int) := ⟨hx, hb, hr, hml, hT, hown, hlocks, hK, hN, hA⟩
  obtain ⟨H, hH⟩ : ∃ z, z = s.heap := ⟨_, rfl⟩
  rw [← hH] at hP
  have hS : va_S A s.heap H [] := by rw [hH]; exact hS
  suffices hgo : G_X8_boundLaw p l e s m below meth c G cA A aa x1 x2 x3 r0 S' L' H [] (F0 m 0 ls []) by rw [hH] at hgo; exact hgo
  generalize ([] : List Loc) = locs at hS ⊢
  unfold f_X8_boundLaw at h
  refine lv_aload_n hx hb dX8_boundLaw_0 rfl (lv_at hl 0 rfl) ?_
  refine va_get (D := G) (ci := 8) (v := .ref (aa 36)) (C := RX8) (T := TX8) (N := 91) hx hb hT ku_8 hown hK hP 0 rfl rfl 35 (by decide) (hT _ kw_10_3) (fun _ h9 => h9) rfl dX8_boundLaw_1 ?_
  refine lv_iload_n hx hb dX8_boundLaw_4 rfl (lv_at hl 1 rfl) ?_
  obtain ⟨g1, h⟩ := tx_ck h
  refine va_zald (i := x1) hx hb hK hP 17 1 rfl rfl (tx_in g1) dX8_boundLaw_5 ?_
  refine lv_if_ne (tgt := 11) hx hb dX8_boundLaw_6 (by decide) (fun c2 => ?_) (fun c2 => ?_)
  · have h := tx_neg c2 h
    refine lv_aload_n hx hb dX8_boundLaw_11 rfl (lv_at hl 0 rfl) ?_
    refine lv_iload_n hx hb dX8_boundLaw_12 rfl (lv_at hl 1 rfl) ?_
    obtain ⟨⟨r3, S_4, L_5⟩, hc6, h⟩ := tx_bd h
    replace h := tx_let (y := r3) rfl h
    replace h := tx_let (y := S_4) rfl h
    replace h := tx_let (y := L_5) rfl h
    refine tw_cl tw_all hP hD hS hA (va_runV (As := [.int x1]) (rest := []) ⟨hx, hb, hml, hown, hT⟩ (c_X8_lawOf l G cA H.size aa S L x1  r3 S_4 L_5 hc6) (cwV 1 hT (tq_gV kw_34_19 kw_34_20 kw_34_21 kw_1_5 kw_34_22) rfl rfl rfl (by decide +kernel) ⟨Nat.le_of_ble_eq_true rfl, Nat.le_of_ble_eq_true rfl⟩) ⟨(tw_pre tw_all hP hD hK hN).1, va_recv hK hP (ci := 8) (q0 := 0) rfl rfl, (tw_pre tw_all hP hD hK hN).2⟩ rfl rfl hl.1 rfl (lv_room (Nat.le_of_ble_eq_true rfl)) dX8_boundLaw_13 ⟨Nat.le_of_ble_eq_true rfl, Nat.le_of_ble_eq_true rfl⟩) (fun _ _ H locs z7 hP hD hS => ?_)
    subst z7
    rw [List.append_nil] at hP hD
    have hP : va_P G vwCl (wM cA aa S_4 L_5) H := hP
    have hD : va_D A (wM cA aa S_4 L_5) := hD
    refine lv_lstore (lv' := [(4, .long r3), (0, .ref (aa 0)), (1, .int x1), (2, .int x2), (3, .int x3)]) hx hb dX8_boundLaw_16 hl (by decide) rfl (fun ls hl => ?_)
    refine lv_aload_n hx hb dX8_boundLaw_18 rfl (lv_at hl 1 rfl) ?_
    refine va_get (D := G) (ci := 8) (v := .int (S_4 0 51)) (C := RX8) (T := TX8) (N := 91) hx hb hT ku_8 hown hK hP 0 rfl rfl 51 (by decide) (hT _ kw_34_10) (fun _ h9 => h9) rfl dX8_boundLaw_19 ?_
    refine lv_if_eq (tgt := 27) hx hb dX8_boundLaw_22 (by decide) (fun c8 => ?_) (fun c8 => ?_)
    · have h := tx_pos c8 h
      refine lv_lload hx hb dX8_boundLaw_27 (lv_at hl 0 rfl) ?_
      refine lv_lconst (v := 0) hx hb dX8_boundLaw_29 (by decide) ?_
      refine W.lcmp hx hb dX8_boundLaw_30 ?_
      refine lv_if_ge (tgt := 38) hx hb dX8_boundLaw_31 (by decide) (fun c9 => ?_) (fun c9 => ?_)
      · have h := tx_pos c9 h
        refine lv_lload hx hb dX8_boundLaw_38 (lv_at hl 0 rfl) ?_
        refine lv_iload_n hx hb dX8_boundLaw_40 rfl (lv_at hl 4 rfl) ?_
        refine lv_i2l hx hb dX8_boundLaw_41 rfl ?_
        refine W.lcmp hx hb dX8_boundLaw_42 ?_
        refine lv_if_le (tgt := 50) hx hb dX8_boundLaw_43 (by decide) (fun c10 => ?_) (fun c10 => ?_)
        · have h := tx_pos c10 h
          refine lv_lload hx hb dX8_boundLaw_50 (lv_at hl 0 rfl) ?_
          refine lv_l2i hx hb dX8_boundLaw_52 rfl ?_
          obtain ⟨rfl, rfl, rfl⟩ := tx_3 h
          exact W.iret hx hb hr (fun t ht hW => ⟨⟨_, (), rfl, rfl, by rw [ht]; exact hP, hD⟩, hS.F ht⟩) hS.2.2 dX8_boundLaw_53
        · have h := tx_neg c10 h
          refine lv_iload_n hx hb dX8_boundLaw_46 rfl (lv_at hl 4 rfl) ?_
          refine lv_goto (tgt := 53) hx hb dX8_boundLaw_47 (by decide) ?_
          obtain ⟨rfl, rfl, rfl⟩ := tx_3 h
          exact W.iret hx hb hr (fun t ht hW => ⟨⟨_, (), rfl, rfl, by rw [ht]; exact hP, hD⟩, hS.F ht⟩) hS.2.2 dX8_boundLaw_53
      · have h := tx_neg c9 h
        refine lv_iconst (v := 0) hx hb dX8_boundLaw_34 (by decide) ?_
        refine lv_goto (tgt := 53) hx hb dX8_boundLaw_35 (by decide) ?_
        obtain ⟨rfl, rfl, rfl⟩ := tx_3 h
        exact W.iret hx hb hr (fun t ht hW => ⟨⟨_, (), rfl, rfl, by rw [ht]; exact hP, hD⟩, hS.F ht⟩) hS.2.2 dX8_boundLaw_53
    · have h := tx_neg c8 h
      refine lv_iload_n hx hb dX8_boundLaw_25 rfl (lv_at hl 3 rfl) ?_
      obtain ⟨rfl, rfl, rfl⟩ := tx_3 h
      exact W.iret hx hb hr (fun t ht hW => ⟨⟨_, (), rfl, rfl, by rw [ht]; exact hP, hD⟩, hS.F ht⟩) hS.2.2 dX8_boundLaw_26
  · have h := tx_pos c2 h
    refine lv_iload_n hx hb dX8_boundLaw_9 rfl (lv_at hl 2 rfl) ?_
    obtain ⟨rfl, rfl, rfl⟩ := tx_3 h
    exact W.iret hx hb hr (fun t ht hW => ⟨⟨_, (), rfl, rfl, by rw [ht]; exact hP, hD⟩, hS.F ht⟩) hS.2.2 dX8_boundLaw_10
abbrev G_X8_liftOf (p : Program) (l : Launch) (e : Env) (s : State) (m : MethodId) (below : List Frame) (meth : Method) (c : Code) (G : va_G) (cA : Nat → ClassId) (A : Nat → Prop) (aa : Nat → Nat) (x1 : Int32) (x2 : Int32) (x3 : Int32) (r0 : Int32) (S' : Tr) (L' : Lo) (H : Heap) (locs : List Loc) (g : JFrame) : Prop := W p l e (headSpec (.code yX8_liftOf cX8_liftOf 4 (some .int) :: T0) ({ frames := 4, cells := 0, slots := 0, locals := 97 } : Room)).room s m ([.ref (aa 0), .int x1, .int x2, .int x3] : List Value).toArray below meth c H locs 0 0 (MQ below (tqQi G cA (fun (r : Int32) (_ : Unit) => r = r0) (fun (_ : Unit) => wM cA aa S' L') A) ([.ref (aa 0), .int x1, .int x2, .int x3] : List Value).toArray s 0 0 A) g
set_option maxHeartbeats 4000000 in
set_option maxRecDepth 100000 in
theorem c_X8_liftOf (l : Launch) (G : va_G) (cA : Nat → ClassId) (sz : Nat) (aa : Nat → Nat) (S : Tr) (L : Lo) (x1 : Int32) (x2 : Int32) (x3 : Int32)  (r0 : Int32) (S' : Tr) (L' : Lo) (h : f_X8_liftOf S L x1 x2 x3 = some (r0, S', L')) : Met l yX8_liftOf (.code yX8_liftOf cX8_liftOf 4 (some .int) :: T0) ({ frames := 4, cells := 0, slots := 0, locals := 97 } : Room) (tqP G cA [.ref (aa 0), .int x1, .int x2, .int x3] (wM cA aa S L) sz) (tqQi G cA (fun (r : Int32) (_ : Unit) => r = r0) (fun (_ : Unit) => wM cA aa S' L') (va_A (wM cA aa S L) sz)) 0 0 (va_A (wM cA aa S L) sz) := by
  refine Met.ofW (cc := cX8_liftOf) (maxL := 4) (ret := (some .int)) (by decide) rfl ?_
  intro p e s m args below meth c s₁ B hml hv
  obtain ⟨rfl, hsz, hP, hK, hD0, hN⟩ := hv
  have hx := B.exec
  have hb := B.bytes
  have hr := B.returns
  have hts := atoms_spec (ws := .code yX8_liftOf cX8_liftOf 4 (some .int) :: T0) B.pre
  have hT : ∀ w ∈ T0, w.before _ s = true := fun w h => hts w (List.mem_cons_of_mem _ h)
  have hown : s.vm.findClass RX8 = some m.cls := findClass_of_methodNamed B.named
  have hlocks := B.notSynchronized
  subst hsz
  have hD := hD0.self (sz := s.heap.size)
  generalize hAe : va_A (wM cA aa S L) s.heap.size = A at hD ⊢
  have hA : ∀ q : Nat, s.heap.size ≤ q → A q := fun q h => by rw [← hAe]; exact Or.inr h
  have hS : va_S A s.heap s.heap [] := va_S.rf
  have hl := lv_entry ([.ref (aa 0), .int x1, .int x2, .int x3]) (n := 4) (Nat.le_of_ble_eq_true rfl)
  rw [lg_entry_eq]
  generalize (lg_sl ([.ref (aa 0), .int x1, .int x2, .int x3]) ++ List.replicate (4 - (lg_sl ([.ref (aa 0), .int x1, .int x2, .int x3])).length) Slot.unset).toArray = ls at hl ⊢
  have hl : lv_has ls 4 [(0, .ref (aa 0)), (1, .int x1), (2, .int x2), (3, .int x3)] := hl
  have F : tF p s m ([.ref (aa 0), .int x1, .int x2, .int x3] : List Value).toArray meth c G cA A RX8 cX8_liftOf 4 (some .int) := ⟨hx, hb, hr, hml, hT, hown, hlocks, hK, hN, hA⟩
  obtain ⟨H, hH⟩ : ∃ z, z = s.heap := ⟨_, rfl⟩
  rw [← hH] at hP
  have hS : va_S A s.heap H [] := by rw [hH]; exact hS
  suffices hgo : G_X8_liftOf p l e s m below meth c G cA A aa x1 x2 x3 r0 S' L' H [] (F0 m 0 ls []) by rw [hH] at hgo; exact hgo
  generalize ([] : List Loc) = locs at hS ⊢
  unfold f_X8_liftOf at h
  refine lv_aload_n hx hb dX8_liftOf_0 rfl (lv_at hl 0 rfl) ?_
  refine lv_iload_n hx hb dX8_liftOf_1 rfl (lv_at hl 1 rfl) ?_
  refine lv_iload_n hx hb dX8_liftOf_2 rfl (lv_at hl 2 rfl) ?_
  refine lv_iload_n hx hb dX8_liftOf_3 rfl (lv_at hl 3 rfl) ?_
  obtain ⟨L_1, hc2, h⟩ := tx_bd h
  refine tw_cv tw_all hP hD hS hA (va_runV (As := [.int x1, .int x2, .int x3]) (rest := []) ⟨hx, hb, hml, hown, hT⟩ (c_X8_layNames l G cA H.size aa S L x1 x2 x3  L_1 hc2) (cwV 3 hT (tq_gV kw_34_11 kw_34_12 kw_34_13 kw_1_5 kw_34_14) rfl rfl rfl (by decide +kernel) ⟨Nat.le_of_ble_eq_true rfl, Nat.le_of_ble_eq_true rfl⟩) ⟨(tw_pre tw_all hP hD hK hN).1, va_recv hK hP (ci := 8) (q0 := 0) rfl rfl, (tw_pre tw_all hP hD hK hN).2⟩ rfl rfl hl.1 rfl (lv_room (Nat.le_of_ble_eq_true rfl)) dX8_liftOf_4 ⟨Nat.le_of_ble_eq_true rfl, Nat.le_of_ble_eq_true rfl⟩) (fun _ H locs z3 hP hD hS => ?_)
  rw [List.append_nil] at hP hD
  have hP : va_P G vwCl (wM cA aa S L_1) H := hP
  have hD : va_D A (wM cA aa S L_1) := hD
  refine lv_aload_n hx hb dX8_liftOf_7 rfl (lv_at hl 0 rfl) ?_
  refine lv_iconst (v := 0) hx hb dX8_liftOf_8 (by decide) ?_
  refine lv_aload_n hx hb dX8_liftOf_9 rfl (lv_at hl 0 rfl) ?_
  refine va_get (D := G) (ci := 8) (v := .ref (aa 31)) (C := RX8) (T := TX8) (N := 91) hx hb hT ku_8 hown hK hP 0 rfl rfl 30 (by decide) (hT _ kw_9_22) (fun _ h9 => h9) rfl dX8_liftOf_10 ?_
  refine lv_iload_n hx hb dX8_liftOf_13 rfl (lv_at hl 2 rfl) ?_
  obtain ⟨g4, h⟩ := tx_ck h
  refine va_iald (i := x2) hx hb hK hP 12 0 rfl rfl (tx_in g4) dX8_liftOf_14 ?_
  refine lv_aload_n hx hb dX8_liftOf_15 rfl (lv_at hl 0 rfl) ?_
  refine lv_iload_n hx hb dX8_liftOf_16 rfl (lv_at hl 1 rfl) ?_
  refine lv_iload_n hx hb dX8_liftOf_17 rfl (lv_at hl 3 rfl) ?_
  obtain ⟨r5, hc6, h⟩ := tx_bd h
  refine tw_ci tw_all hP hD hS hA (va_runV (As := [.int x1, .int x3]) (rest := [.int (S 31 x2.toNatClampNeg), .int 0, .ref (aa 0)]) ⟨hx, hb, hml, hown, hT⟩ (c_X8_ableOf l G cA H.size aa S L_1 x1 x3  r5 hc6) (cwV 2 hT (tq_gV kw_34_15 kw_34_16 kw_34_17 kw_1_5 kw_34_18) rfl rfl rfl (by decide +kernel) ⟨Nat.le_of_ble_eq_true rfl, Nat.le_of_ble_eq_true rfl⟩) ⟨(tw_pre tw_all hP hD hK hN).1, va_recv hK hP (ci := 8) (q0 := 0) rfl rfl, (tw_pre tw_all hP hD hK hN).2⟩ rfl rfl hl.1 rfl (lv_room (Nat.le_of_ble_eq_true rfl)) dX8_liftOf_18 ⟨Nat.le_of_ble_eq_true rfl, Nat.le_of_ble_eq_true rfl⟩) (fun _ _ H locs z7 hP hD hS => ?_)
  subst z7
  rw [List.append_nil] at hP hD
  have hP : va_P G vwCl (wM cA aa S L_1) H := hP
  have hD : va_D A (wM cA aa S L_1) := hD
  obtain ⟨g8, h⟩ := tx_ck h
  refine lv_idiv hx hb dX8_liftOf_21 (tx_nz g8) ?_
  refine lv_iconst (v := 1) hx hb dX8_liftOf_22 (by decide) ?_
  refine lv_iadd hx hb dX8_liftOf_23 ?_
  refine lv_bipush (v := 99) hx hb dX8_liftOf_24 (by decide) ?_
  obtain ⟨⟨r9, S_10, L_11⟩, hc12, h⟩ := tx_bd h
  replace h := tx_let (y := r9) rfl h
  replace h := tx_let (y := S_10) rfl h
  replace h := tx_let (y := L_11) rfl h
  refine tw_ci tw_all hP hD hS hA (va_runV (As := [.int 0, .int (((S 31 x2.toNatClampNeg) / r5) + 1), .int 99]) (rest := []) ⟨hx, hb, hml, hown, hT⟩ (c_X8_boundLaw l G cA H.size aa S L_1 (0 : Int32) (((S 31 x2.toNatClampNeg) / r5) + 1) (99 : Int32)  r9 S_10 L_11 hc12) (cwV 3 hT (tq_gV kw_44_11 kw_44_12 kw_44_13 kw_1_5 kw_44_14) rfl rfl rfl (by decide +kernel) ⟨Nat.le_of_ble_eq_true rfl, Nat.le_of_ble_eq_true rfl⟩) ⟨(tw_pre tw_all hP hD hK hN).1, va_recv hK hP (ci := 8) (q0 := 0) rfl rfl, (tw_pre tw_all hP hD hK hN).2⟩ rfl rfl hl.1 rfl (lv_room (Nat.le_of_ble_eq_true rfl)) dX8_liftOf_26 ⟨Nat.le_of_ble_eq_true rfl, Nat.le_of_ble_eq_true rfl⟩) (fun _ _ H locs z13 hP hD hS => ?_)
  subst z13
  rw [List.append_nil] at hP hD
  have hP : va_P G vwCl (wM cA aa S_10 L_11) H := hP
  have hD : va_D A (wM cA aa S_10 L_11) := hD
  obtain ⟨rfl, rfl, rfl⟩ := tx_3 h
  exact W.iret hx hb hr (fun t ht hW => ⟨⟨_, (), rfl, rfl, by rw [ht]; exact hP, hD⟩, hS.F ht⟩) hS.2.2 dX8_liftOf_29
abbrev G_X8_secondsOf (p : Program) (l : Launch) (e : Env) (s : State) (m : MethodId) (below : List Frame) (meth : Method) (c : Code) (G : va_G) (cA : Nat → ClassId) (A : Nat → Prop) (aa : Nat → Nat) (x1 : Int32) (x2 : Int32) (r0 : Int32) (S' : Tr) (L' : Lo) (H : Heap) (locs : List Loc) (g : JFrame) : Prop := W p l e (headSpec (.code yX8_secondsOf cX8_secondsOf 6 (some .int) :: T0) ({ frames := 5, cells := 0, slots := 0, locals := 120 } : Room)).room s m ([.ref (aa 0), .int x1, .int x2] : List Value).toArray below meth c H locs 0 0 (MQ below (tqQi G cA (fun (r : Int32) (_ : Unit) => r = r0) (fun (_ : Unit) => wM cA aa S' L') A) ([.ref (aa 0), .int x1, .int x2] : List Value).toArray s 0 0 A) g
set_option maxHeartbeats 4000000 in
set_option maxRecDepth 100000 in
theorem w_X8_secondsOf_L23 {p : Program} {l : Launch} {e : Env} {s : State} {m : MethodId} {below : List Frame} {meth : Method} {c : Code} {G : va_G} {cA : Nat → ClassId} {A : Nat → Prop} {aa : Nat → Nat} {x1₀ : Int32} {x2₀ : Int32} {r0 : Int32} {S' : Tr} {L' : Lo} {x1 : Int32} {x2 : Int32} {x3 : Int32} (F : tF p s m ([.ref (aa 0), .int x1₀, .int x2₀] : List Value).toArray meth c G cA A RX8 cX8_secondsOf 6 (some .int))    (N : Nat) : ∀ (x4 : Int32) (x5 : Int32) (S : Tr) (L : Lo) (H : Heap) (locs : List Loc) (ls : Array Slot), lpF (fun _ _ _ _ => none) (fB_X8_secondsOf_L23 x1 x2 x3) N x4 x5 S L = some (r0, S', L') → va_P G vwCl (wM cA aa S L) H → va_D A (wM cA aa S L) → va_S A s.heap H locs → lv_has ls 6 [(0, .ref (aa 0)), (1, .int x1), (2, .int x2), (3, .int x3), (4, .int x4), (5, .int x5)] → G_X8_secondsOf p l e s m below meth c G cA A aa x1₀ x2₀ r0 S' L' H locs (F0 m 23 ls []) := by
  obtain ⟨hx, hb, hr, hml, hT, hown, hlocks, hK, hN, hA⟩ := id F
  induction N with
  | zero =>
    intro x4 x5 S L H locs ls h
    have h : (none : Option (Int32 × Tr × Lo)) = some (r0, S', L') := h
    cases h
  | succ N hk23 =>
    intro x4 x5 S L H locs ls h hP hD hS hl
    have h : fB_X8_secondsOf_L23 x1 x2 x3 (lpF (fun _ _ _ _ => none) (fB_X8_secondsOf_L23 x1 x2 x3) N) x4 x5 S L = some (r0, S', L') := h
    generalize hk23e : lpF (fun _ _ _ _ => none) (fB_X8_secondsOf_L23 x1 x2 x3) N = k23 at h hk23
    unfold fB_X8_secondsOf_L23 at h
    refine lv_iload hx hb dX8_secondsOf_23 (lv_at hl 5 rfl) ?_
    refine lv_aload_n hx hb dX8_secondsOf_25 rfl (lv_at hl 0 rfl) ?_
    refine va_get (D := G) (ci := 8) (v := .ref (aa 56)) (C := RX8) (T := TX8) (N := 91) hx hb hT ku_8 hown hK hP 0 rfl rfl 55 (by decide) (hT _ kw_10_16) (fun _ h9 => h9) rfl dX8_secondsOf_26 ?_
    refine lv_iconst (v := 5) hx hb dX8_secondsOf_29 (by decide) ?_
    refine lv_iload_n hx hb dX8_secondsOf_30 rfl (lv_at hl 1 rfl) ?_
    refine lv_imul hx hb dX8_secondsOf_31 ?_
    refine lv_iload_n hx hb dX8_secondsOf_32 rfl (lv_at hl 3 rfl) ?_
    refine lv_iadd hx hb dX8_secondsOf_33 ?_
    obtain ⟨g6, h⟩ := tx_ck h
    refine va_iald (i := (((5 : Int32) * x1) + x3)) hx hb hK hP 30 0 rfl rfl (tx_in g6) dX8_secondsOf_34 ?_
    refine lv_icmp_ge (tgt := 68) hx hb dX8_secondsOf_35 (by decide) (fun c7 => ?_) (fun c7 => ?_)
    · have h := tx_pos c7 h
      refine lv_iload hx hb dX8_secondsOf_68 (lv_at hl 4 rfl) ?_
      obtain ⟨rfl, rfl, rfl⟩ := tx_3 h
      exact W.iret hx hb hr (fun t ht hW => ⟨⟨_, (), rfl, rfl, by rw [ht]; exact hP, hD⟩, hS.F ht⟩) hS.2.2 dX8_secondsOf_70
    · have h := tx_neg c7 h
      refine lv_iload hx hb dX8_secondsOf_38 (lv_at hl 4 rfl) ?_
      refine lv_aload_n hx hb dX8_secondsOf_40 rfl (lv_at hl 0 rfl) ?_
      refine lv_iload_n hx hb dX8_secondsOf_41 rfl (lv_at hl 1 rfl) ?_
      refine lv_aload_n hx hb dX8_secondsOf_42 rfl (lv_at hl 0 rfl) ?_
      refine lv_iload_n hx hb dX8_secondsOf_43 rfl (lv_at hl 1 rfl) ?_
      refine lv_iload_n hx hb dX8_secondsOf_44 rfl (lv_at hl 3 rfl) ?_
      refine lv_iload hx hb dX8_secondsOf_45 (lv_at hl 5 rfl) ?_
      obtain ⟨r8, hc9, h⟩ := tx_bd h
      refine tw_ci tw_all hP hD hS hA (va_runV (As := [.int x1, .int x3, .int x5]) (rest := [.int x1, .ref (aa 0), .int x4]) ⟨hx, hb, hml, hown, hT⟩ (c_X8_stackAt l G cA H.size aa S L x1 x3 x5  r8 hc9) (cwV 3 hT (tq_gV kw_31_10 kw_31_11 kw_31_12 kw_1_5 kw_31_13) rfl rfl rfl (by decide +kernel) ⟨Nat.le_of_ble_eq_true rfl, Nat.le_of_ble_eq_true rfl⟩) ⟨(tw_pre tw_all hP hD hK hN).1, va_recv hK hP (ci := 8) (q0 := 0) rfl rfl, (tw_pre tw_all hP hD hK hN).2⟩ rfl rfl hl.1 rfl (lv_room (Nat.le_of_ble_eq_true rfl)) dX8_secondsOf_47 ⟨Nat.le_of_ble_eq_true rfl, Nat.le_of_ble_eq_true rfl⟩) (fun _ _ H locs z10 hP hD hS => ?_)
      subst z10
      rw [List.append_nil] at hP hD
      have hP : va_P G vwCl (wM cA aa S L) H := hP
      have hD : va_D A (wM cA aa S L) := hD
      refine lv_aload_n hx hb dX8_secondsOf_50 rfl (lv_at hl 0 rfl) ?_
      refine va_get (D := G) (ci := 8) (v := .ref (aa 30)) (C := RX8) (T := TX8) (N := 91) hx hb hT ku_8 hown hK hP 0 rfl rfl 29 (by decide) (hT _ kw_9_21) (fun _ h9 => h9) rfl dX8_secondsOf_51 ?_
      refine lv_iload_n hx hb dX8_secondsOf_54 rfl (lv_at hl 2 rfl) ?_
      obtain ⟨g11, h⟩ := tx_ck h
      refine va_iald (i := x2) hx hb hK hP 11 0 rfl rfl (tx_in g11) dX8_secondsOf_55 ?_
      obtain ⟨⟨r12, S_13, L_14⟩, hc15, h⟩ := tx_bd h
      replace h := tx_let (y := r12) rfl h
      replace h := tx_let (y := S_13) rfl h
      replace h := tx_let (y := L_14) rfl h
      refine tw_ci tw_all hP hD hS hA (va_runV (As := [.int x1, .int r8, .int (S 30 x2.toNatClampNeg)]) (rest := [.int x4]) ⟨hx, hb, hml, hown, hT⟩ (c_X8_liftOf l G cA H.size aa S L x1 r8 (S 30 x2.toNatClampNeg)  r12 S_13 L_14 hc15) (cwV 3 hT (tq_gV kw_44_7 kw_44_8 kw_44_9 kw_1_5 kw_44_10) rfl rfl rfl (by decide +kernel) ⟨Nat.le_of_ble_eq_true rfl, Nat.le_of_ble_eq_true rfl⟩) ⟨(tw_pre tw_all hP hD hK hN).1, va_recv hK hP (ci := 8) (q0 := 0) rfl rfl, (tw_pre tw_all hP hD hK hN).2⟩ rfl rfl hl.1 rfl (lv_room (Nat.le_of_ble_eq_true rfl)) dX8_secondsOf_56 ⟨Nat.le_of_ble_eq_true rfl, Nat.le_of_ble_eq_true rfl⟩) (fun _ _ H locs z16 hP hD hS => ?_)
      subst z16
      rw [List.append_nil] at hP hD
      have hP : va_P G vwCl (wM cA aa S_13 L_14) H := hP
      have hD : va_D A (wM cA aa S_13 L_14) := hD
      refine lv_iadd hx hb dX8_secondsOf_59 ?_
      refine lv_topi (fun y17 ey17 => ?_)
      have h := tx_let ey17 h
      refine lv_istore (lv' := [(4, .int y17), (0, .ref (aa 0)), (1, .int x1), (2, .int x2), (3, .int x3), (5, .int x5)]) hx hb dX8_secondsOf_60 hl (by decide) rfl (fun ls hl => ?_)
      obtain ⟨y18, ey18, h⟩ := tx_lt h
      refine lv_iinc (v := y18) (lv' := [(5, .int y18), (4, .int y17), (0, .ref (aa 0)), (1, .int x1), (2, .int x2), (3, .int x3)]) hx hb dX8_secondsOf_62 hl (k := 5) rfl ey18 (by decide) rfl (fun ls hl => ?_)
      refine lv_goto (tgt := 23) hx hb dX8_secondsOf_65 (by decide) ?_
      exact hk23 y17 y18 S_13 L_14 H locs ls h hP hD hS (lv_sub hl [2, 3, 4, 5, 1, 0] rfl)
set_option maxHeartbeats 4000000 in
set_option maxRecDepth 100000 in
theorem c_X8_secondsOf (l : Launch) (G : va_G) (cA : Nat → ClassId) (sz : Nat) (aa : Nat → Nat) (S : Tr) (L : Lo) (x1 : Int32) (x2 : Int32)  (r0 : Int32) (S' : Tr) (L' : Lo) (h : f_X8_secondsOf S L x1 x2 = some (r0, S', L')) : Met l yX8_secondsOf (.code yX8_secondsOf cX8_secondsOf 6 (some .int) :: T0) ({ frames := 5, cells := 0, slots := 0, locals := 120 } : Room) (tqP G cA [.ref (aa 0), .int x1, .int x2] (wM cA aa S L) sz) (tqQi G cA (fun (r : Int32) (_ : Unit) => r = r0) (fun (_ : Unit) => wM cA aa S' L') (va_A (wM cA aa S L) sz)) 0 0 (va_A (wM cA aa S L) sz) := by
  refine Met.ofW (cc := cX8_secondsOf) (maxL := 6) (ret := (some .int)) (by decide) rfl ?_
  intro p e s m args below meth c s₁ B hml hv
  obtain ⟨rfl, hsz, hP, hK, hD0, hN⟩ := hv
  have hx := B.exec
  have hb := B.bytes
  have hr := B.returns
  have hts := atoms_spec (ws := .code yX8_secondsOf cX8_secondsOf 6 (some .int) :: T0) B.pre
  have hT : ∀ w ∈ T0, w.before _ s = true := fun w h => hts w (List.mem_cons_of_mem _ h)
  have hown : s.vm.findClass RX8 = some m.cls := findClass_of_methodNamed B.named
  have hlocks := B.notSynchronized
  subst hsz
  have hD := hD0.self (sz := s.heap.size)
  generalize hAe : va_A (wM cA aa S L) s.heap.size = A at hD ⊢
  have hA : ∀ q : Nat, s.heap.size ≤ q → A q := fun q h => by rw [← hAe]; exact Or.inr h
  have hS : va_S A s.heap s.heap [] := va_S.rf
  have hl := lv_entry ([.ref (aa 0), .int x1, .int x2]) (n := 6) (Nat.le_of_ble_eq_true rfl)
  rw [lg_entry_eq]
  generalize (lg_sl ([.ref (aa 0), .int x1, .int x2]) ++ List.replicate (6 - (lg_sl ([.ref (aa 0), .int x1, .int x2])).length) Slot.unset).toArray = ls at hl ⊢
  have hl : lv_has ls 6 [(0, .ref (aa 0)), (1, .int x1), (2, .int x2)] := hl
  have F : tF p s m ([.ref (aa 0), .int x1, .int x2] : List Value).toArray meth c G cA A RX8 cX8_secondsOf 6 (some .int) := ⟨hx, hb, hr, hml, hT, hown, hlocks, hK, hN, hA⟩
  obtain ⟨H, hH⟩ : ∃ z, z = s.heap := ⟨_, rfl⟩
  rw [← hH] at hP
  have hS : va_S A s.heap H [] := by rw [hH]; exact hS
  suffices hgo : G_X8_secondsOf p l e s m below meth c G cA A aa x1 x2 r0 S' L' H [] (F0 m 0 ls []) by rw [hH] at hgo; exact hgo
  generalize ([] : List Loc) = locs at hS ⊢
  unfold f_X8_secondsOf at h
  refine lv_aload_n hx hb dX8_secondsOf_0 rfl (lv_at hl 0 rfl) ?_
  refine va_get (D := G) (ci := 8) (v := .ref (aa 54)) (C := RX8) (T := TX8) (N := 91) hx hb hT ku_8 hown hK hP 0 rfl rfl 53 (by decide) (hT _ kw_10_14) (fun _ h9 => h9) rfl dX8_secondsOf_1 ?_
  refine lv_bipush (v := 10) hx hb dX8_secondsOf_4 (by decide) ?_
  refine lv_iload_n hx hb dX8_secondsOf_6 rfl (lv_at hl 1 rfl) ?_
  refine lv_imul hx hb dX8_secondsOf_7 ?_
  refine lv_iload_n hx hb dX8_secondsOf_8 rfl (lv_at hl 2 rfl) ?_
  refine lv_iadd hx hb dX8_secondsOf_9 ?_
  obtain ⟨g1, h⟩ := tx_ck h
  refine va_iald (i := (((10 : Int32) * x1) + x2)) hx hb hK hP 28 0 rfl rfl (tx_in g1) dX8_secondsOf_10 ?_
  refine lv_topi (fun y2 ey2 => ?_)
  have h := tx_let ey2 h
  refine lv_istore_n (lv' := [(3, .int y2), (0, .ref (aa 0)), (1, .int x1), (2, .int x2)]) hx hb dX8_secondsOf_11 rfl hl (by decide) rfl (fun ls hl => ?_)
  refine lv_iconst (v := 0) hx hb dX8_secondsOf_12 (by decide) ?_
  refine lv_istore (lv' := [(4, .int 0), (3, .int y2), (0, .ref (aa 0)), (1, .int x1), (2, .int x2)]) hx hb dX8_secondsOf_13 hl (by decide) rfl (fun ls hl => ?_)
  refine lv_aload_n hx hb dX8_secondsOf_15 rfl (lv_at hl 2 rfl) ?_
  refine lv_iload_n hx hb dX8_secondsOf_16 rfl (lv_at hl 3 rfl) ?_
  refine lv_iload_n hx hb dX8_secondsOf_17 rfl (lv_at hl 4 rfl) ?_
  obtain ⟨r3, hc4, h⟩ := tx_bd h
  refine tw_ci tw_all hP hD hS hA (va_runV (As := [.int x1, .int x2]) (rest := []) ⟨hx, hb, hml, hown, hT⟩ (c_X8_belowOf l G cA H.size aa S L x1 x2  r3 hc4) (cwV 2 hT (tq_gV kw_31_6 kw_31_7 kw_31_8 kw_1_5 kw_31_9) rfl rfl rfl (by decide +kernel) ⟨Nat.le_of_ble_eq_true rfl, Nat.le_of_ble_eq_true rfl⟩) ⟨(tw_pre tw_all hP hD hK hN).1, va_recv hK hP (ci := 8) (q0 := 0) rfl rfl, (tw_pre tw_all hP hD hK hN).2⟩ rfl rfl hl.1 rfl (lv_room (Nat.le_of_ble_eq_true rfl)) dX8_secondsOf_18 ⟨Nat.le_of_ble_eq_true rfl, Nat.le_of_ble_eq_true rfl⟩) (fun _ _ H locs z5 hP hD hS => ?_)
  subst z5
  rw [List.append_nil] at hP hD
  have hP : va_P G vwCl (wM cA aa S L) H := hP
  have hD : va_D A (wM cA aa S L) := hD
  refine lv_istore (lv' := [(5, .int r3), (4, .int 0), (3, .int y2), (0, .ref (aa 0)), (1, .int x1), (2, .int x2)]) hx hb dX8_secondsOf_21 hl (by decide) rfl (fun ls hl => ?_)
  exact w_X8_secondsOf_L23 F 2000 0 r3 S L H locs ls h hP hD hS (lv_sub hl [3, 4, 5, 2, 1, 0] rfl)
abbrev G_X8_takes (p : Program) (l : Launch) (e : Env) (s : State) (m : MethodId) (below : List Frame) (meth : Method) (c : Code) (G : va_G) (cA : Nat → ClassId) (A : Nat → Prop) (aa : Nat → Nat) (L : Lo) (x1 : Int32) (x2 : Int32) (x3 : Int32) (S' : Tr) (H : Heap) (locs : List Loc) (g : JFrame) : Prop := W p l e (headSpec (.code yX8_takes cX8_takes 6 none :: T0) ({ frames := 2, cells := 0, slots := 0, locals := 46 } : Room)).room s m ([.ref (aa 0), .int x1, .int x2, .int x3] : List Value).toArray below meth c H locs 0 0 (MQ below (tqQv G cA (fun (_ : Unit) => True) (fun (_ : Unit) => wM cA aa S' L) A) ([.ref (aa 0), .int x1, .int x2, .int x3] : List Value).toArray s 0 0 A) g
set_option maxHeartbeats 4000000 in
set_option maxRecDepth 100000 in
theorem w_X8_takes_J96 {p : Program} {l : Launch} {e : Env} {s : State} {m : MethodId} {below : List Frame} {meth : Method} {c : Code} {G : va_G} {cA : Nat → ClassId} {A : Nat → Prop} {aa : Nat → Nat} {L : Lo} {x1₀ : Int32} {x2₀ : Int32} {x3₀ : Int32} {S' : Tr} (F : tF p s m ([.ref (aa 0), .int x1₀, .int x2₀, .int x3₀] : List Value).toArray meth c G cA A RX8 cX8_takes 6 none)    (x1 : Int32) (x2 : Int32) (x3 : Int32) (S : Tr) (H : Heap) (locs : List Loc) (ls : Array Slot) (h : fJ_X8_takes_J96 x1 x2 x3 S = some S') (hP : va_P G vwCl (wM cA aa S_12 L) H) (hD : va_D A (wM cA aa S_12 L)) (hS : va_S A s.heap H locs) (hl : lv_has ls 6 [(0, .ref (aa 0)), (1, .int x1), (2, .int x2), (3, .int x3)]) : G_X8_takes p l e s m below meth c G cA A aa L x1₀ x2₀ x3₀ S' H locs (F0 m 96 ls []) := by
  obtain ⟨hx, hb, hr, hml, hT, hown, hlocks, hK, hN, hA⟩ := id F
  unfold fJ_X8_takes_J96 at h
  refine lv_aload_n hx hb dX8_takes_96 rfl (lv_at hl 0 rfl) ?_
  refine va_get (D := G) (ci := 8) (v := .ref (aa 54)) (C := RX8) (T := TX8) (N := 91) hx hb hT ku_8 hown hK hP 0 rfl rfl 53 (by decide) (hT _ kw_10_14) (fun _ h9 => h9) rfl dX8_takes_97 ?_
  refine lv_bipush (v := 10) hx hb dX8_takes_100 (by decide) ?_
  refine lv_iload_n hx hb dX8_takes_102 rfl (lv_at hl 1 rfl) ?_
  refine lv_imul hx hb dX8_takes_103 ?_
  refine lv_iload_n hx hb dX8_takes_104 rfl (lv_at hl 2 rfl) ?_
  refine lv_iadd hx hb dX8_takes_105 ?_
  refine lv_iconst (v := (-1)) hx hb dX8_takes_106 (by decide) ?_
  obtain ⟨g10, h⟩ := tx_ck h
  refine va_iast (i := (((10 : Int32) * x1) + x2)) hx hb hK hP hD hS 28 0 rfl rfl (tx_in g10) dX8_takes_107 (fun H locs hP hD hS => ?_)
  obtain ⟨S_11, eS_11, h⟩ := tx_lt h
  rw [sM_a53, eS_11] at hP hD
  refine lv_aload_n hx hb dX8_takes_108 rfl (lv_at hl 0 rfl) ?_
  refine va_get (D := G) (ci := 8) (v := .ref (aa 53)) (C := RX8) (T := TX8) (N := 91) hx hb hT ku_8 hown hK hP 0 rfl rfl 52 (by decide) (hT _ kw_10_13) (fun _ h9 => h9) rfl dX8_takes_109 ?_
  refine lv_bipush (v := 10) hx hb dX8_takes_112 (by decide) ?_
  refine lv_iload_n hx hb dX8_takes_114 rfl (lv_at hl 1 rfl) ?_
  refine lv_imul hx hb dX8_takes_115 ?_
  refine lv_iload_n hx hb dX8_takes_116 rfl (lv_at hl 2 rfl) ?_
  refine lv_iadd hx hb dX8_takes_117 ?_
  refine lv_iload_n hx hb dX8_takes_118 rfl (lv_at hl 3 rfl) ?_
  refine va_iast (i := (((10 : Int32) * x1) + x2)) hx hb hK hP hD hS 27 0 rfl rfl (tx_in g10) dX8_takes_119 (fun H locs hP hD hS => ?_)
  obtain ⟨S_12, eS_12, h⟩ := tx_lt h
  rw [sM_a52, eS_12] at hP hD
  obtain rfl := tx_1 h
  exact W.vret hx hb hr (fun t ht hW => ⟨⟨(), rfl, trivial, by rw [ht]; exact hP, hD⟩, hS.F ht⟩) hS.2.2 dX8_takes_120
set_option maxHeartbeats 4000000 in
set_option maxRecDepth 100000 in
theorem w_X8_takes_L36 {p : Program} {l : Launch} {e : Env} {s : State} {m : MethodId} {below : List Frame} {meth : Method} {c : Code} {G : va_G} {cA : Nat → ClassId} {A : Nat → Prop} {aa : Nat → Nat} {L : Lo} {x1₀ : Int32} {x2₀ : Int32} {x3₀ : Int32} {S' : Tr} {x1 : Int32} {x2 : Int32} {x3 : Int32} {x4 : Int32} (F : tF p s m ([.ref (aa 0), .int x1₀, .int x2₀, .int x3₀] : List Value).toArray meth c G cA A RX8 cX8_takes 6 none)    (N : Nat) : ∀ (x5 : Int32) (S : Tr) (H : Heap) (locs : List Loc) (ls : Array Slot), lpF (fun _ _ => none) (fB_X8_takes_L36 x1 x2 x3 x4) N x5 S = some S' → va_P G vwCl (wM cA aa S L) H → va_D A (wM cA aa S L) → va_S A s.heap H locs → lv_has ls 6 [(0, .ref (aa 0)), (1, .int x1), (2, .int x2), (3, .int x3), (4, .int x4), (5, .int x5)] → G_X8_takes p l e s m below meth c G cA A aa L x1₀ x2₀ x3₀ S' H locs (F0 m 36 ls []) := by
  obtain ⟨hx, hb, hr, hml, hT, hown, hlocks, hK, hN, hA⟩ := id F
  induction N with
  | zero =>
    intro x5 S H locs ls h
    have h : (none : Option (Tr)) = some S' := h
    cases h
  | succ N hk36 =>
    intro x5 S H locs ls h hP hD hS hl
    have h : fB_X8_takes_L36 x1 x2 x3 x4 (lpF (fun _ _ => none) (fB_X8_takes_L36 x1 x2 x3 x4) N) x5 S = some S' := h
    generalize hk36e : lpF (fun _ _ => none) (fB_X8_takes_L36 x1 x2 x3 x4) N = k36 at h hk36
    unfold fB_X8_takes_L36 at h
    refine lv_iload hx hb dX8_takes_36 (lv_at hl 5 rfl) ?_
    refine lv_aload_n hx hb dX8_takes_38 rfl (lv_at hl 0 rfl) ?_
    refine va_get (D := G) (ci := 8) (v := .ref (aa 56)) (C := RX8) (T := TX8) (N := 91) hx hb hT ku_8 hown hK hP 0 rfl rfl 55 (by decide) (hT _ kw_10_16) (fun _ h9 => h9) rfl dX8_takes_39 ?_
    refine lv_iconst (v := 5) hx hb dX8_takes_42 (by decide) ?_
    refine lv_iload_n hx hb dX8_takes_43 rfl (lv_at hl 1 rfl) ?_
    refine lv_imul hx hb dX8_takes_44 ?_
    refine lv_iload hx hb dX8_takes_45 (lv_at hl 4 rfl) ?_
    refine lv_iadd hx hb dX8_takes_47 ?_
    obtain ⟨g8, h⟩ := tx_ck h
    refine va_iald (i := (((5 : Int32) * x1) + x4)) hx hb hK hP 30 0 rfl rfl (tx_in g8) dX8_takes_48 ?_
    refine lv_icmp_ge (tgt := 96) hx hb dX8_takes_49 (by decide) (fun c9 => ?_) (fun c9 => ?_)
    · have h := tx_pos c9 h
      exact w_X8_takes_J96 F x1 x2 x3 S H locs ls h hP hD hS (lv_sub hl [0, 1, 2, 3] rfl)
    · have h := tx_neg c9 h
      refine lv_aload_n hx hb dX8_takes_52 rfl (lv_at hl 0 rfl) ?_
      refine va_get (D := G) (ci := 8) (v := .ref (aa 55)) (C := RX8) (T := TX8) (N := 91) hx hb hT ku_8 hown hK hP 0 rfl rfl 54 (by decide) (hT _ kw_10_15) (fun _ h9 => h9) rfl dX8_takes_53 ?_
      refine lv_bipush (v := 50) hx hb dX8_takes_56 (by decide) ?_
      refine lv_iload_n hx hb dX8_takes_58 rfl (lv_at hl 1 rfl) ?_
      refine lv_imul hx hb dX8_takes_59 ?_
      refine lv_bipush (v := 10) hx hb dX8_takes_60 (by decide) ?_
      refine lv_iload hx hb dX8_takes_62 (lv_at hl 4 rfl) ?_
      refine lv_imul hx hb dX8_takes_64 ?_
      refine lv_iadd hx hb dX8_takes_65 ?_
      refine lv_iload hx hb dX8_takes_66 (lv_at hl 5 rfl) ?_
      refine lv_iadd hx hb dX8_takes_68 ?_
      refine lv_aload_n hx hb dX8_takes_69 rfl (lv_at hl 0 rfl) ?_
      refine va_get (D := G) (ci := 8) (v := .ref (aa 55)) (C := RX8) (T := TX8) (N := 91) hx hb hT ku_8 hown hK hP 0 rfl rfl 54 (by decide) (hT _ kw_10_15) (fun _ h9 => h9) rfl dX8_takes_70 ?_
      refine lv_bipush (v := 50) hx hb dX8_takes_73 (by decide) ?_
      refine lv_iload_n hx hb dX8_takes_75 rfl (lv_at hl 1 rfl) ?_
      refine lv_imul hx hb dX8_takes_76 ?_
      refine lv_bipush (v := 10) hx hb dX8_takes_77 (by decide) ?_
      refine lv_iload hx hb dX8_takes_79 (lv_at hl 4 rfl) ?_
      refine lv_imul hx hb dX8_takes_81 ?_
      refine lv_iadd hx hb dX8_takes_82 ?_
      refine lv_iload hx hb dX8_takes_83 (lv_at hl 5 rfl) ?_
      refine lv_iadd hx hb dX8_takes_85 ?_
      refine lv_iconst (v := 1) hx hb dX8_takes_86 (by decide) ?_
      refine lv_iadd hx hb dX8_takes_87 ?_
      obtain ⟨g13, h⟩ := tx_ck h
      refine va_iald (i := (((((50 : Int32) * x1) + ((10 : Int32) * x4)) + x5) + 1)) hx hb hK hP 29 0 rfl rfl (tx_in g13) dX8_takes_88 ?_
      obtain ⟨g14, h⟩ := tx_ck h
      refine va_iast (i := ((((50 : Int32) * x1) + ((10 : Int32) * x4)) + x5)) hx hb hK hP hD hS 29 0 rfl rfl (tx_in g14) dX8_takes_89 (fun H locs hP hD hS => ?_)
      obtain ⟨S_15, eS_15, h⟩ := tx_lt h
      rw [sM_a54, eS_15] at hP hD
      obtain ⟨y16, ey16, h⟩ := tx_lt h
      refine lv_iinc (v := y16) (lv' := [(5, .int y16), (0, .ref (aa 0)), (1, .int x1), (2, .int x2), (3, .int x3), (4, .int x4)]) hx hb dX8_takes_90 hl (k := 5) rfl ey16 (by decide) rfl (fun ls hl => ?_)
      refine lv_goto (tgt := 36) hx hb dX8_takes_93 (by decide) ?_
      exact hk36 y16 S_15 H locs ls h hP hD hS (lv_sub hl [1, 2, 3, 4, 5, 0] rfl)
set_option maxHeartbeats 4000000 in
set_option maxRecDepth 100000 in
theorem c_X8_takes (l : Launch) (G : va_G) (cA : Nat → ClassId) (sz : Nat) (aa : Nat → Nat) (S : Tr) (L : Lo) (x1 : Int32) (x2 : Int32) (x3 : Int32)  (S' : Tr) (h : f_X8_takes S x1 x2 x3 = some S') : Met l yX8_takes (.code yX8_takes cX8_takes 6 none :: T0) ({ frames := 2, cells := 0, slots := 0, locals := 46 } : Room) (tqP G cA [.ref (aa 0), .int x1, .int x2, .int x3] (wM cA aa S L) sz) (tqQv G cA (fun (_ : Unit) => True) (fun (_ : Unit) => wM cA aa S' L) (va_A (wM cA aa S L) sz)) 0 0 (va_A (wM cA aa S L) sz) := by
  refine Met.ofW (cc := cX8_takes) (maxL := 6) (ret := none) (by decide) rfl ?_
  intro p e s m args below meth c s₁ B hml hv
  obtain ⟨rfl, hsz, hP, hK, hD0, hN⟩ := hv
  have hx := B.exec
  have hb := B.bytes
  have hr := B.returns
  have hts := atoms_spec (ws := .code yX8_takes cX8_takes 6 none :: T0) B.pre
  have hT : ∀ w ∈ T0, w.before _ s = true := fun w h => hts w (List.mem_cons_of_mem _ h)
  have hown : s.vm.findClass RX8 = some m.cls := findClass_of_methodNamed B.named
  have hlocks := B.notSynchronized
  subst hsz
  have hD := hD0.self (sz := s.heap.size)
  generalize hAe : va_A (wM cA aa S L) s.heap.size = A at hD ⊢
  have hA : ∀ q : Nat, s.heap.size ≤ q → A q := fun q h => by rw [← hAe]; exact Or.inr h
  have hS : va_S A s.heap s.heap [] := va_S.rf
  have hl := lv_entry ([.ref (aa 0), .int x1, .int x2, .int x3]) (n := 6) (Nat.le_of_ble_eq_true rfl)
  rw [lg_entry_eq]
  generalize (lg_sl ([.ref (aa 0), .int x1, .int x2, .int x3]) ++ List.replicate (6 - (lg_sl ([.ref (aa 0), .int x1, .int x2, .int x3])).length) Slot.unset).toArray = ls at hl ⊢
  have hl : lv_has ls 6 [(0, .ref (aa 0)), (1, .int x1), (2, .int x2), (3, .int x3)] := hl
  have F : tF p s m ([.ref (aa 0), .int x1, .int x2, .int x3] : List Value).toArray meth c G cA A RX8 cX8_takes 6 none := ⟨hx, hb, hr, hml, hT, hown, hlocks, hK, hN, hA⟩
  obtain ⟨H, hH⟩ : ∃ z, z = s.heap := ⟨_, rfl⟩
  rw [← hH] at hP
  have hS : va_S A s.heap H [] := by rw [hH]; exact hS
  suffices hgo : G_X8_takes p l e s m below meth c G cA A aa L x1 x2 x3 S' H [] (F0 m 0 ls []) by rw [hH] at hgo; exact hgo
  generalize ([] : List Loc) = locs at hS ⊢
  unfold f_X8_takes at h
  refine lv_aload_n hx hb dX8_takes_0 rfl (lv_at hl 0 rfl) ?_
  refine va_get (D := G) (ci := 8) (v := .ref (aa 54)) (C := RX8) (T := TX8) (N := 91) hx hb hT ku_8 hown hK hP 0 rfl rfl 53 (by decide) (hT _ kw_10_14) (fun _ h9 => h9) rfl dX8_takes_1 ?_
  refine lv_bipush (v := 10) hx hb dX8_takes_4 (by decide) ?_
  refine lv_iload_n hx hb dX8_takes_6 rfl (lv_at hl 1 rfl) ?_
  refine lv_imul hx hb dX8_takes_7 ?_
  refine lv_iload_n hx hb dX8_takes_8 rfl (lv_at hl 2 rfl) ?_
  refine lv_iadd hx hb dX8_takes_9 ?_
  obtain ⟨g1, h⟩ := tx_ck h
  refine va_iald (i := (((10 : Int32) * x1) + x2)) hx hb hK hP 28 0 rfl rfl (tx_in g1) dX8_takes_10 ?_
  refine lv_topi (fun y2 ey2 => ?_)
  have h := tx_let ey2 h
  refine lv_istore (lv' := [(4, .int y2), (0, .ref (aa 0)), (1, .int x1), (2, .int x2), (3, .int x3)]) hx hb dX8_takes_11 hl (by decide) rfl (fun ls hl => ?_)
  refine lv_aload_n hx hb dX8_takes_13 rfl (lv_at hl 1 rfl) ?_
  refine lv_iload_n hx hb dX8_takes_14 rfl (lv_at hl 2 rfl) ?_
  refine lv_iload_n hx hb dX8_takes_15 rfl (lv_at hl 3 rfl) ?_
  obtain ⟨r3, hc4, h⟩ := tx_bd h
  refine tw_ci tw_all hP hD hS hA (va_runV (As := [.int x1, .int x2]) (rest := []) ⟨hx, hb, hml, hown, hT⟩ (c_X8_belowOf l G cA H.size aa S L x1 x2  r3 hc4) (cwV 2 hT (tq_gV kw_31_6 kw_31_7 kw_31_8 kw_1_5 kw_31_9) rfl rfl rfl (by decide +kernel) ⟨Nat.le_of_ble_eq_true rfl, Nat.le_of_ble_eq_true rfl⟩) ⟨(tw_pre tw_all hP hD hK hN).1, va_recv hK hP (ci := 8) (q0 := 0) rfl rfl, (tw_pre tw_all hP hD hK hN).2⟩ rfl rfl hl.1 rfl (lv_room (Nat.le_of_ble_eq_true rfl)) dX8_takes_16 ⟨Nat.le_of_ble_eq_true rfl, Nat.le_of_ble_eq_true rfl⟩) (fun _ _ H locs z5 hP hD hS => ?_)
  subst z5
  rw [List.append_nil] at hP hD
  have hP : va_P G vwCl (wM cA aa S L) H := hP
  have hD : va_D A (wM cA aa S L) := hD
  refine lv_istore (lv' := [(5, .int r3), (4, .int y2), (0, .ref (aa 0)), (1, .int x1), (2, .int x2), (3, .int x3)]) hx hb dX8_takes_19 hl (by decide) rfl (fun ls hl => ?_)
  refine lv_aload_n hx hb dX8_takes_21 rfl (lv_at hl 2 rfl) ?_
  refine va_get (D := G) (ci := 8) (v := .ref (aa 56)) (C := RX8) (T := TX8) (N := 91) hx hb hT ku_8 hown hK hP 0 rfl rfl 55 (by decide) (hT _ kw_10_16) (fun _ h9 => h9) rfl dX8_takes_22 ?_
  refine lv_iconst (v := 5) hx hb dX8_takes_25 (by decide) ?_
  refine lv_iload_n hx hb dX8_takes_26 rfl (lv_at hl 3 rfl) ?_
  refine lv_imul hx hb dX8_takes_27 ?_
  refine lv_iload hx hb dX8_takes_28 (lv_at hl 1 rfl) ?_
  refine lv_iadd hx hb dX8_takes_30 ?_
  refine lv_dup2_11 hx hb dX8_takes_31 rfl rfl ?_
  obtain ⟨g6, h⟩ := tx_ck h
  refine va_iald (i := (((5 : Int32) * x1) + y2)) hx hb hK hP 30 0 rfl rfl (tx_in g6) dX8_takes_32 ?_
  refine lv_iconst (v := 1) hx hb dX8_takes_33 (by decide) ?_
  refine lv_isub hx hb dX8_takes_34 ?_
  refine va_iast (i := (((5 : Int32) * x1) + y2)) hx hb hK hP hD hS 30 0 rfl rfl (tx_in g6) dX8_takes_35 (fun H locs hP hD hS => ?_)
  obtain ⟨S_7, eS_7, h⟩ := tx_lt h
  rw [sM_a55, eS_7] at hP hD
  exact w_X8_takes_L36 F 2000 r3 S_7 H locs ls h hP hD hS (lv_sub hl [2, 3, 4, 5, 1, 0] rfl)
abbrev G_X8_hasAny (p : Program) (l : Launch) (e : Env) (s : State) (m : MethodId) (below : List Frame) (meth : Method) (c : Code) (G : va_G) (cA : Nat → ClassId) (A : Nat → Prop) (aa : Nat → Nat) (S : Tr) (L : Lo) (x1 : Int32) (x2 : Int32) (r0 : Int32) (H : Heap) (locs : List Loc) (g : JFrame) : Prop := W p l e (headSpec (.code yX8_hasAny cX8_hasAny 4 (some .boolean) :: T0) ({ frames := 0, cells := 0, slots := 0, locals := 0 } : Room)).room s m ([.ref (aa 0), .int x1, .int x2] : List Value).toArray below meth c H locs 0 0 (MQ below (tqQi G cA (fun (r : Int32) (_ : Unit) => r = r0) (fun (_ : Unit) => wM cA aa S L) A) ([.ref (aa 0), .int x1, .int x2] : List Value).toArray s 0 0 A) g
set_option maxHeartbeats 4000000 in
set_option maxRecDepth 100000 in
theorem w_X8_hasAny_L2 {p : Program} {l : Launch} {e : Env} {s : State} {m : MethodId} {below : List Frame} {meth : Method} {c : Code} {G : va_G} {cA : Nat → ClassId} {A : Nat → Prop} {aa : Nat → Nat} {S : Tr} {L : Lo} {x1₀ : Int32} {x2₀ : Int32} {r0 : Int32} {x1 : Int32} {x2 : Int32} (F : tF p s m ([.ref (aa 0), .int x1₀, .int x2₀] : List Value).toArray meth c G cA A RX8 cX8_hasAny 4 (some .boolean))    (N : Nat) : ∀ (x3 : Int32) (H : Heap) (locs : List Loc) (ls : Array Slot), lpF (fun _ => none) (fB_X8_hasAny_L2 S x1 x2) N x3 = some r0 → va_P G vwCl (wM cA aa S L) H → va_D A (wM cA aa S L) → va_S A s.heap H locs → lv_has ls 4 [(0, .ref (aa 0)), (1, .int x1), (2, .int x2), (3, .int x3)] → G_X8_hasAny p l e s m below meth c G cA A aa S L x1₀ x2₀ r0 H locs (F0 m 2 ls []) := by
  obtain ⟨hx, hb, hr, hml, hT, hown, hlocks, hK, hN, hA⟩ := id F
  induction N with
  | zero =>
    intro x3 H locs ls h
    have h : (none : Option (Int32)) = some r0 := h
    cases h
  | succ N hk2 =>
    intro x3 H locs ls h hP hD hS hl
    have h : fB_X8_hasAny_L2 S x1 x2 (lpF (fun _ => none) (fB_X8_hasAny_L2 S x1 x2) N) x3 = some r0 := h
    generalize hk2e : lpF (fun _ => none) (fB_X8_hasAny_L2 S x1 x2) N = k2 at h hk2
    unfold fB_X8_hasAny_L2 at h
    refine lv_iload_n hx hb dX8_hasAny_2 rfl (lv_at hl 3 rfl) ?_
    refine lv_aload_n hx hb dX8_hasAny_3 rfl (lv_at hl 0 rfl) ?_
    refine va_get (D := G) (ci := 8) (v := .int (S 0 14)) (C := RX8) (T := TX8) (N := 91) hx hb hT ku_8 hown hK hP 0 rfl rfl 14 (by decide) (hT _ kw_12_5) (fun _ h9 => h9) rfl dX8_hasAny_4 ?_
    refine lv_icmp_ge (tgt := 43) hx hb dX8_hasAny_7 (by decide) (fun c1 => ?_) (fun c1 => ?_)
    · have h := tx_pos c1 h
      refine lv_iconst (v := 0) hx hb dX8_hasAny_43 (by decide) ?_
      obtain rfl := tx_1 h
      exact W.zret (ty := .boolean) hx hb hr rfl (fun t ht hW => ⟨⟨_, (), rfl, rfl, by rw [ht]; exact hP, hD⟩, hS.F ht⟩) hS.2.2 dX8_hasAny_44
    · have h := tx_neg c1 h
      refine lv_aload_n hx hb dX8_hasAny_10 rfl (lv_at hl 0 rfl) ?_
      refine va_get (D := G) (ci := 8) (v := .ref (aa 30)) (C := RX8) (T := TX8) (N := 91) hx hb hT ku_8 hown hK hP 0 rfl rfl 29 (by decide) (hT _ kw_9_21) (fun _ h9 => h9) rfl dX8_hasAny_11 ?_
      refine lv_iload_n hx hb dX8_hasAny_14 rfl (lv_at hl 3 rfl) ?_
      obtain ⟨g2, h⟩ := tx_ck h
      refine va_iald (i := x3) hx hb hK hP 11 0 rfl rfl (tx_in g2) dX8_hasAny_15 ?_
      refine lv_iload_n hx hb dX8_hasAny_16 rfl (lv_at hl 2 rfl) ?_
      refine lv_icmp_ne (tgt := 37) hx hb dX8_hasAny_17 (by decide) (fun c3 => ?_) (fun c3 => ?_)
      · have h := tx_neg c3 h
        obtain ⟨y4, ey4, h⟩ := tx_lt h
        refine lv_iinc (v := y4) (lv' := [(3, .int y4), (0, .ref (aa 0)), (1, .int x1), (2, .int x2)]) hx hb dX8_hasAny_37 hl (k := 3) rfl ey4 (by decide) rfl (fun ls hl => ?_)
        refine lv_goto (tgt := 2) hx hb dX8_hasAny_40 (by decide) ?_
        exact hk2 y4 H locs ls h hP hD hS (lv_sub hl [1, 2, 3, 0] rfl)
      · have h := tx_pos c3 h
        refine lv_aload_n hx hb dX8_hasAny_20 rfl (lv_at hl 0 rfl) ?_
        refine va_get (D := G) (ci := 8) (v := .ref (aa 53)) (C := RX8) (T := TX8) (N := 91) hx hb hT ku_8 hown hK hP 0 rfl rfl 52 (by decide) (hT _ kw_10_13) (fun _ h9 => h9) rfl dX8_hasAny_21 ?_
        refine lv_bipush (v := 10) hx hb dX8_hasAny_24 (by decide) ?_
        refine lv_iload_n hx hb dX8_hasAny_26 rfl (lv_at hl 1 rfl) ?_
        refine lv_imul hx hb dX8_hasAny_27 ?_
        refine lv_iload_n hx hb dX8_hasAny_28 rfl (lv_at hl 3 rfl) ?_
        refine lv_iadd hx hb dX8_hasAny_29 ?_
        obtain ⟨g5, h⟩ := tx_ck h
        refine va_iald (i := (((10 : Int32) * x1) + x3)) hx hb hK hP 27 0 rfl rfl (tx_in g5) dX8_hasAny_30 ?_
        refine lv_iconst (v := 1) hx hb dX8_hasAny_31 (by decide) ?_
        refine lv_icmp_ne (tgt := 37) hx hb dX8_hasAny_32 (by decide) (fun c6 => ?_) (fun c6 => ?_)
        · have h := tx_neg c6 h
          obtain ⟨y7, ey7, h⟩ := tx_lt h
          refine lv_iinc (v := y7) (lv' := [(3, .int y7), (0, .ref (aa 0)), (1, .int x1), (2, .int x2)]) hx hb dX8_hasAny_37 hl (k := 3) rfl ey7 (by decide) rfl (fun ls hl => ?_)
          refine lv_goto (tgt := 2) hx hb dX8_hasAny_40 (by decide) ?_
          exact hk2 y7 H locs ls h hP hD hS (lv_sub hl [1, 2, 3, 0] rfl)
        · have h := tx_pos c6 h
          refine lv_iconst (v := 1) hx hb dX8_hasAny_35 (by decide) ?_
          obtain rfl := tx_1 h
          exact W.zret (ty := .boolean) hx hb hr rfl (fun t ht hW => ⟨⟨_, (), rfl, rfl, by rw [ht]; exact hP, hD⟩, hS.F ht⟩) hS.2.2 dX8_hasAny_36
set_option maxHeartbeats 4000000 in
set_option maxRecDepth 100000 in
theorem c_X8_hasAny (l : Launch) (G : va_G) (cA : Nat → ClassId) (sz : Nat) (aa : Nat → Nat) (S : Tr) (L : Lo) (x1 : Int32) (x2 : Int32)  (r0 : Int32) (h : f_X8_hasAny S x1 x2 = some r0) : Met l yX8_hasAny (.code yX8_hasAny cX8_hasAny 4 (some .boolean) :: T0) ({ frames := 0, cells := 0, slots := 0, locals := 0 } : Room) (tqP G cA [.ref (aa 0), .int x1, .int x2] (wM cA aa S L) sz) (tqQi G cA (fun (r : Int32) (_ : Unit) => r = r0) (fun (_ : Unit) => wM cA aa S L) (va_A (wM cA aa S L) sz)) 0 0 (va_A (wM cA aa S L) sz) := by
  refine Met.ofW (cc := cX8_hasAny) (maxL := 4) (ret := (some .boolean)) (by decide) rfl ?_
  intro p e s m args below meth c s₁ B hml hv
  obtain ⟨rfl, hsz, hP, hK, hD0, hN⟩ := hv
  have hx := B.exec
  have hb := B.bytes
  have hr := B.returns
  have hts := atoms_spec (ws := .code yX8_hasAny cX8_hasAny 4 (some .boolean) :: T0) B.pre
  have hT : ∀ w ∈ T0, w.before _ s = true := fun w h => hts w (List.mem_cons_of_mem _ h)
  have hown : s.vm.findClass RX8 = some m.cls := findClass_of_methodNamed B.named
  have hlocks := B.notSynchronized
  subst hsz
  have hD := hD0.self (sz := s.heap.size)
  generalize hAe : va_A (wM cA aa S L) s.heap.size = A at hD ⊢
  have hA : ∀ q : Nat, s.heap.size ≤ q → A q := fun q h => by rw [← hAe]; exact Or.inr h
  have hS : va_S A s.heap s.heap [] := va_S.rf
  have hl := lv_entry ([.ref (aa 0), .int x1, .int x2]) (n := 4) (Nat.le_of_ble_eq_true rfl)
  rw [lg_entry_eq]
  generalize (lg_sl ([.ref (aa 0), .int x1, .int x2]) ++ List.replicate (4 - (lg_sl ([.ref (aa 0), .int x1, .int x2])).length) Slot.unset).toArray = ls at hl ⊢
  have hl : lv_has ls 4 [(0, .ref (aa 0)), (1, .int x1), (2, .int x2)] := hl
  have F : tF p s m ([.ref (aa 0), .int x1, .int x2] : List Value).toArray meth c G cA A RX8 cX8_hasAny 4 (some .boolean) := ⟨hx, hb, hr, hml, hT, hown, hlocks, hK, hN, hA⟩
  obtain ⟨H, hH⟩ : ∃ z, z = s.heap := ⟨_, rfl⟩
  rw [← hH] at hP
  have hS : va_S A s.heap H [] := by rw [hH]; exact hS
  suffices hgo : G_X8_hasAny p l e s m below meth c G cA A aa S L x1 x2 r0 H [] (F0 m 0 ls []) by rw [hH] at hgo; exact hgo
  generalize ([] : List Loc) = locs at hS ⊢
  unfold f_X8_hasAny at h
  refine lv_iconst (v := 0) hx hb dX8_hasAny_0 (by decide) ?_
  refine lv_istore_n (lv' := [(3, .int 0), (0, .ref (aa 0)), (1, .int x1), (2, .int x2)]) hx hb dX8_hasAny_1 rfl hl (by decide) rfl (fun ls hl => ?_)
  exact w_X8_hasAny_L2 F 2000 0 H locs ls h hP hD hS (lv_sub hl [1, 2, 3, 0] rfl)
abbrev G_X8_outs (p : Program) (l : Launch) (e : Env) (s : State) (m : MethodId) (below : List Frame) (meth : Method) (c : Code) (G : va_G) (cA : Nat → ClassId) (A : Nat → Prop) (aa : Nat → Nat) (x1 : Int32) (S' : Tr) (L' : Lo) (H : Heap) (locs : List Loc) (g : JFrame) : Prop := W p l e (headSpec (.code yX8_outs cX8_outs 6 none :: T0) ({ frames := 6, cells := 0, slots := 0, locals := 145 } : Room)).room s m ([.ref (aa 0), .int x1] : List Value).toArray below meth c H locs 0 0 (MQ below (tqQv G cA (fun (_ : Unit) => True) (fun (_ : Unit) => wM cA aa S' L') A) ([.ref (aa 0), .int x1] : List Value).toArray s 0 0 A) g
set_option maxHeartbeats 4000000 in
set_option maxRecDepth 100000 in
theorem w_X8_outs_L261 {p : Program} {l : Launch} {e : Env} {s : State} {m : MethodId} {below : List Frame} {meth : Method} {c : Code} {G : va_G} {cA : Nat → ClassId} {A : Nat → Prop} {aa : Nat → Nat} {x1₀ : Int32} {S' : Tr} {L' : Lo} {L : Lo} {x1 : Int32} (F : tF p s m ([.ref (aa 0), .int x1₀] : List Value).toArray meth c G cA A RX8 cX8_outs 6 none)    (N : Nat) : ∀ (x3 : Int32) (S : Tr) (H : Heap) (locs : List Loc) (ls : Array Slot), lpF (fun _ _ => none) (fB_X8_outs_L261 L x1) N x3 S = some (S', L') → va_P G vwCl (wM cA aa S L) H → va_D A (wM cA aa S L) → va_S A s.heap H locs → lv_has ls 6 [(0, .ref (aa 0)), (1, .int x1), (3, .int x3)] → G_X8_outs p l e s m below meth c G cA A aa x1₀ S' L' H locs (F0 m 261 ls []) := by
  obtain ⟨hx, hb, hr, hml, hT, hown, hlocks, hK, hN, hA⟩ := id F
  induction N with
  | zero =>
    intro x3 S H locs ls h
    have h : (none : Option (Tr × Lo)) = some (S', L') := h
    cases h
  | succ N hk261 =>
    intro x3 S H locs ls h hP hD hS hl
    have h : fB_X8_outs_L261 L x1 (lpF (fun _ _ => none) (fB_X8_outs_L261 L x1) N) x3 S = some (S', L') := h
    generalize hk261e : lpF (fun _ _ => none) (fB_X8_outs_L261 L x1) N = k261 at h hk261
    unfold fB_X8_outs_L261 at h
    refine lv_iload_n hx hb dX8_outs_261 rfl (lv_at hl 2 rfl) ?_
    refine lv_aload_n hx hb dX8_outs_262 rfl (lv_at hl 0 rfl) ?_
    refine va_get (D := G) (ci := 8) (v := .int (S 0 13)) (C := RX8) (T := TX8) (N := 91) hx hb hT ku_8 hown hK hP 0 rfl rfl 13 (by decide) (hT _ kw_12_4) (fun _ h9 => h9) rfl dX8_outs_263 ?_
    refine lv_icmp_ge (tgt := 302) hx hb dX8_outs_266 (by decide) (fun c6 => ?_) (fun c6 => ?_)
    · have h := tx_pos c6 h
      obtain ⟨rfl, rfl⟩ := tx_2 h
      exact W.vret hx hb hr (fun t ht hW => ⟨⟨(), rfl, trivial, by rw [ht]; exact hP, hD⟩, hS.F ht⟩) hS.2.2 dX8_outs_302
    · have h := tx_neg c6 h
      refine lv_aload_n hx hb dX8_outs_269 rfl (lv_at hl 0 rfl) ?_
      refine va_get (D := G) (ci := 8) (v := .ref (aa 59)) (C := RX8) (T := TX8) (N := 91) hx hb hT ku_8 hown hK hP 0 rfl rfl 58 (by decide) (hT _ kw_10_19) (fun _ h9 => h9) rfl dX8_outs_270 ?_
      refine lv_bipush (v := 6) hx hb dX8_outs_273 (by decide) ?_
      refine lv_iload_n hx hb dX8_outs_275 rfl (lv_at hl 1 rfl) ?_
      refine lv_imul hx hb dX8_outs_276 ?_
      refine lv_iload_n hx hb dX8_outs_277 rfl (lv_at hl 2 rfl) ?_
      refine lv_iadd hx hb dX8_outs_278 ?_
      obtain ⟨g7, h⟩ := tx_ck h
      refine va_iald (i := (((6 : Int32) * x1) + x3)) hx hb hK hP 33 0 rfl rfl (tx_in g7) dX8_outs_279 ?_
      refine lv_iconst (v := 1) hx hb dX8_outs_280 (by decide) ?_
      refine lv_icmp_ne (tgt := 296) hx hb dX8_outs_281 (by decide) (fun c8 => ?_) (fun c8 => ?_)
      · have h := tx_neg c8 h
        obtain ⟨y9, ey9, h⟩ := tx_lt h
        refine lv_iinc (v := y9) (lv' := [(3, .int y9), (0, .ref (aa 0)), (1, .int x1)]) hx hb dX8_outs_296 hl (k := 2) rfl ey9 (by decide) rfl (fun ls hl => ?_)
        refine lv_goto (tgt := 261) hx hb dX8_outs_299 (by decide) ?_
        exact hk261 y9 S H locs ls h hP hD hS (lv_sub hl [1, 2, 0] rfl)
      · have h := tx_pos c8 h
        refine lv_aload_n hx hb dX8_outs_284 rfl (lv_at hl 0 rfl) ?_
        refine va_get (D := G) (ci := 8) (v := .ref (aa 59)) (C := RX8) (T := TX8) (N := 91) hx hb hT ku_8 hown hK hP 0 rfl rfl 58 (by decide) (hT _ kw_10_19) (fun _ h9 => h9) rfl dX8_outs_285 ?_
        refine lv_bipush (v := 6) hx hb dX8_outs_288 (by decide) ?_
        refine lv_iload_n hx hb dX8_outs_290 rfl (lv_at hl 1 rfl) ?_
        refine lv_imul hx hb dX8_outs_291 ?_
        refine lv_iload_n hx hb dX8_outs_292 rfl (lv_at hl 2 rfl) ?_
        refine lv_iadd hx hb dX8_outs_293 ?_
        refine lv_iconst (v := 2) hx hb dX8_outs_294 (by decide) ?_
        refine va_iast (i := (((6 : Int32) * x1) + x3)) hx hb hK hP hD hS 33 0 rfl rfl (tx_in g7) dX8_outs_295 (fun H locs hP hD hS => ?_)
        obtain ⟨S_10, eS_10, h⟩ := tx_lt h
        rw [sM_a58, eS_10] at hP hD
        obtain ⟨y11, ey11, h⟩ := tx_lt h
        refine lv_iinc (v := y11) (lv' := [(3, .int y11), (0, .ref (aa 0)), (1, .int x1)]) hx hb dX8_outs_296 hl (k := 2) rfl ey11 (by decide) rfl (fun ls hl => ?_)
        refine lv_goto (tgt := 261) hx hb dX8_outs_299 (by decide) ?_
        exact hk261 y11 S_10 H locs ls h hP hD hS (lv_sub hl [1, 2, 0] rfl)
set_option maxHeartbeats 4000000 in
set_option maxRecDepth 100000 in
theorem w_X8_outs_L223 {p : Program} {l : Launch} {e : Env} {s : State} {m : MethodId} {below : List Frame} {meth : Method} {c : Code} {G : va_G} {cA : Nat → ClassId} {A : Nat → Prop} {aa : Nat → Nat} {x1₀ : Int32} {S' : Tr} {L' : Lo} {L : Lo} {x1 : Int32} (F : tF p s m ([.ref (aa 0), .int x1₀] : List Value).toArray meth c G cA A RX8 cX8_outs 6 none)    (N : Nat) : ∀ (x3 : Int32) (S : Tr) (H : Heap) (locs : List Loc) (ls : Array Slot), lpF (fun _ _ => none) (fB_X8_outs_L223 L x1) N x3 S = some (S', L') → va_P G vwCl (wM cA aa S L) H → va_D A (wM cA aa S L) → va_S A s.heap H locs → lv_has ls 6 [(0, .ref (aa 0)), (1, .int x1), (3, .int x3)] → G_X8_outs p l e s m below meth c G cA A aa x1₀ S' L' H locs (F0 m 223 ls []) := by
  obtain ⟨hx, hb, hr, hml, hT, hown, hlocks, hK, hN, hA⟩ := id F
  induction N with
  | zero =>
    intro x3 S H locs ls h
    have h : (none : Option (Tr × Lo)) = some (S', L') := h
    cases h
  | succ N hk223 =>
    intro x3 S H locs ls h hP hD hS hl
    have h : fB_X8_outs_L223 L x1 (lpF (fun _ _ => none) (fB_X8_outs_L223 L x1) N) x3 S = some (S', L') := h
    generalize hk223e : lpF (fun _ _ => none) (fB_X8_outs_L223 L x1) N = k223 at h hk223
    unfold fB_X8_outs_L223 at h
    refine lv_iload_n hx hb dX8_outs_223 rfl (lv_at hl 2 rfl) ?_
    refine lv_aload_n hx hb dX8_outs_224 rfl (lv_at hl 0 rfl) ?_
    refine va_get (D := G) (ci := 8) (v := .int (S 0 14)) (C := RX8) (T := TX8) (N := 91) hx hb hT ku_8 hown hK hP 0 rfl rfl 14 (by decide) (hT _ kw_12_5) (fun _ h9 => h9) rfl dX8_outs_225 ?_
    refine lv_icmp_ge (tgt := 259) hx hb dX8_outs_228 (by decide) (fun c5 => ?_) (fun c5 => ?_)
    · have h := tx_pos c5 h
      refine lv_iconst (v := 0) hx hb dX8_outs_259 (by decide) ?_
      refine lv_istore_n (lv' := [(3, .int 0), (0, .ref (aa 0)), (1, .int x1)]) hx hb dX8_outs_260 rfl hl (by decide) rfl (fun ls hl => ?_)
      exact w_X8_outs_L261 F 2000 0 S H locs ls h hP hD hS (lv_sub hl [1, 2, 0] rfl)
    · have h := tx_neg c5 h
      refine lv_aload_n hx hb dX8_outs_231 rfl (lv_at hl 0 rfl) ?_
      refine va_get (D := G) (ci := 8) (v := .ref (aa 53)) (C := RX8) (T := TX8) (N := 91) hx hb hT ku_8 hown hK hP 0 rfl rfl 52 (by decide) (hT _ kw_10_13) (fun _ h9 => h9) rfl dX8_outs_232 ?_
      refine lv_bipush (v := 10) hx hb dX8_outs_235 (by decide) ?_
      refine lv_iload_n hx hb dX8_outs_237 rfl (lv_at hl 1 rfl) ?_
      refine lv_imul hx hb dX8_outs_238 ?_
      refine lv_iload_n hx hb dX8_outs_239 rfl (lv_at hl 2 rfl) ?_
      refine lv_iadd hx hb dX8_outs_240 ?_
      obtain ⟨g12, h⟩ := tx_ck h
      refine va_iald (i := (((10 : Int32) * x1) + x3)) hx hb hK hP 27 0 rfl rfl (tx_in g12) dX8_outs_241 ?_
      refine lv_iconst (v := 1) hx hb dX8_outs_242 (by decide) ?_
      refine lv_icmp_ne (tgt := 253) hx hb dX8_outs_243 (by decide) (fun c13 => ?_) (fun c13 => ?_)
      · have h := tx_neg c13 h
        obtain ⟨y14, ey14, h⟩ := tx_lt h
        refine lv_iinc (v := y14) (lv' := [(3, .int y14), (0, .ref (aa 0)), (1, .int x1)]) hx hb dX8_outs_253 hl (k := 2) rfl ey14 (by decide) rfl (fun ls hl => ?_)
        refine lv_goto (tgt := 223) hx hb dX8_outs_256 (by decide) ?_
        exact hk223 y14 S H locs ls h hP hD hS (lv_sub hl [1, 2, 0] rfl)
      · have h := tx_pos c13 h
        refine lv_aload_n hx hb dX8_outs_246 rfl (lv_at hl 0 rfl) ?_
        refine lv_iload_n hx hb dX8_outs_247 rfl (lv_at hl 1 rfl) ?_
        refine lv_iload_n hx hb dX8_outs_248 rfl (lv_at hl 2 rfl) ?_
        refine lv_iconst (v := 5) hx hb dX8_outs_249 (by decide) ?_
        obtain ⟨S_15, hc16, h⟩ := tx_bd h
        refine tw_cv tw_all hP hD hS hA (va_runV (As := [.int x1, .int x3, .int 5]) (rest := []) ⟨hx, hb, hml, hown, hT⟩ (c_X8_takes l G cA H.size aa S L x1 x3 (5 : Int32)  S_15 hc16) (cwV 3 hT (tq_gV kw_37_18 kw_37_19 kw_37_20 kw_1_5 kw_37_21) rfl rfl rfl (by decide +kernel) ⟨Nat.le_of_ble_eq_true rfl, Nat.le_of_ble_eq_true rfl⟩) ⟨(tw_pre tw_all hP hD hK hN).1, va_recv hK hP (ci := 8) (q0 := 0) rfl rfl, (tw_pre tw_all hP hD hK hN).2⟩ rfl rfl hl.1 rfl (lv_room (Nat.le_of_ble_eq_true rfl)) dX8_outs_250 ⟨Nat.le_of_ble_eq_true rfl, Nat.le_of_ble_eq_true rfl⟩) (fun _ H locs z17 hP hD hS => ?_)
        rw [List.append_nil] at hP hD
        have hP : va_P G vwCl (wM cA aa S_15 L) H := hP
        have hD : va_D A (wM cA aa S_15 L) := hD
        obtain ⟨y18, ey18, h⟩ := tx_lt h
        refine lv_iinc (v := y18) (lv' := [(3, .int y18), (0, .ref (aa 0)), (1, .int x1)]) hx hb dX8_outs_253 hl (k := 2) rfl ey18 (by decide) rfl (fun ls hl => ?_)
        refine lv_goto (tgt := 223) hx hb dX8_outs_256 (by decide) ?_
        exact hk223 y18 S_15 H locs ls h hP hD hS (lv_sub hl [1, 2, 0] rfl)
set_option maxHeartbeats 4000000 in
set_option maxRecDepth 100000 in
theorem w_X8_outs_J209 {p : Program} {l : Launch} {e : Env} {s : State} {m : MethodId} {below : List Frame} {meth : Method} {c : Code} {G : va_G} {cA : Nat → ClassId} {A : Nat → Prop} {aa : Nat → Nat} {x1₀ : Int32} {S' : Tr} {L' : Lo} (F : tF p s m ([.ref (aa 0), .int x1₀] : List Value).toArray meth c G cA A RX8 cX8_outs 6 none)    (x1 : Int32) (S : Tr) (L : Lo) (H : Heap) (locs : List Loc) (ls : Array Slot) (h : fJ_X8_outs_J209 x1 S L = some (S', L')) (hP : va_P G vwCl (wM cA aa S L) H) (hD : va_D A (wM cA aa S L)) (hS : va_S A s.heap H locs) (hl : lv_has ls 6 [(0, .ref (aa 0)), (1, .int x1)]) : G_X8_outs p l e s m below meth c G cA A aa x1₀ S' L' H locs (F0 m 209 ls []) := by
  obtain ⟨hx, hb, hr, hml, hT, hown, hlocks, hK, hN, hA⟩ := id F
  unfold fJ_X8_outs_J209 at h
  refine lv_aload_n hx hb dX8_outs_209 rfl (lv_at hl 0 rfl) ?_
  refine va_get (D := G) (ci := 8) (v := .ref (aa 62)) (C := RX8) (T := TX8) (N := 91) hx hb hT ku_8 hown hK hP 0 rfl rfl 61 (by decide) (hT _ kw_10_22) (fun _ h9 => h9) rfl dX8_outs_210 ?_
  refine lv_iload_n hx hb dX8_outs_213 rfl (lv_at hl 1 rfl) ?_
  obtain ⟨g3, h⟩ := tx_ck h
  refine va_iald (i := x1) hx hb hK hP 36 0 rfl rfl (tx_in g3) dX8_outs_214 ?_
  refine lv_bipush (v := 20) hx hb dX8_outs_215 (by decide) ?_
  refine lv_icmp_ge (tgt := 221) hx hb dX8_outs_217 (by decide) (fun c4 => ?_) (fun c4 => ?_)
  · have h := tx_pos c4 h
    refine lv_iconst (v := 0) hx hb dX8_outs_221 (by decide) ?_
    refine lv_istore_n (lv' := [(3, .int 0), (0, .ref (aa 0)), (1, .int x1)]) hx hb dX8_outs_222 rfl hl (by decide) rfl (fun ls hl => ?_)
    exact w_X8_outs_L223 F 2000 0 S H locs ls h hP hD hS (lv_sub hl [1, 2, 0] rfl)
  · have h := tx_neg c4 h
    obtain ⟨rfl, rfl⟩ := tx_2 h
    exact W.vret hx hb hr (fun t ht hW => ⟨⟨(), rfl, trivial, by rw [ht]; exact hP, hD⟩, hS.F ht⟩) hS.2.2 dX8_outs_220
set_option maxHeartbeats 4000000 in
set_option maxRecDepth 100000 in
theorem w_X8_outs_J182 {p : Program} {l : Launch} {e : Env} {s : State} {m : MethodId} {below : List Frame} {meth : Method} {c : Code} {G : va_G} {cA : Nat → ClassId} {A : Nat → Prop} {aa : Nat → Nat} {x1₀ : Int32} {S' : Tr} {L' : Lo} {x1 : Int32} (F : tF p s m ([.ref (aa 0), .int x1₀] : List Value).toArray meth c G cA A RX8 cX8_outs 6 none)  (k9 : Int32 → Int32 → Tr → Lo → Option (Tr × Lo)) (hk9 : ∀ (x2 : Int32) (x3 : Int32) (S : Tr) (L : Lo) (H : Heap) (locs : List Loc) (ls : Array Slot), k9 x2 x3 S L = some (S', L') → va_P G vwCl (wM cA aa S L) H → va_D A (wM cA aa S L) → va_S A s.heap H locs → lv_has ls 6 [(0, .ref (aa 0)), (1, .int x1), (2, .int x2), (3, .int x3)] → G_X8_outs p l e s m below meth c G cA A aa x1₀ S' L' H locs (F0 m 9 ls [])) (x2 : Int32) (x3 : Int32) (S : Tr) (L : Lo) (H : Heap) (locs : List Loc) (ls : Array Slot) (h : fJ_X8_outs_J182 k9 x1 x2 x3 S L = some (S', L')) (hP : va_P G vwCl (wM cA aa S L) H) (hD : va_D A (wM cA aa S L)) (hS : va_S A s.heap H locs) (hl : lv_has ls 6 [(0, .ref (aa 0)), (1, .int x1), (2, .int x2), (3, .int x3)]) : G_X8_outs p l e s m below meth c G cA A aa x1₀ S' L' H locs (F0 m 182 ls []) := by
  obtain ⟨hx, hb, hr, hml, hT, hown, hlocks, hK, hN, hA⟩ := id F
  unfold fJ_X8_outs_J182 at h
  refine lv_aload_n hx hb dX8_outs_182 rfl (lv_at hl 0 rfl) ?_
  refine lv_iload_n hx hb dX8_outs_183 rfl (lv_at hl 1 rfl) ?_
  refine lv_iload_n hx hb dX8_outs_184 rfl (lv_at hl 3 rfl) ?_
  obtain ⟨r24, hc25, h⟩ := tx_bd h
  refine tw_ci tw_all hP hD hS hA (va_runV (As := [.int x1, .int x3]) (rest := []) ⟨hx, hb, hml, hown, hT⟩ (c_X8_hasAny l G cA H.size aa S L x1 x3  r24 hc25) (cwV 2 hT (tq_gV kw_44_15 kw_44_16 kw_44_17 kw_1_5 kw_44_18) rfl rfl rfl (by decide +kernel) ⟨Nat.le_of_ble_eq_true rfl, Nat.le_of_ble_eq_true rfl⟩) ⟨(tw_pre tw_all hP hD hK hN).1, va_recv hK hP (ci := 8) (q0 := 0) rfl rfl, (tw_pre tw_all hP hD hK hN).2⟩ rfl rfl hl.1 rfl (lv_room (Nat.le_of_ble_eq_true rfl)) dX8_outs_185 ⟨Nat.le_of_ble_eq_true rfl, Nat.le_of_ble_eq_true rfl⟩) (fun _ _ H locs z26 hP hD hS => ?_)
  subst z26
  rw [List.append_nil] at hP hD
  have hP : va_P G vwCl (wM cA aa S L) H := hP
  have hD : va_D A (wM cA aa S L) := hD
  refine lv_if_ne (tgt := 203) hx hb dX8_outs_188 (by decide) (fun c27 => ?_) (fun c27 => ?_)
  · have h := tx_neg c27 h
    obtain ⟨y28, ey28, h⟩ := tx_lt h
    refine lv_iinc (v := y28) (lv' := [(3, .int y28), (0, .ref (aa 0)), (1, .int x1), (2, .int x2)]) hx hb dX8_outs_203 hl (k := 3) rfl ey28 (by decide) rfl (fun ls hl => ?_)
    refine lv_goto (tgt := 9) hx hb dX8_outs_206 (by decide) ?_
    exact hk9 x2 y28 S L H locs ls h hP hD hS (lv_sub hl [1, 2, 3, 0] rfl)
  · have h := tx_pos c27 h
    refine lv_aload_n hx hb dX8_outs_191 rfl (lv_at hl 0 rfl) ?_
    refine va_get (D := G) (ci := 8) (v := .ref (aa 59)) (C := RX8) (T := TX8) (N := 91) hx hb hT ku_8 hown hK hP 0 rfl rfl 58 (by decide) (hT _ kw_10_19) (fun _ h9 => h9) rfl dX8_outs_192 ?_
    refine lv_bipush (v := 6) hx hb dX8_outs_195 (by decide) ?_
    refine lv_iload_n hx hb dX8_outs_197 rfl (lv_at hl 1 rfl) ?_
    refine lv_imul hx hb dX8_outs_198 ?_
    refine lv_iload_n hx hb dX8_outs_199 rfl (lv_at hl 3 rfl) ?_
    refine lv_iadd hx hb dX8_outs_200 ?_
    refine lv_iconst (v := 2) hx hb dX8_outs_201 (by decide) ?_
    obtain ⟨g29, h⟩ := tx_ck h
    refine va_iast (i := (((6 : Int32) * x1) + x3)) hx hb hK hP hD hS 33 0 rfl rfl (tx_in g29) dX8_outs_202 (fun H locs hP hD hS => ?_)
    obtain ⟨S_30, eS_30, h⟩ := tx_lt h
    rw [sM_a58, eS_30] at hP hD
    obtain ⟨y31, ey31, h⟩ := tx_lt h
    refine lv_iinc (v := y31) (lv' := [(3, .int y31), (0, .ref (aa 0)), (1, .int x1), (2, .int x2)]) hx hb dX8_outs_203 hl (k := 3) rfl ey31 (by decide) rfl (fun ls hl => ?_)
    refine lv_goto (tgt := 9) hx hb dX8_outs_206 (by decide) ?_
    exact hk9 x2 y31 S_30 L H locs ls h hP hD hS (lv_sub hl [1, 2, 3, 0] rfl)
set_option maxHeartbeats 4000000 in
set_option maxRecDepth 100000 in
theorem w_X8_outs_J117 {p : Program} {l : Launch} {e : Env} {s : State} {m : MethodId} {below : List Frame} {meth : Method} {c : Code} {G : va_G} {cA : Nat → ClassId} {A : Nat → Prop} {aa : Nat → Nat} {x1₀ : Int32} {S' : Tr} {L' : Lo} {x1 : Int32} {x3 : Int32} (F : tF p s m ([.ref (aa 0), .int x1₀] : List Value).toArray meth c G cA A RX8 cX8_outs 6 none)  (k9 : Int32 → Int32 → Tr → Lo → Option (Tr × Lo)) (k32 : Int32 → Int32 → Tr → Lo → Option (Tr × Lo)) (hk9 : ∀ (x2 : Int32) (x3 : Int32) (S : Tr) (L : Lo) (H : Heap) (locs : List Loc) (ls : Array Slot), k9 x2 x3 S L = some (S', L') → va_P G vwCl (wM cA aa S L) H → va_D A (wM cA aa S L) → va_S A s.heap H locs → lv_has ls 6 [(0, .ref (aa 0)), (1, .int x1), (2, .int x2), (3, .int x3)] → G_X8_outs p l e s m below meth c G cA A aa x1₀ S' L' H locs (F0 m 9 ls [])) (hk32 : ∀ (x2 : Int32) (x4 : Int32) (S : Tr) (L : Lo) (H : Heap) (locs : List Loc) (ls : Array Slot), k32 x2 x4 S L = some (S', L') → va_P G vwCl (wM cA aa S L) H → va_D A (wM cA aa S L) → va_S A s.heap H locs → lv_has ls 6 [(0, .ref (aa 0)), (1, .int x1), (2, .int x2), (3, .int x3), (4, .int x4)] → G_X8_outs p l e s m below meth c G cA A aa x1₀ S' L' H locs (F0 m 32 ls [])) (x4 : Int32) (x5 : Int32) (s0 : Int32) (S : Tr) (L : Lo) (H : Heap) (locs : List Loc) (ls : Array Slot) (h : fJ_X8_outs_J117 k9 k32 x1 x3 x4 x5 s0 S L = some (S', L')) (hP : va_P G vwCl (wM cA aa S L) H) (hD : va_D A (wM cA aa S L)) (hS : va_S A s.heap H locs) (hl : lv_has ls 6 [(2, .int s0), (0, .ref (aa 0)), (1, .int x1), (3, .int x3), (4, .int x4), (5, .int x5)]) : G_X8_outs p l e s m below meth c G cA A aa x1₀ S' L' H locs (F0 m 117 ls []) := by
  obtain ⟨hx, hb, hr, hml, hT, hown, hlocks, hK, hN, hA⟩ := id F
  unfold fJ_X8_outs_J117 at h
  refine lv_istore_n (lv' := [(2, .int s0), (0, .ref (aa 0)), (1, .int x1), (3, .int x3), (4, .int x4), (5, .int x5)]) hx hb dX8_outs_117 rfl hl (by decide) rfl (fun ls hl => ?_)
  refine lv_iload_n hx hb dX8_outs_118 rfl (lv_at hl 0 rfl) ?_
  refine lv_if_ne (tgt := 125) hx hb dX8_outs_119 (by decide) (fun c43 => ?_) (fun c43 => ?_)
  · have h := tx_neg c43 h
    refine lv_aload_n hx hb dX8_outs_125 rfl (lv_at hl 1 rfl) ?_
    refine lv_dup hx hb dX8_outs_126 rfl ?_
    refine va_get (D := G) (ci := 8) (v := .int (S 0 72)) (C := RX8) (T := TX8) (N := 91) hx hb hT ku_8 hown hK hP 0 rfl rfl 72 (by decide) (hT _ kw_43_22) (fun _ h9 => h9) rfl dX8_outs_127 ?_
    refine lv_iload hx hb dX8_outs_130 (lv_at hl 5 rfl) ?_
    refine lv_iadd hx hb dX8_outs_132 ?_
    refine va_put (D := G) (ci := 8) (v := .int ((S 0 72) + x5)) (ty := .int) (C := RX8) (T := TX8) (N := 91) hx hb hT ku_8 tyX8 tyX8_ok nmX8 hown hK hP hD hS 0 rfl rfl 72 (by decide) (hT _ kw_43_22) (fun _ h9 => h9) rfl (by decide +kernel) rfl rfl (Nat.le_of_ble_eq_true rfl) dX8_outs_133 (fun H locs hP hD hS => ?_)
    obtain ⟨S_44, eS_44, h⟩ := tx_lt h
    rw [sM_f72, eS_44] at hP hD
    refine lv_aload_n hx hb dX8_outs_136 rfl (lv_at hl 1 rfl) ?_
    refine va_get (D := G) (ci := 8) (v := .ref (aa 60)) (C := RX8) (T := TX8) (N := 91) hx hb hT ku_8 hown hK hP 0 rfl rfl 59 (by decide) (hT _ kw_10_20) (fun _ h9 => h9) rfl dX8_outs_137 ?_
    refine lv_bipush (v := 6) hx hb dX8_outs_140 (by decide) ?_
    refine lv_iload_n hx hb dX8_outs_142 rfl (lv_at hl 2 rfl) ?_
    refine lv_imul hx hb dX8_outs_143 ?_
    refine lv_iload_n hx hb dX8_outs_144 rfl (lv_at hl 3 rfl) ?_
    refine lv_iadd hx hb dX8_outs_145 ?_
    refine lv_dup2_11 hx hb dX8_outs_146 rfl rfl ?_
    obtain ⟨g45, h⟩ := tx_ck h
    refine va_iald (i := (((6 : Int32) * x1) + x3)) hx hb hK hP 34 0 rfl rfl (tx_in g45) dX8_outs_147 ?_
    refine lv_iload hx hb dX8_outs_148 (lv_at hl 5 rfl) ?_
    refine lv_iadd hx hb dX8_outs_150 ?_
    refine va_iast (i := (((6 : Int32) * x1) + x3)) hx hb hK hP hD hS 34 0 rfl rfl (tx_in g45) dX8_outs_151 (fun H locs hP hD hS => ?_)
    obtain ⟨S_46, eS_46, h⟩ := tx_lt h
    rw [sM_a59, eS_46] at hP hD
    refine lv_aload_n hx hb dX8_outs_152 rfl (lv_at hl 1 rfl) ?_
    refine va_get (D := G) (ci := 8) (v := .ref (aa 61)) (C := RX8) (T := TX8) (N := 91) hx hb hT ku_8 hown hK hP 0 rfl rfl 60 (by decide) (hT _ kw_10_21) (fun _ h9 => h9) rfl dX8_outs_153 ?_
    refine lv_iload_n hx hb dX8_outs_156 rfl (lv_at hl 2 rfl) ?_
    refine lv_dup2_11 hx hb dX8_outs_157 rfl rfl ?_
    obtain ⟨g47, h⟩ := tx_ck h
    refine va_iald (i := x1) hx hb hK hP 35 0 rfl rfl (tx_in g47) dX8_outs_158 ?_
    refine lv_aload_n hx hb dX8_outs_159 rfl (lv_at hl 1 rfl) ?_
    refine lv_iload_n hx hb dX8_outs_160 rfl (lv_at hl 2 rfl) ?_
    refine lv_iload hx hb dX8_outs_161 (lv_at hl 4 rfl) ?_
    obtain ⟨r48, hc49, h⟩ := tx_bd h
    refine tw_ci tw_all hP hD hS hA (va_runV (As := [.int x1, .int x4]) (rest := [.int (S_46 61 x1.toNatClampNeg), .int x1, .ref (aa 61)]) ⟨hx, hb, hml, hown, hT⟩ (c_X8_aboveOf l G cA H.size aa S_46 L x1 x4  r48 hc49) (cwV 2 hT (tq_gV kw_31_2 kw_31_3 kw_31_4 kw_1_5 kw_31_5) rfl rfl rfl (by decide +kernel) ⟨Nat.le_of_ble_eq_true rfl, Nat.le_of_ble_eq_true rfl⟩) ⟨(tw_pre tw_all hP hD hK hN).1, va_recv hK hP (ci := 8) (q0 := 0) rfl rfl, (tw_pre tw_all hP hD hK hN).2⟩ rfl rfl hl.1 rfl (lv_room (Nat.le_of_ble_eq_true rfl)) dX8_outs_163 ⟨Nat.le_of_ble_eq_true rfl, Nat.le_of_ble_eq_true rfl⟩) (fun _ _ H locs z50 hP hD hS => ?_)
    subst z50
    rw [List.append_nil] at hP hD
    have hP : va_P G vwCl (wM cA aa S_46 L) H := hP
    have hD : va_D A (wM cA aa S_46 L) := hD
    refine lv_iadd hx hb dX8_outs_166 ?_
    refine va_iast (i := x1) hx hb hK hP hD hS 35 0 rfl rfl (tx_in g47) dX8_outs_167 (fun H locs hP hD hS => ?_)
    obtain ⟨S_51, eS_51, h⟩ := tx_lt h
    rw [sM_a60, eS_51] at hP hD
    refine lv_aload_n hx hb dX8_outs_168 rfl (lv_at hl 1 rfl) ?_
    refine lv_iload_n hx hb dX8_outs_169 rfl (lv_at hl 2 rfl) ?_
    refine lv_iload hx hb dX8_outs_170 (lv_at hl 4 rfl) ?_
    refine lv_iconst (v := 2) hx hb dX8_outs_172 (by decide) ?_
    obtain ⟨S_52, hc53, h⟩ := tx_bd h
    refine tw_cv tw_all hP hD hS hA (va_runV (As := [.int x1, .int x4, .int 2]) (rest := []) ⟨hx, hb, hml, hown, hT⟩ (c_X8_takes l G cA H.size aa S_51 L x1 x4 (2 : Int32)  S_52 hc53) (cwV 3 hT (tq_gV kw_37_18 kw_37_19 kw_37_20 kw_1_5 kw_37_21) rfl rfl rfl (by decide +kernel) ⟨Nat.le_of_ble_eq_true rfl, Nat.le_of_ble_eq_true rfl⟩) ⟨(tw_pre tw_all hP hD hK hN).1, va_recv hK hP (ci := 8) (q0 := 0) rfl rfl, (tw_pre tw_all hP hD hK hN).2⟩ rfl rfl hl.1 rfl (lv_room (Nat.le_of_ble_eq_true rfl)) dX8_outs_173 ⟨Nat.le_of_ble_eq_true rfl, Nat.le_of_ble_eq_true rfl⟩) (fun _ H locs z54 hP hD hS => ?_)
    rw [List.append_nil] at hP hD
    have hP : va_P G vwCl (wM cA aa S_52 L) H := hP
    have hD : va_D A (wM cA aa S_52 L) := hD
    obtain ⟨y55, ey55, h⟩ := tx_lt h
    refine lv_iinc (v := y55) (lv' := [(4, .int y55), (2, .int s0), (0, .ref (aa 0)), (1, .int x1), (3, .int x3), (5, .int x5)]) hx hb dX8_outs_176 hl (k := 4) rfl ey55 (by decide) rfl (fun ls hl => ?_)
    refine lv_goto (tgt := 32) hx hb dX8_outs_179 (by decide) ?_
    exact hk32 s0 y55 S_52 L H locs ls h hP hD hS (lv_sub hl [2, 3, 1, 4, 0] rfl)
  · have h := tx_pos c43 h
    refine lv_goto (tgt := 176) hx hb dX8_outs_122 (by decide) ?_
    obtain ⟨y56, ey56, h⟩ := tx_lt h
    refine lv_iinc (v := y56) (lv' := [(4, .int y56), (2, .int s0), (0, .ref (aa 0)), (1, .int x1), (3, .int x3), (5, .int x5)]) hx hb dX8_outs_176 hl (k := 4) rfl ey56 (by decide) rfl (fun ls hl => ?_)
    refine lv_goto (tgt := 32) hx hb dX8_outs_179 (by decide) ?_
    exact hk32 s0 y56 S L H locs ls h hP hD hS (lv_sub hl [2, 3, 1, 4, 0] rfl)
set_option maxHeartbeats 4000000 in
set_option maxRecDepth 100000 in
theorem w_X8_outs_J116 {p : Program} {l : Launch} {e : Env} {s : State} {m : MethodId} {below : List Frame} {meth : Method} {c : Code} {G : va_G} {cA : Nat → ClassId} {A : Nat → Prop} {aa : Nat → Nat} {x1₀ : Int32} {S' : Tr} {L' : Lo} {x1 : Int32} {x3 : Int32} (F : tF p s m ([.ref (aa 0), .int x1₀] : List Value).toArray meth c G cA A RX8 cX8_outs 6 none)  (k9 : Int32 → Int32 → Tr → Lo → Option (Tr × Lo)) (k32 : Int32 → Int32 → Tr → Lo → Option (Tr × Lo)) (hk9 : ∀ (x2 : Int32) (x3 : Int32) (S : Tr) (L : Lo) (H : Heap) (locs : List Loc) (ls : Array Slot), k9 x2 x3 S L = some (S', L') → va_P G vwCl (wM cA aa S L) H → va_D A (wM cA aa S L) → va_S A s.heap H locs → lv_has ls 6 [(0, .ref (aa 0)), (1, .int x1), (2, .int x2), (3, .int x3)] → G_X8_outs p l e s m below meth c G cA A aa x1₀ S' L' H locs (F0 m 9 ls [])) (hk32 : ∀ (x2 : Int32) (x4 : Int32) (S : Tr) (L : Lo) (H : Heap) (locs : List Loc) (ls : Array Slot), k32 x2 x4 S L = some (S', L') → va_P G vwCl (wM cA aa S L) H → va_D A (wM cA aa S L) → va_S A s.heap H locs → lv_has ls 6 [(0, .ref (aa 0)), (1, .int x1), (2, .int x2), (3, .int x3), (4, .int x4)] → G_X8_outs p l e s m below meth c G cA A aa x1₀ S' L' H locs (F0 m 32 ls [])) (x4 : Int32) (x5 : Int32) (S : Tr) (L : Lo) (H : Heap) (locs : List Loc) (ls : Array Slot) (h : fJ_X8_outs_J116 k9 k32 x1 x3 x4 x5 S L = some (S', L')) (hP : va_P G vwCl (wM cA aa S L) H) (hD : va_D A (wM cA aa S L)) (hS : va_S A s.heap H locs) (hl : lv_has ls 6 [(0, .ref (aa 0)), (1, .int x1), (3, .int x3), (4, .int x4), (5, .int x5)]) : G_X8_outs p l e s m below meth c G cA A aa x1₀ S' L' H locs (F0 m 116 ls [.int 0]) := by
  obtain ⟨hx, hb, hr, hml, hT, hown, hlocks, hK, hN, hA⟩ := id F
  unfold fJ_X8_outs_J116 at h
  refine lv_iconst (v := 0) hx hb dX8_outs_116 (by decide) ?_
  exact w_X8_outs_J117 F k9 k32 hk9 hk32 x4 x5 0 S L H locs ls h hP hD hS (lv_sub hl [0, 1, 2, 3, 4] rfl)
set_option maxHeartbeats 4000000 in
set_option maxRecDepth 100000 in
theorem w_X8_outs_J112 {p : Program} {l : Launch} {e : Env} {s : State} {m : MethodId} {below : List Frame} {meth : Method} {c : Code} {G : va_G} {cA : Nat → ClassId} {A : Nat → Prop} {aa : Nat → Nat} {x1₀ : Int32} {S' : Tr} {L' : Lo} {x1 : Int32} {x3 : Int32} (F : tF p s m ([.ref (aa 0), .int x1₀] : List Value).toArray meth c G cA A RX8 cX8_outs 6 none)  (k9 : Int32 → Int32 → Tr → Lo → Option (Tr × Lo)) (k32 : Int32 → Int32 → Tr → Lo → Option (Tr × Lo)) (hk9 : ∀ (x2 : Int32) (x3 : Int32) (S : Tr) (L : Lo) (H : Heap) (locs : List Loc) (ls : Array Slot), k9 x2 x3 S L = some (S', L') → va_P G vwCl (wM cA aa S L) H → va_D A (wM cA aa S L) → va_S A s.heap H locs → lv_has ls 6 [(0, .ref (aa 0)), (1, .int x1), (2, .int x2), (3, .int x3)] → G_X8_outs p l e s m below meth c G cA A aa x1₀ S' L' H locs (F0 m 9 ls [])) (hk32 : ∀ (x2 : Int32) (x4 : Int32) (S : Tr) (L : Lo) (H : Heap) (locs : List Loc) (ls : Array Slot), k32 x2 x4 S L = some (S', L') → va_P G vwCl (wM cA aa S L) H → va_D A (wM cA aa S L) → va_S A s.heap H locs → lv_has ls 6 [(0, .ref (aa 0)), (1, .int x1), (2, .int x2), (3, .int x3), (4, .int x4)] → G_X8_outs p l e s m below meth c G cA A aa x1₀ S' L' H locs (F0 m 32 ls [])) (x4 : Int32) (x5 : Int32) (S : Tr) (L : Lo) (H : Heap) (locs : List Loc) (ls : Array Slot) (h : fJ_X8_outs_J112 k9 k32 x1 x3 x4 x5 S L = some (S', L')) (hP : va_P G vwCl (wM cA aa S L) H) (hD : va_D A (wM cA aa S L)) (hS : va_S A s.heap H locs) (hl : lv_has ls 6 [(0, .ref (aa 0)), (1, .int x1), (3, .int x3), (4, .int x4), (5, .int x5)]) : G_X8_outs p l e s m below meth c G cA A aa x1₀ S' L' H locs (F0 m 112 ls [.int 1]) := by
  obtain ⟨hx, hb, hr, hml, hT, hown, hlocks, hK, hN, hA⟩ := id F
  unfold fJ_X8_outs_J112 at h
  refine lv_iconst (v := 1) hx hb dX8_outs_112 (by decide) ?_
  refine lv_goto (tgt := 117) hx hb dX8_outs_113 (by decide) ?_
  exact w_X8_outs_J117 F k9 k32 hk9 hk32 x4 x5 1 S L H locs ls h hP hD hS (lv_sub hl [0, 1, 2, 3, 4] rfl)
set_option maxHeartbeats 4000000 in
set_option maxRecDepth 100000 in
theorem w_X8_outs_L32 {p : Program} {l : Launch} {e : Env} {s : State} {m : MethodId} {below : List Frame} {meth : Method} {c : Code} {G : va_G} {cA : Nat → ClassId} {A : Nat → Prop} {aa : Nat → Nat} {x1₀ : Int32} {S' : Tr} {L' : Lo} {x1 : Int32} {x3 : Int32} (F : tF p s m ([.ref (aa 0), .int x1₀] : List Value).toArray meth c G cA A RX8 cX8_outs 6 none)  (k9 : Int32 → Int32 → Tr → Lo → Option (Tr × Lo)) (hk9 : ∀ (x2 : Int32) (x3 : Int32) (S : Tr) (L : Lo) (H : Heap) (locs : List Loc) (ls : Array Slot), k9 x2 x3 S L = some (S', L') → va_P G vwCl (wM cA aa S L) H → va_D A (wM cA aa S L) → va_S A s.heap H locs → lv_has ls 6 [(0, .ref (aa 0)), (1, .int x1), (2, .int x2), (3, .int x3)] → G_X8_outs p l e s m below meth c G cA A aa x1₀ S' L' H locs (F0 m 9 ls [])) (N : Nat) : ∀ (x2 : Int32) (x4 : Int32) (S : Tr) (L : Lo) (H : Heap) (locs : List Loc) (ls : Array Slot), lpF (fun _ _ _ _ => none) (fB_X8_outs_L32 k9 x1 x3) N x2 x4 S L = some (S', L') → va_P G vwCl (wM cA aa S L) H → va_D A (wM cA aa S L) → va_S A s.heap H locs → lv_has ls 6 [(0, .ref (aa 0)), (1, .int x1), (2, .int x2), (3, .int x3), (4, .int x4)] → G_X8_outs p l e s m below meth c G cA A aa x1₀ S' L' H locs (F0 m 32 ls []) := by
  obtain ⟨hx, hb, hr, hml, hT, hown, hlocks, hK, hN, hA⟩ := id F
  induction N with
  | zero =>
    intro x2 x4 S L H locs ls h
    have h : (none : Option (Tr × Lo)) = some (S', L') := h
    cases h
  | succ N hk32 =>
    intro x2 x4 S L H locs ls h hP hD hS hl
    have h : fB_X8_outs_L32 k9 x1 x3 (lpF (fun _ _ _ _ => none) (fB_X8_outs_L32 k9 x1 x3) N) x2 x4 S L = some (S', L') := h
    generalize hk32e : lpF (fun _ _ _ _ => none) (fB_X8_outs_L32 k9 x1 x3) N = k32 at h hk32
    unfold fB_X8_outs_L32 at h
    refine lv_iload hx hb dX8_outs_32 (lv_at hl 4 rfl) ?_
    refine lv_aload_n hx hb dX8_outs_34 rfl (lv_at hl 0 rfl) ?_
    refine va_get (D := G) (ci := 8) (v := .int (S 0 14)) (C := RX8) (T := TX8) (N := 91) hx hb hT ku_8 hown hK hP 0 rfl rfl 14 (by decide) (hT _ kw_12_5) (fun _ h9 => h9) rfl dX8_outs_35 ?_
    refine lv_icmp_ge (tgt := 182) hx hb dX8_outs_38 (by decide) (fun c23 => ?_) (fun c23 => ?_)
    · have h := tx_pos c23 h
      exact w_X8_outs_J182 F k9 hk9 x2 x3 S L H locs ls h hP hD hS (lv_sub hl [0, 1, 2, 3] rfl)
    · have h := tx_neg c23 h
      refine lv_aload_n hx hb dX8_outs_41 rfl (lv_at hl 0 rfl) ?_
      refine va_get (D := G) (ci := 8) (v := .ref (aa 30)) (C := RX8) (T := TX8) (N := 91) hx hb hT ku_8 hown hK hP 0 rfl rfl 29 (by decide) (hT _ kw_9_21) (fun _ h9 => h9) rfl dX8_outs_42 ?_
      refine lv_iload hx hb dX8_outs_45 (lv_at hl 4 rfl) ?_
      obtain ⟨g32, h⟩ := tx_ck h
      refine va_iald (i := x4) hx hb hK hP 11 0 rfl rfl (tx_in g32) dX8_outs_47 ?_
      refine lv_iload_n hx hb dX8_outs_48 rfl (lv_at hl 3 rfl) ?_
      refine lv_icmp_ne (tgt := 176) hx hb dX8_outs_49 (by decide) (fun c33 => ?_) (fun c33 => ?_)
      · have h := tx_neg c33 h
        obtain ⟨y34, ey34, h⟩ := tx_lt h
        refine lv_iinc (v := y34) (lv' := [(4, .int y34), (0, .ref (aa 0)), (1, .int x1), (2, .int x2), (3, .int x3)]) hx hb dX8_outs_176 hl (k := 4) rfl ey34 (by decide) rfl (fun ls hl => ?_)
        refine lv_goto (tgt := 32) hx hb dX8_outs_179 (by decide) ?_
        exact hk32 x2 y34 S L H locs ls h hP hD hS (lv_sub hl [1, 2, 3, 4, 0] rfl)
      · have h := tx_pos c33 h
        refine lv_aload_n hx hb dX8_outs_52 rfl (lv_at hl 0 rfl) ?_
        refine va_get (D := G) (ci := 8) (v := .ref (aa 53)) (C := RX8) (T := TX8) (N := 91) hx hb hT ku_8 hown hK hP 0 rfl rfl 52 (by decide) (hT _ kw_10_13) (fun _ h9 => h9) rfl dX8_outs_53 ?_
        refine lv_bipush (v := 10) hx hb dX8_outs_56 (by decide) ?_
        refine lv_iload_n hx hb dX8_outs_58 rfl (lv_at hl 1 rfl) ?_
        refine lv_imul hx hb dX8_outs_59 ?_
        refine lv_iload hx hb dX8_outs_60 (lv_at hl 4 rfl) ?_
        refine lv_iadd hx hb dX8_outs_62 ?_
        obtain ⟨g35, h⟩ := tx_ck h
        refine va_iald (i := (((10 : Int32) * x1) + x4)) hx hb hK hP 27 0 rfl rfl (tx_in g35) dX8_outs_63 ?_
        refine lv_iconst (v := 1) hx hb dX8_outs_64 (by decide) ?_
        refine lv_icmp_eq (tgt := 71) hx hb dX8_outs_65 (by decide) (fun c36 => ?_) (fun c36 => ?_)
        · have h := tx_pos c36 h
          refine lv_aload_n hx hb dX8_outs_71 rfl (lv_at hl 0 rfl) ?_
          refine lv_iload_n hx hb dX8_outs_72 rfl (lv_at hl 1 rfl) ?_
          refine lv_iload hx hb dX8_outs_73 (lv_at hl 4 rfl) ?_
          obtain ⟨⟨r37, S_38, L_39⟩, hc40, h⟩ := tx_bd h
          replace h := tx_let (y := r37) rfl h
          replace h := tx_let (y := S_38) rfl h
          replace h := tx_let (y := L_39) rfl h
          refine tw_ci tw_all hP hD hS hA (va_runV (As := [.int x1, .int x4]) (rest := []) ⟨hx, hb, hml, hown, hT⟩ (c_X8_secondsOf l G cA H.size aa S L x1 x4  r37 S_38 L_39 hc40) (cwV 2 hT (tq_gV kw_44_3 kw_44_4 kw_44_5 kw_1_5 kw_44_6) rfl rfl rfl (by decide +kernel) ⟨Nat.le_of_ble_eq_true rfl, Nat.le_of_ble_eq_true rfl⟩) ⟨(tw_pre tw_all hP hD hK hN).1, va_recv hK hP (ci := 8) (q0 := 0) rfl rfl, (tw_pre tw_all hP hD hK hN).2⟩ rfl rfl hl.1 rfl (lv_room (Nat.le_of_ble_eq_true rfl)) dX8_outs_75 ⟨Nat.le_of_ble_eq_true rfl, Nat.le_of_ble_eq_true rfl⟩) (fun _ _ H locs z41 hP hD hS => ?_)
          subst z41
          rw [List.append_nil] at hP hD
          have hP : va_P G vwCl (wM cA aa S_38 L_39) H := hP
          have hD : va_D A (wM cA aa S_38 L_39) := hD
          refine lv_istore (lv' := [(5, .int r37), (0, .ref (aa 0)), (1, .int x1), (2, .int x2), (3, .int x3), (4, .int x4)]) hx hb dX8_outs_78 hl (by decide) rfl (fun ls hl => ?_)
          refine lv_iload_n hx hb dX8_outs_80 rfl (lv_at hl 3 rfl) ?_
          refine lv_if_eq (tgt := 116) hx hb dX8_outs_81 (by decide) (fun c42 => ?_) (fun c42 => ?_)
          · have h := tx_pos c42 h
            exact w_X8_outs_J116 F k9 k32 hk9 hk32 x4 r37 S_38 L_39 H locs ls h hP hD hS (lv_sub hl [1, 2, 4, 5, 0] rfl)
          · have h := tx_neg c42 h
            refine lv_aload_n hx hb dX8_outs_84 rfl (lv_at hl 1 rfl) ?_
            refine va_get (D := G) (ci := 8) (v := .int (S_38 0 70)) (C := RX8) (T := TX8) (N := 91) hx hb hT ku_8 hown hK hP 0 rfl rfl 70 (by decide) (hT _ kw_13_8) (fun _ h9 => h9) rfl dX8_outs_85 ?_
            refine lv_if_ne (tgt := 112) hx hb dX8_outs_88 (by decide) (fun c57 => ?_) (fun c57 => ?_)
            · have h := tx_neg c57 h
              exact w_X8_outs_J112 F k9 k32 hk9 hk32 x4 r37 S_38 L_39 H locs ls h hP hD hS (lv_sub hl [1, 2, 4, 5, 0] rfl)
            · have h := tx_pos c57 h
              refine lv_aload_n hx hb dX8_outs_91 rfl (lv_at hl 1 rfl) ?_
              refine va_get (D := G) (ci := 8) (v := .int (S_38 0 72)) (C := RX8) (T := TX8) (N := 91) hx hb hT ku_8 hown hK hP 0 rfl rfl 72 (by decide) (hT _ kw_43_22) (fun _ h9 => h9) rfl dX8_outs_92 ?_
              refine lv_iload hx hb dX8_outs_95 (lv_at hl 0 rfl) ?_
              refine lv_iadd hx hb dX8_outs_97 ?_
              refine lv_aload_n hx hb dX8_outs_98 rfl (lv_at hl 1 rfl) ?_
              refine va_get (D := G) (ci := 8) (v := .ref (aa 34)) (C := RX8) (T := TX8) (N := 91) hx hb hT ku_8 hown hK hP 0 rfl rfl 33 (by decide) (hT _ kw_10_1) (fun _ h9 => h9) rfl dX8_outs_99 ?_
              refine lv_aload_n hx hb dX8_outs_102 rfl (lv_at hl 1 rfl) ?_
              refine va_get (D := G) (ci := 8) (v := .ref (aa 62)) (C := RX8) (T := TX8) (N := 91) hx hb hT ku_8 hown hK hP 0 rfl rfl 61 (by decide) (hT _ kw_10_22) (fun _ h9 => h9) rfl dX8_outs_103 ?_
              refine lv_iload_n hx hb dX8_outs_106 rfl (lv_at hl 2 rfl) ?_
              obtain ⟨g58, h⟩ := tx_ck h
              refine va_iald (i := x1) hx hb hK hP 36 0 rfl rfl (tx_in g58) dX8_outs_107 ?_
              obtain ⟨g59, h⟩ := tx_ck h
              refine va_iald (i := (S_38 62 x1.toNatClampNeg)) hx hb hK hP 15 0 rfl rfl (tx_in g59) dX8_outs_108 ?_
              refine lv_icmp_gt (tgt := 116) hx hb dX8_outs_109 (by decide) (fun c60 => ?_) (fun c60 => ?_)
              · have h := tx_pos c60 h
                exact w_X8_outs_J116 F k9 k32 hk9 hk32 x4 r37 S_38 L_39 H locs ls h hP hD hS (lv_sub hl [1, 2, 4, 5, 0] rfl)
              · have h := tx_neg c60 h
                exact w_X8_outs_J112 F k9 k32 hk9 hk32 x4 r37 S_38 L_39 H locs ls h hP hD hS (lv_sub hl [1, 2, 4, 5, 0] rfl)
        · have h := tx_neg c36 h
          refine lv_goto (tgt := 176) hx hb dX8_outs_68 (by decide) ?_
          obtain ⟨y61, ey61, h⟩ := tx_lt h
          refine lv_iinc (v := y61) (lv' := [(4, .int y61), (0, .ref (aa 0)), (1, .int x1), (2, .int x2), (3, .int x3)]) hx hb dX8_outs_176 hl (k := 4) rfl ey61 (by decide) rfl (fun ls hl => ?_)
          refine lv_goto (tgt := 32) hx hb dX8_outs_179 (by decide) ?_
          exact hk32 x2 y61 S L H locs ls h hP hD hS (lv_sub hl [1, 2, 3, 4, 0] rfl)
set_option maxHeartbeats 4000000 in
set_option maxRecDepth 100000 in
theorem w_X8_outs_L9 {p : Program} {l : Launch} {e : Env} {s : State} {m : MethodId} {below : List Frame} {meth : Method} {c : Code} {G : va_G} {cA : Nat → ClassId} {A : Nat → Prop} {aa : Nat → Nat} {x1₀ : Int32} {S' : Tr} {L' : Lo} {x1 : Int32} (F : tF p s m ([.ref (aa 0), .int x1₀] : List Value).toArray meth c G cA A RX8 cX8_outs 6 none)    (N : Nat) : ∀ (x2 : Int32) (x3 : Int32) (S : Tr) (L : Lo) (H : Heap) (locs : List Loc) (ls : Array Slot), lpF (fun _ _ _ _ => none) (fB_X8_outs_L9 x1) N x2 x3 S L = some (S', L') → va_P G vwCl (wM cA aa S L) H → va_D A (wM cA aa S L) → va_S A s.heap H locs → lv_has ls 6 [(0, .ref (aa 0)), (1, .int x1), (2, .int x2), (3, .int x3)] → G_X8_outs p l e s m below meth c G cA A aa x1₀ S' L' H locs (F0 m 9 ls []) := by
  obtain ⟨hx, hb, hr, hml, hT, hown, hlocks, hK, hN, hA⟩ := id F
  induction N with
  | zero =>
    intro x2 x3 S L H locs ls h
    have h : (none : Option (Tr × Lo)) = some (S', L') := h
    cases h
  | succ N hk9 =>
    intro x2 x3 S L H locs ls h hP hD hS hl
    have h : fB_X8_outs_L9 x1 (lpF (fun _ _ _ _ => none) (fB_X8_outs_L9 x1) N) x2 x3 S L = some (S', L') := h
    generalize hk9e : lpF (fun _ _ _ _ => none) (fB_X8_outs_L9 x1) N = k9 at h hk9
    unfold fB_X8_outs_L9 at h
    refine lv_iload_n hx hb dX8_outs_9 rfl (lv_at hl 3 rfl) ?_
    refine lv_aload_n hx hb dX8_outs_10 rfl (lv_at hl 0 rfl) ?_
    refine va_get (D := G) (ci := 8) (v := .int (S 0 13)) (C := RX8) (T := TX8) (N := 91) hx hb hT ku_8 hown hK hP 0 rfl rfl 13 (by decide) (hT _ kw_12_4) (fun _ h9 => h9) rfl dX8_outs_11 ?_
    refine lv_icmp_ge (tgt := 209) hx hb dX8_outs_14 (by decide) (fun c2 => ?_) (fun c2 => ?_)
    · have h := tx_pos c2 h
      exact w_X8_outs_J209 F x1 S L H locs ls h hP hD hS (lv_sub hl [0, 1] rfl)
    · have h := tx_neg c2 h
      refine lv_aload_n hx hb dX8_outs_17 rfl (lv_at hl 0 rfl) ?_
      refine lv_iload_n hx hb dX8_outs_18 rfl (lv_at hl 1 rfl) ?_
      refine lv_iload_n hx hb dX8_outs_19 rfl (lv_at hl 3 rfl) ?_
      obtain ⟨r19, hc20, h⟩ := tx_bd h
      refine tw_ci tw_all hP hD hS hA (va_runV (As := [.int x1, .int x3]) (rest := []) ⟨hx, hb, hml, hown, hT⟩ (c_X8_getsOut l G cA H.size aa S L x1 x3  r19 hc20) (cwV 2 hT (tq_gV kw_43_23 kw_44_0 kw_44_1 kw_1_5 kw_44_2) rfl rfl rfl (by decide +kernel) ⟨Nat.le_of_ble_eq_true rfl, Nat.le_of_ble_eq_true rfl⟩) ⟨(tw_pre tw_all hP hD hK hN).1, va_recv hK hP (ci := 8) (q0 := 0) rfl rfl, (tw_pre tw_all hP hD hK hN).2⟩ rfl rfl hl.1 rfl (lv_room (Nat.le_of_ble_eq_true rfl)) dX8_outs_20 ⟨Nat.le_of_ble_eq_true rfl, Nat.le_of_ble_eq_true rfl⟩) (fun _ _ H locs z21 hP hD hS => ?_)
      subst z21
      rw [List.append_nil] at hP hD
      have hP : va_P G vwCl (wM cA aa S L) H := hP
      have hD : va_D A (wM cA aa S L) := hD
      refine lv_if_ne (tgt := 29) hx hb dX8_outs_23 (by decide) (fun c22 => ?_) (fun c22 => ?_)
      · have h := tx_neg c22 h
        refine lv_iconst (v := 0) hx hb dX8_outs_29 (by decide) ?_
        refine lv_istore (lv' := [(4, .int 0), (0, .ref (aa 0)), (1, .int x1), (2, .int x2), (3, .int x3)]) hx hb dX8_outs_30 hl (by decide) rfl (fun ls hl => ?_)
        exact w_X8_outs_L32 F k9 hk9 2000 x2 0 S L H locs ls h hP hD hS (lv_sub hl [1, 2, 3, 4, 0] rfl)
      · have h := tx_pos c22 h
        refine lv_goto (tgt := 203) hx hb dX8_outs_26 (by decide) ?_
        obtain ⟨y62, ey62, h⟩ := tx_lt h
        refine lv_iinc (v := y62) (lv' := [(3, .int y62), (0, .ref (aa 0)), (1, .int x1), (2, .int x2)]) hx hb dX8_outs_203 hl (k := 3) rfl ey62 (by decide) rfl (fun ls hl => ?_)
        refine lv_goto (tgt := 9) hx hb dX8_outs_206 (by decide) ?_
        exact hk9 x2 y62 S L H locs ls h hP hD hS (lv_sub hl [1, 2, 3, 0] rfl)
set_option maxHeartbeats 4000000 in
set_option maxRecDepth 100000 in
theorem c_X8_outs (l : Launch) (G : va_G) (cA : Nat → ClassId) (sz : Nat) (aa : Nat → Nat) (S : Tr) (L : Lo) (x1 : Int32)  (S' : Tr) (L' : Lo) (h : f_X8_outs S L x1 = some (S', L')) : Met l yX8_outs (.code yX8_outs cX8_outs 6 none :: T0) ({ frames := 6, cells := 0, slots := 0, locals := 145 } : Room) (tqP G cA [.ref (aa 0), .int x1] (wM cA aa S L) sz) (tqQv G cA (fun (_ : Unit) => True) (fun (_ : Unit) => wM cA aa S' L') (va_A (wM cA aa S L) sz)) 0 0 (va_A (wM cA aa S L) sz) := by
  refine Met.ofW (cc := cX8_outs) (maxL := 6) (ret := none) (by decide) rfl ?_
  intro p e s m args below meth c s₁ B hml hv
  obtain ⟨rfl, hsz, hP, hK, hD0, hN⟩ := hv
  have hx := B.exec
  have hb := B.bytes
  have hr := B.returns
  have hts := atoms_spec (ws := .code yX8_outs cX8_outs 6 none :: T0) B.pre
  have hT : ∀ w ∈ T0, w.before _ s = true := fun w h => hts w (List.mem_cons_of_mem _ h)
  have hown : s.vm.findClass RX8 = some m.cls := findClass_of_methodNamed B.named
  have hlocks := B.notSynchronized
  subst hsz
  have hD := hD0.self (sz := s.heap.size)
  generalize hAe : va_A (wM cA aa S L) s.heap.size = A at hD ⊢
  have hA : ∀ q : Nat, s.heap.size ≤ q → A q := fun q h => by rw [← hAe]; exact Or.inr h
  have hS : va_S A s.heap s.heap [] := va_S.rf
  have hl := lv_entry ([.ref (aa 0), .int x1]) (n := 6) (Nat.le_of_ble_eq_true rfl)
  rw [lg_entry_eq]
  generalize (lg_sl ([.ref (aa 0), .int x1]) ++ List.replicate (6 - (lg_sl ([.ref (aa 0), .int x1])).length) Slot.unset).toArray = ls at hl ⊢
  have hl : lv_has ls 6 [(0, .ref (aa 0)), (1, .int x1)] := hl
  have F : tF p s m ([.ref (aa 0), .int x1] : List Value).toArray meth c G cA A RX8 cX8_outs 6 none := ⟨hx, hb, hr, hml, hT, hown, hlocks, hK, hN, hA⟩
  obtain ⟨H, hH⟩ : ∃ z, z = s.heap := ⟨_, rfl⟩
  rw [← hH] at hP
  have hS : va_S A s.heap H [] := by rw [hH]; exact hS
  suffices hgo : G_X8_outs p l e s m below meth c G cA A aa x1 S' L' H [] (F0 m 0 ls []) by rw [hH] at hgo; exact hgo
  generalize ([] : List Loc) = locs at hS ⊢
  unfold f_X8_outs at h
  refine lv_iconst (v := 1) hx hb dX8_outs_0 (by decide) ?_
  refine lv_istore_n (lv' := [(2, .int 1), (0, .ref (aa 0)), (1, .int x1)]) hx hb dX8_outs_1 rfl hl (by decide) rfl (fun ls hl => ?_)
  refine lv_aload_n hx hb dX8_outs_2 rfl (lv_at hl 1 rfl) ?_
  refine lv_iconst (v := 0) hx hb dX8_outs_3 (by decide) ?_
  refine va_put (D := G) (ci := 8) (v := .int 0) (ty := .int) (C := RX8) (T := TX8) (N := 91) hx hb hT ku_8 tyX8 tyX8_ok nmX8 hown hK hP hD hS 0 rfl rfl 72 (by decide) (hT _ kw_43_22) (fun _ h9 => h9) rfl (by decide +kernel) rfl rfl (Nat.le_of_ble_eq_true rfl) dX8_outs_4 (fun H locs hP hD hS => ?_)
  obtain ⟨S_1, eS_1, h⟩ := tx_lt h
  rw [sM_f72, eS_1] at hP hD
  refine lv_iconst (v := 0) hx hb dX8_outs_7 (by decide) ?_
  refine lv_istore_n (lv' := [(3, .int 0), (2, .int 1), (0, .ref (aa 0)), (1, .int x1)]) hx hb dX8_outs_8 rfl hl (by decide) rfl (fun ls hl => ?_)
  exact w_X8_outs_L9 F 2000 1 0 S_1 L H locs ls h hP hD hS (lv_sub hl [2, 3, 1, 0] rfl)
abbrev G_X8_doesHold (p : Program) (l : Launch) (e : Env) (s : State) (m : MethodId) (below : List Frame) (meth : Method) (c : Code) (G : va_G) (cA : Nat → ClassId) (A : Nat → Prop) (aa : Nat → Nat) (S : Tr) (L : Lo) (x1 : Int32) (x2 : Int32) (x3 : Int32) (r0 : Int32) (H : Heap) (locs : List Loc) (g : JFrame) : Prop := W p l e (headSpec (.code yX8_doesHold cX8_doesHold 4 (some .boolean) :: T0) ({ frames := 2, cells := 0, slots := 0, locals := 47 } : Room)).room s m ([.ref (aa 0), .int x1, .int x2, .int x3] : List Value).toArray below meth c H locs 0 0 (MQ below (tqQi G cA (fun (r : Int32) (_ : Unit) => r = r0) (fun (_ : Unit) => wM cA aa S L) A) ([.ref (aa 0), .int x1, .int x2, .int x3] : List Value).toArray s 0 0 A) g
set_option maxHeartbeats 4000000 in
set_option maxRecDepth 100000 in
theorem c_X8_doesHold (l : Launch) (G : va_G) (cA : Nat → ClassId) (sz : Nat) (aa : Nat → Nat) (S : Tr) (L : Lo) (x1 : Int32) (x2 : Int32) (x3 : Int32)  (r0 : Int32) (h : f_X8_doesHold S x1 x2 x3 = some r0) : Met l yX8_doesHold (.code yX8_doesHold cX8_doesHold 4 (some .boolean) :: T0) ({ frames := 2, cells := 0, slots := 0, locals := 47 } : Room) (tqP G cA [.ref (aa 0), .int x1, .int x2, .int x3] (wM cA aa S L) sz) (tqQi G cA (fun (r : Int32) (_ : Unit) => r = r0) (fun (_ : Unit) => wM cA aa S L) (va_A (wM cA aa S L) sz)) 0 0 (va_A (wM cA aa S L) sz) := by
  refine Met.ofW (cc := cX8_doesHold) (maxL := 4) (ret := (some .boolean)) (by decide) rfl ?_
  intro p e s m args below meth c s₁ B hml hv
  obtain ⟨rfl, hsz, hP, hK, hD0, hN⟩ := hv
  have hx := B.exec
  have hb := B.bytes
  have hr := B.returns
  have hts := atoms_spec (ws := .code yX8_doesHold cX8_doesHold 4 (some .boolean) :: T0) B.pre
  have hT : ∀ w ∈ T0, w.before _ s = true := fun w h => hts w (List.mem_cons_of_mem _ h)
  have hown : s.vm.findClass RX8 = some m.cls := findClass_of_methodNamed B.named
  have hlocks := B.notSynchronized
  subst hsz
  have hD := hD0.self (sz := s.heap.size)
  generalize hAe : va_A (wM cA aa S L) s.heap.size = A at hD ⊢
  have hA : ∀ q : Nat, s.heap.size ≤ q → A q := fun q h => by rw [← hAe]; exact Or.inr h
  have hS : va_S A s.heap s.heap [] := va_S.rf
  have hl := lv_entry ([.ref (aa 0), .int x1, .int x2, .int x3]) (n := 4) (Nat.le_of_ble_eq_true rfl)
  rw [lg_entry_eq]
  generalize (lg_sl ([.ref (aa 0), .int x1, .int x2, .int x3]) ++ List.replicate (4 - (lg_sl ([.ref (aa 0), .int x1, .int x2, .int x3])).length) Slot.unset).toArray = ls at hl ⊢
  have hl : lv_has ls 4 [(0, .ref (aa 0)), (1, .int x1), (2, .int x2), (3, .int x3)] := hl
  have F : tF p s m ([.ref (aa 0), .int x1, .int x2, .int x3] : List Value).toArray meth c G cA A RX8 cX8_doesHold 4 (some .boolean) := ⟨hx, hb, hr, hml, hT, hown, hlocks, hK, hN, hA⟩
  obtain ⟨H, hH⟩ : ∃ z, z = s.heap := ⟨_, rfl⟩
  rw [← hH] at hP
  have hS : va_S A s.heap H [] := by rw [hH]; exact hS
  suffices hgo : G_X8_doesHold p l e s m below meth c G cA A aa S L x1 x2 x3 r0 H [] (F0 m 0 ls []) by rw [hH] at hgo; exact hgo
  generalize ([] : List Loc) = locs at hS ⊢
  unfold f_X8_doesHold at h
  refine lv_aload_n hx hb dX8_doesHold_0 rfl (lv_at hl 0 rfl) ?_
  refine lv_iload_n hx hb dX8_doesHold_1 rfl (lv_at hl 1 rfl) ?_
  refine lv_iload_n hx hb dX8_doesHold_2 rfl (lv_at hl 2 rfl) ?_
  obtain ⟨r1, hc2, h⟩ := tx_bd h
  refine tw_ci tw_all hP hD hS hA (va_runV (As := [.int x1, .int x2]) (rest := []) ⟨hx, hb, hml, hown, hT⟩ (c_X8_weightIn l G cA H.size aa S L x1 x2  r1 hc2) (cwV 2 hT (tq_gV kw_32_15 kw_32_16 kw_32_17 kw_1_5 kw_32_18) rfl rfl rfl (by decide +kernel) ⟨Nat.le_of_ble_eq_true rfl, Nat.le_of_ble_eq_true rfl⟩) ⟨(tw_pre tw_all hP hD hK hN).1, va_recv hK hP (ci := 8) (q0 := 0) rfl rfl, (tw_pre tw_all hP hD hK hN).2⟩ rfl rfl hl.1 rfl (lv_room (Nat.le_of_ble_eq_true rfl)) dX8_doesHold_3 ⟨Nat.le_of_ble_eq_true rfl, Nat.le_of_ble_eq_true rfl⟩) (fun _ _ H locs z3 hP hD hS => ?_)
  subst z3
  rw [List.append_nil] at hP hD
  have hP : va_P G vwCl (wM cA aa S L) H := hP
  have hD : va_D A (wM cA aa S L) := hD
  refine lv_aload_n hx hb dX8_doesHold_6 rfl (lv_at hl 0 rfl) ?_
  refine va_get (D := G) (ci := 8) (v := .ref (aa 31)) (C := RX8) (T := TX8) (N := 91) hx hb hT ku_8 hown hK hP 0 rfl rfl 30 (by decide) (hT _ kw_9_22) (fun _ h9 => h9) rfl dX8_doesHold_7 ?_
  refine lv_iload_n hx hb dX8_doesHold_10 rfl (lv_at hl 3 rfl) ?_
  obtain ⟨g4, h⟩ := tx_ck h
  refine va_iald (i := x3) hx hb hK hP 12 0 rfl rfl (tx_in g4) dX8_doesHold_11 ?_
  refine lv_iadd hx hb dX8_doesHold_12 ?_
  refine lv_aload_n hx hb dX8_doesHold_13 rfl (lv_at hl 0 rfl) ?_
  refine va_get (D := G) (ci := 8) (v := .ref (aa 25)) (C := RX8) (T := TX8) (N := 91) hx hb hT ku_8 hown hK hP 0 rfl rfl 24 (by decide) (hT _ kw_9_16) (fun _ h9 => h9) rfl dX8_doesHold_14 ?_
  refine lv_iload_n hx hb dX8_doesHold_17 rfl (lv_at hl 2 rfl) ?_
  obtain ⟨g5, h⟩ := tx_ck h
  refine va_iald (i := x2) hx hb hK hP 6 0 rfl rfl (tx_in g5) dX8_doesHold_18 ?_
  refine lv_icmp_gt (tgt := 26) hx hb dX8_doesHold_19 (by decide) (fun c6 => ?_) (fun c6 => ?_)
  · have h := tx_pos c6 h
    refine lv_iconst (v := 0) hx hb dX8_doesHold_26 (by decide) ?_
    obtain rfl := tx_1 h
    exact W.zret (ty := .boolean) hx hb hr rfl (fun t ht hW => ⟨⟨_, (), rfl, rfl, by rw [ht]; exact hP, hD⟩, hS.F ht⟩) hS.2.2 dX8_doesHold_27
  · have h := tx_neg c6 h
    refine lv_iconst (v := 1) hx hb dX8_doesHold_22 (by decide) ?_
    refine lv_goto (tgt := 27) hx hb dX8_doesHold_23 (by decide) ?_
    obtain rfl := tx_1 h
    exact W.zret (ty := .boolean) hx hb hr rfl (fun t ht hW => ⟨⟨_, (), rfl, rfl, by rw [ht]; exact hP, hD⟩, hS.F ht⟩) hS.2.2 dX8_doesHold_27
