set_option maxHeartbeats 4000000 in
set_option maxRecDepth 100000 in
theorem c_X5_init (l : Launch) (G : va_G) (cA : Nat → ClassId) (sz : Nat) (h0 : Nat) (fs : List Value) (sA : Nat) (vA : Nat) (fb : Nat → Int32) (hf : fh fs 8 [(0, .int 0), (1, .int 0), (2, .int 0), (3, .int 0), (4, .null), (5, .null), (6, .int 0), (7, .int 0)]) : Met l yX5_init (.code yX5_init cX5_init 6 none :: T0) ({ frames := 4, cells := 2, slots := 729, locals := 85 }) (tqP2 G cA sA vA fb [.ref h0] [(h0, .inr (5, fs))] sz) (tqQv G cA (fun (u : List Value × Nat × (Nat → Int32) × Nat × (Nat → Int32)) => fo fs u.1 [5, 4] ∧ fh u.1 8 [(5, .ref u.2.2.2.1), (4, .ref u.2.1)]) (fun (u : List Value × Nat × (Nat → Int32) × Nat × (Nat → Int32)) => [(h0, .inr (5, u.1)), (u.2.1, .inl (cA 3, 700, .inl u.2.2.1)), (u.2.2.2.1, .inl (cA 0, 29, .inl u.2.2.2.2))]) (va_A [(h0, .inr (5, fs))] sz)) 2 729 (va_A [(h0, .inr (5, fs))] sz) := by
  refine Met.ofW (cc := cX5_init) (maxL := 6) (ret := none) (by decide) rfl ?_
  intro p e s m args below meth c s₁ B hml hv
  obtain ⟨rfl, hsz, hP, hK, hD0, hN, hSt, hR⟩ := hv
  have hx := B.exec
  have hb := B.bytes
  have hr := B.returns
  have hts := atoms_spec (ws := .code yX5_init cX5_init 6 none :: T0) B.pre
  have hT : ∀ w ∈ T0, w.before _ s = true := fun w h => hts w (List.mem_cons_of_mem _ h)
  have hown : s.vm.findClass RX5 = some m.cls := findClass_of_methodNamed B.named
  have hlocks := B.notSynchronized
  have hin : meth.name = "<init>" := (name_of_methodNamed B.named B.method).1
  subst hsz
  have hD := hD0.self (sz := s.heap.size)
  generalize hAe : va_A [(h0, .inr (5, fs))] s.heap.size = A at hD hSt ⊢
  have hA : ∀ q : Nat, s.heap.size ≤ q → A q := fun q h => by rw [← hAe]; exact Or.inr h
  have hS : va_S A s.heap s.heap [] := va_S.rf
  have hl := lv_entry ([.ref h0]) (n := 6) (Nat.le_of_ble_eq_true rfl)
  rw [lg_entry_eq]
  generalize (lg_sl ([.ref h0]) ++ List.replicate (6 - (lg_sl ([.ref h0])).length) Slot.unset).toArray = ls at hl ⊢
  have hl : lv_has ls 6 [(0, .ref h0)] := hl
  obtain ⟨H, hH⟩ : ∃ z, z = s.heap := ⟨_, rfl⟩
  rw [← hH] at hP
  have hS : va_S A s.heap H [] := by rw [hH]; exact hS
  suffices hgo : W p l e _ s m _ below meth c H [] 0 0 _ _ by rw [hH] at hgo; exact hgo
  have hO := hN.2.2.2.2
  have ho_hf := fo_refl fs
  refine lv_aload_n hx hb dX5_init_0 rfl (lv_at hl 0 rfl) ?_
  refine W.objInit hx hb hown (hT _ kw_3_9) (hT _ kw_1_11) (hT _ kw_1_12) rfl (by rw [hml]; exact hl.1) rfl dX5_init_1 (Nat.le_of_ble_eq_true rfl) (Nat.le_of_ble_eq_true rfl) ?_
  refine W.eq (g2 := F0 m 4 ls []) rfl ?_
  refine lv_aload_n hx hb dX5_init_4 rfl (lv_at hl 0 rfl) ?_
  refine lv_sipush (v := 700) hx hb dX5_init_5 (by decide) ?_
  refine tq_newa (atype := .byte) (ty := .byte) (n := 700) (N' := 700) (a0 := (700, .inl (fun _ => 0))) hx hb (hT _ kw_3_10) rfl hK hP hD hS hA 3 (cA 3) rfl (fun _ => rfl) (by decide) (by decide) (by decide) (Nat.le_of_ble_eq_true rfl) (Nat.le_of_ble_eq_true rfl) dX5_init_8 (fun q101 H hP hD hS => ?_)
  have hP : va_P G vwCl [(h0, .inr (5, fs)), (q101, .inl (cA 3, 700, .inl ((fun _ => 0))))] H := hP
  have hD : va_D A [(h0, .inr (5, fs)), (q101, .inl (cA 3, 700, .inl ((fun _ => 0))))] := hD
  refine W.widen (k := 1) (n := 700) (Nat.le_of_ble_eq_true rfl) (Nat.le_of_ble_eq_true rfl) ?_
  obtain ⟨f102, ef102⟩ : ∃ z : Nat → Int32, z = (fun _ => 0) := ⟨_, rfl⟩
  rw [← ef102] at hP hD
  refine va_putF (D := G) (ci := 5) (v := .ref q101) (ty := (.array .byte)) (C := RX5) (T := TX5) (N := 8) hx hb hT ku_5 tyX5 tyX5_ok nmX5 hown hK hP hD hS 0 rfl rfl 4 (by decide) (hT _ kw_3_11) (fun _ h9 => h9) rfl hin rfl (by decide +kernel) rfl rfl (fh_lt hf (by decide)) dX5_init_10 (fun H locs hP hD hS => ?_)
  have hP : va_P G vwCl [(h0, .inr (5, (fs.set 4 (.ref q101)))), (q101, .inl (cA 3, 700, .inl f102))] H := hP
  have hD : va_D A [(h0, .inr (5, (fs.set 4 (.ref q101)))), (q101, .inl (cA 3, 700, .inl f102))] := hD
  have hf := fh_set (l' := [(4, .ref q101), (0, .int 0), (1, .int 0), (2, .int 0), (3, .int 0), (5, .null), (6, .int 0), (7, .int 0)]) hf 4 (.ref q101) (by decide) rfl
  have ho104 := fo_set ho_hf 4 (.ref q101)
  generalize (fs.set 4 (.ref q101)) = fs103 at hP hD hf ho104
  refine lv_aload_n hx hb dX5_init_13 rfl (lv_at hl 0 rfl) ?_
  refine lv_bipush (v := 29) hx hb dX5_init_14 (by decide) ?_
  refine tq_newa (atype := .int) (ty := .int) (n := 29) (N' := 29) (a0 := (29, .inl (fun _ => 0))) hx hb (hT _ kw_2_13) rfl hK hP hD hS hA 0 (cA 0) rfl (fun _ => rfl) (by decide) (by decide) (by decide) (Nat.le_of_ble_eq_true rfl) (Nat.le_of_ble_eq_true rfl) dX5_init_16 (fun q105 H hP hD hS => ?_)
  have hP : va_P G vwCl [(h0, .inr (5, fs103)), (q101, .inl (cA 3, 700, .inl f102)), (q105, .inl (cA 0, 29, .inl ((fun _ => 0))))] H := hP
  have hD : va_D A [(h0, .inr (5, fs103)), (q101, .inl (cA 3, 700, .inl f102)), (q105, .inl (cA 0, 29, .inl ((fun _ => 0))))] := hD
  refine W.widen (k := 2) (n := 729) (Nat.le_of_ble_eq_true rfl) (Nat.le_of_ble_eq_true rfl) ?_
  obtain ⟨f106, ef106⟩ : ∃ z : Nat → Int32, z = (fun _ => 0) := ⟨_, rfl⟩
  rw [← ef106] at hP hD
  refine va_putF (D := G) (ci := 5) (v := .ref q105) (ty := (.array .int)) (C := RX5) (T := TX5) (N := 8) hx hb hT ku_5 tyX5 tyX5_ok nmX5 hown hK hP hD hS 0 rfl rfl 5 (by decide) (hT _ kw_3_12) (fun _ h9 => h9) rfl hin rfl (by decide +kernel) rfl rfl (fh_lt hf (by decide)) dX5_init_18 (fun H locs hP hD hS => ?_)
  have hP : va_P G vwCl [(h0, .inr (5, (fs103.set 5 (.ref q105)))), (q101, .inl (cA 3, 700, .inl f102)), (q105, .inl (cA 0, 29, .inl f106))] H := hP
  have hD : va_D A [(h0, .inr (5, (fs103.set 5 (.ref q105)))), (q101, .inl (cA 3, 700, .inl f102)), (q105, .inl (cA 0, 29, .inl f106))] := hD
  have hf := fh_set (l' := [(5, .ref q105), (4, .ref q101), (0, .int 0), (1, .int 0), (2, .int 0), (3, .int 0), (6, .int 0), (7, .int 0)]) hf 5 (.ref q105) (by decide) rfl
  have ho108 := fo_set ho104 5 (.ref q105)
  generalize (fs103.set 5 (.ref q105)) = fs107 at hP hD hf ho108
  refine lv_iconst (v := 0) hx hb dX5_init_21 (by decide) ?_
  refine lv_istore_n (lv' := [(1, .int 0), (0, .ref h0)]) hx hb dX5_init_22 rfl hl (by decide) rfl (fun ls hl => ?_)
  refine lv_iconst (v := 0) hx hb dX5_init_23 (by decide) ?_
  refine lv_istore_n (lv' := [(2, .int 0), (1, .int 0), (0, .ref h0)]) hx hb dX5_init_24 rfl hl (by decide) rfl (fun ls hl => ?_)
  refine lv_iconst (v := 0) hx hb dX5_init_25 (by decide) ?_
  refine lv_istore_n (lv' := [(3, .int 0), (2, .int 0), (1, .int 0), (0, .ref h0)]) hx hb dX5_init_26 rfl hl (by decide) rfl (fun ls hl => ?_)
  refine lv_iconst (v := 0) hx hb dX5_init_27 (by decide) ?_
  refine lv_istore (lv' := [(4, .int 0), (3, .int 0), (2, .int 0), (1, .int 0), (0, .ref h0)]) hx hb dX5_init_28 hl (by decide) rfl (fun ls hl => ?_)
  have loop : ∀ (n : Nat) (wd le si ii : Int32) (fw : Nat → Int32) (H : Heap) (locs : List Loc) (ls : Array Slot), (0 ≤ ii.toInt ∧ ii.toInt ≤ 153) → (0 ≤ wd.toInt ∧ wd.toInt ≤ 29) → (153 < ii.toInt + n) → va_P G vwCl [(h0, .inr (5, fs107)), (q101, .inl (cA 3, 700, .inl f102)), (q105, .inl (cA 0, 29, .inl fw))] H → va_D A [(h0, .inr (5, fs107)), (q101, .inl (cA 3, 700, .inl f102)), (q105, .inl (cA 0, 29, .inl fw))] → va_S A s.heap H locs → lv_has ls 6 [(4, .int ii), (3, .int si), (2, .int le), (1, .int wd), (0, .ref h0)] → W p l e (headSpec (.code yX5_init cX5_init 6 none :: T0) ({ frames := 4, cells := 2, slots := 729, locals := 85 })).room s m ([.ref h0] : List Value).toArray below meth c H locs 2 729 (MQ below (tqQv G cA (fun (u : List Value × Nat × (Nat → Int32) × Nat × (Nat → Int32)) => fo fs u.1 [5, 4] ∧ fh u.1 8 [(5, .ref u.2.2.2.1), (4, .ref u.2.1)]) (fun (u : List Value × Nat × (Nat → Int32) × Nat × (Nat → Int32)) => [(h0, .inr (5, u.1)), (u.2.1, .inl (cA 3, 700, .inl u.2.2.1)), (u.2.2.2.1, .inl (cA 0, 29, .inl u.2.2.2.2))]) A) ([.ref h0] : List Value).toArray s 2 729 A) (F0 m 30 ls []) := by
    intro n
    induction n with
    | zero => intro wd le si ii fw H locs ls h1 h2 h3; exfalso; omega
    | succ n ih =>
      intro wd le si ii fw H locs ls hi hw hn hP hD hS hl
      refine lv_iload hx hb dX5_init_30 (lv_at hl 0 rfl) ?_
      refine va_ldcS (tx := tqTX) hx hb hown hR dX5_init_32 ?_
      refine tq_ci (wr := [(h0, .inr (5, fs107)), (q101, .inl (cA 3, 700, .inl f102)), (q105, .inl (cA 0, 29, .inl fw))]) hP hD hS hA [] [0, 1, 2] rfl rfl (by decide) (by decide) (va_runV (As := []) (rest := [.int ii]) ⟨hx, hb, hml, hown, hT⟩ (c_J0_length_8abf5 l G cA H.size sA vA fb ) (cwV 0 hT (tq_gV kw_3_13 kw_3_14 kw_3_15 kw_3_16 kw_3_17) rfl rfl rfl (by decide +kernel) ⟨Nat.le_of_ble_eq_true rfl, Nat.le_of_ble_eq_true rfl⟩) ⟨(tq_pre2 (isC := []) hP hD hK hN rfl (by decide) hS hA hSt hR).1, va_Orecv hSt.1 hS, (tq_pre2 (isC := []) hP hD hK hN rfl (by decide) hS hA hSt hR).2⟩ rfl rfl hl.1 rfl (lv_room (Nat.le_of_ble_eq_true rfl)) dX5_init_34 ⟨Nat.le_of_ble_eq_true rfl, Nat.le_of_ble_eq_true rfl⟩) (fun r109 u110 H locs hw111 hP hD hS => ?_)
      refine W.widen (k := 2) (n := 729) (Nat.le_of_ble_eq_true rfl) (Nat.le_of_ble_eq_true rfl) ?_
      have hr112 := hw111
      subst hr112
      have hP : va_P G vwCl [(h0, .inr (5, fs107)), (q101, .inl (cA 3, 700, .inl f102)), (q105, .inl (cA 0, 29, .inl fw))] H := hP
      have hD : va_D A [(h0, .inr (5, fs107)), (q101, .inl (cA 3, 700, .inl f102)), (q105, .inl (cA 0, 29, .inl fw))] := hD
      refine lv_icmp_ge (tgt := 107) hx hb dX5_init_37 (by decide) (fun c113 => ?_) (fun c113 => ?_)
      · have k113 := tq_le (a := 153) (b := ii.toInt) (by decide) rfl c113
        have qho108 := fo_mono (k2 := [5, 4]) ho108 (by decide)
        exact W.vret hx hb hr (fun t ht hW => ⟨⟨(fs107, q101, f102, q105, fw), rfl, ⟨qho108, fh_sub hf [0, 1] rfl⟩, by rw [ht]; exact hP, hD⟩, hS.F ht⟩) hS.2.2 dX5_init_107
      · have k113 := tq_len (a := 153) (b := ii.toInt) (by decide) rfl c113
        refine lv_iload_n hx hb dX5_init_40 rfl (lv_at hl 3 rfl) ?_
        refine lv_bipush (v := 29) hx hb dX5_init_41 (by decide) ?_
        refine lv_icmp_ge (tgt := 107) hx hb dX5_init_43 (by decide) (fun c114 => ?_) (fun c114 => ?_)
        · have k114 := tq_le (a := 29) (b := wd.toInt) (by decide) rfl c114
          have qho108 := fo_mono (k2 := [5, 4]) ho108 (by decide)
          exact W.vret hx hb hr (fun t ht hW => ⟨⟨(fs107, q101, f102, q105, fw), rfl, ⟨qho108, fh_sub hf [0, 1] rfl⟩, by rw [ht]; exact hP, hD⟩, hS.F ht⟩) hS.2.2 dX5_init_107
        · have k114 := tq_len (a := 29) (b := wd.toInt) (by decide) rfl c114
          refine va_ldcS (tx := tqTX) hx hb hown hR dX5_init_46 ?_
          refine lv_iload hx hb dX5_init_48 (lv_at hl 0 rfl) ?_
          refine tq_ci (wr := [(h0, .inr (5, fs107)), (q101, .inl (cA 3, 700, .inl f102)), (q105, .inl (cA 0, 29, .inl fw))]) hP hD hS hA [] [0, 1, 2] rfl rfl (by decide) (by decide) (va_runV (As := [.int ii]) (rest := []) ⟨hx, hb, hml, hown, hT⟩ (c_J0_charAt_5068e l G cA H.size sA ii vA fb (by omega)) (cwV 1 hT (tq_gV kw_4_1 kw_4_2 kw_4_3 kw_3_16 kw_4_4) rfl rfl rfl (by decide +kernel) ⟨Nat.le_of_ble_eq_true rfl, Nat.le_of_ble_eq_true rfl⟩) ⟨(tq_pre2 (isC := []) hP hD hK hN rfl (by decide) hS hA hSt hR).1, va_Orecv hSt.1 hS, (tq_pre2 (isC := []) hP hD hK hN rfl (by decide) hS hA hSt hR).2⟩ rfl rfl hl.1 rfl (lv_room (Nat.le_of_ble_eq_true rfl)) dX5_init_50 ⟨Nat.le_of_ble_eq_true rfl, Nat.le_of_ble_eq_true rfl⟩) (fun r115 u116 H locs hw117 hP hD hS => ?_)
          refine W.widen (k := 2) (n := 729) (Nat.le_of_ble_eq_true rfl) (Nat.le_of_ble_eq_true rfl) ?_
          have hp118 := hw117
          have hP : va_P G vwCl [(h0, .inr (5, fs107)), (q101, .inl (cA 3, 700, .inl f102)), (q105, .inl (cA 0, 29, .inl fw))] H := hP
          have hD : va_D A [(h0, .inr (5, fs107)), (q101, .inl (cA 3, 700, .inl f102)), (q105, .inl (cA 0, 29, .inl fw))] := hD
          refine lv_istore (lv' := [(5, .int r115), (4, .int ii), (3, .int si), (2, .int le), (1, .int wd), (0, .ref h0)]) hx hb dX5_init_53 hl (by decide) rfl (fun ls hl => ?_)
          refine lv_iload hx hb dX5_init_55 (lv_at hl 0 rfl) ?_
          refine lv_bipush (v := 32) hx hb dX5_init_57 (by decide) ?_
          refine lv_icmp_ne (tgt := 86) hx hb dX5_init_59 (by decide) (fun c119 => ?_) (fun c119 => ?_)
          · have k119 := tq_eqn (a := r115.toInt) (b := 32) rfl (by decide) c119
            refine lv_iload_n hx hb dX5_init_86 rfl (lv_at hl 3 rfl) ?_
            refine lv_iconst (v := 5) hx hb dX5_init_87 (by decide) ?_
            refine lv_ishl hx hb dX5_init_88 ?_
            refine lv_topi (fun x120 ex120 => ?_)
            refine lv_iload hx hb dX5_init_89 (lv_at hl 0 rfl) ?_
            refine lv_bipush (v := 97) hx hb dX5_init_91 (by decide) ?_
            refine lv_isub hx hb dX5_init_93 ?_
            refine lv_topi (fun x121 ex121 => ?_)
            refine lv_iconst (v := 1) hx hb dX5_init_94 (by decide) ?_
            refine lv_iadd hx hb dX5_init_95 ?_
            refine lv_topi (fun x122 ex122 => ?_)
            refine lv_ior hx hb dX5_init_96 ?_
            refine lv_topi (fun x123 ex123 => ?_)
            refine lv_istore_n (lv' := [(2, .int x123), (5, .int r115), (4, .int ii), (3, .int si), (1, .int wd), (0, .ref h0)]) hx hb dX5_init_97 rfl hl (by decide) rfl (fun ls hl => ?_)
            obtain ⟨x124, ex124⟩ : ∃ y : Int32, y = si + Int32.ofInt 1 := ⟨_, rfl⟩
            refine lv_iinc (v := x124) (lv' := [(3, .int x124), (2, .int x123), (5, .int r115), (4, .int ii), (1, .int wd), (0, .ref h0)]) hx hb dX5_init_98 hl (k := 3) rfl ex124.symm (by decide) rfl (fun ls hl => ?_)
            obtain ⟨x125, ex125⟩ : ∃ y : Int32, y = ii + Int32.ofInt 1 := ⟨_, rfl⟩
            refine lv_iinc (v := x125) (lv' := [(4, .int x125), (3, .int x124), (2, .int x123), (5, .int r115), (1, .int wd), (0, .ref h0)]) hx hb dX5_init_101 hl (k := 3) rfl ex125.symm (by decide) rfl (fun ls hl => ?_)
            refine lv_goto (tgt := 30) hx hb dX5_init_104 (by decide) ?_
            have qii := tq_inc ex125 (by omega) (by omega)
            exact ih wd x123 x124 x125 fw H locs ls ⟨by omega, by omega⟩ ⟨by omega, by omega⟩ (by omega) hP hD hS (lv_sub hl [0, 1, 2, 4, 5] rfl)
          · have k119 := tq_eq (a := r115.toInt) (b := 32) rfl (by decide) c119
            refine lv_aload_n hx hb dX5_init_62 rfl (lv_at hl 5 rfl) ?_
            refine va_get (D := G) (ci := 5) (v := .ref q105) (C := RX5) (T := TX5) (N := 8) hx hb hT ku_5 hown hK hP 0 rfl rfl 5 (by decide) (hT _ kw_3_12) (fun _ h9 => h9) (fh_at hf 0 rfl) dX5_init_63 ?_
            refine lv_iload_n hx hb dX5_init_66 rfl (lv_at hl 4 rfl) ?_
            refine lv_iload_n hx hb dX5_init_67 rfl (lv_at hl 3 rfl) ?_
            refine lv_iconst (v := 5) hx hb dX5_init_68 (by decide) ?_
            refine lv_bipush (v := 6) hx hb dX5_init_69 (by decide) ?_
            refine lv_iload_n hx hb dX5_init_71 rfl (lv_at hl 2 rfl) ?_
            refine lv_isub hx hb dX5_init_72 ?_
            refine lv_topi (fun x126 ex126 => ?_)
            refine lv_imul hx hb dX5_init_73 ?_
            refine lv_topi (fun x127 ex127 => ?_)
            refine lv_ishl hx hb dX5_init_74 ?_
            refine lv_topi (fun x128 ex128 => ?_)
            have hin129 : vp_in wd 29 := vp_in_iff.mpr ⟨by omega, by omega⟩
            refine va_iast (i := wd) hx hb hK hP hD hS 2 0 rfl rfl hin129 dX5_init_75 (fun H locs hP hD hS => ?_)
            have hP : va_P G vwCl [(h0, .inr (5, fs107)), (q101, .inl (cA 3, 700, .inl f102)), (q105, .inl (cA 0, 29, .inl ((upd fw (wd : Int32).toNatClampNeg x128))))] H := hP
            have hD : va_D A [(h0, .inr (5, fs107)), (q101, .inl (cA 3, 700, .inl f102)), (q105, .inl (cA 0, 29, .inl ((upd fw (wd : Int32).toNatClampNeg x128))))] := hD
            generalize (upd fw (wd : Int32).toNatClampNeg x128) = f130 at hP hD
            obtain ⟨x131, ex131⟩ : ∃ y : Int32, y = wd + Int32.ofInt 1 := ⟨_, rfl⟩
            refine lv_iinc (v := x131) (lv' := [(1, .int x131), (5, .int r115), (4, .int ii), (3, .int si), (2, .int le), (0, .ref h0)]) hx hb dX5_init_76 hl (k := 4) rfl ex131.symm (by decide) rfl (fun ls hl => ?_)
            refine lv_iconst (v := 0) hx hb dX5_init_79 (by decide) ?_
            refine lv_istore_n (lv' := [(2, .int 0), (1, .int x131), (5, .int r115), (4, .int ii), (3, .int si), (0, .ref h0)]) hx hb dX5_init_80 rfl hl (by decide) rfl (fun ls hl => ?_)
            refine lv_iconst (v := 0) hx hb dX5_init_81 (by decide) ?_
            refine lv_istore_n (lv' := [(3, .int 0), (2, .int 0), (1, .int x131), (5, .int r115), (4, .int ii), (0, .ref h0)]) hx hb dX5_init_82 rfl hl (by decide) rfl (fun ls hl => ?_)
            refine lv_goto (tgt := 101) hx hb dX5_init_83 (by decide) ?_
            obtain ⟨x132, ex132⟩ : ∃ y : Int32, y = ii + Int32.ofInt 1 := ⟨_, rfl⟩
            refine lv_iinc (v := x132) (lv' := [(4, .int x132), (3, .int 0), (2, .int 0), (1, .int x131), (5, .int r115), (0, .ref h0)]) hx hb dX5_init_101 hl (k := 4) rfl ex132.symm (by decide) rfl (fun ls hl => ?_)
            refine lv_goto (tgt := 30) hx hb dX5_init_104 (by decide) ?_
            have qii := tq_inc ex132 (by omega) (by omega)
            have qwd := tq_inc ex131 (by omega) (by omega)
            exact ih x131 0 0 x132 f130 H locs ls ⟨by omega, by omega⟩ ⟨by omega, by omega⟩ (by omega) hP hD hS (lv_sub hl [0, 1, 2, 3, 5] rfl)
  exact loop 154 0 0 0 0 f106 H locs ls (by decide) (by decide) (by decide) hP hD hS (lv_sub hl [0, 1, 2, 3, 4] rfl)

set_option maxHeartbeats 4000000 in
set_option maxRecDepth 100000 in
theorem c_X3_init (l : Launch) (G : va_G) (cA : Nat → ClassId) (sz : Nat) (h0 : Nat) (fs : List Value) (sA : Nat) (vA : Nat) (fb : Nat → Int32) (hf : fh fs 10 [(0, .null), (1, .int 0), (2, .int 0), (3, .int 0), (4, .null), (5, .int 0), (6, .int 0), (7, .null), (8, .int 0), (9, .int 0)]) : Met l yX3_init (.code yX3_init cX3_init 1 none :: T0) ({ frames := 5, cells := 26, slots := 1319, locals := 110 }) (tqP2 G cA sA vA fb [.ref h0] [(h0, .inr (3, fs))] sz) (tqQv G cA (fun (u : (Nat → Nat) × (Nat → List Value) × (Nat → Nat → Int32) × (Nat → Nat → Int64) × (Nat → Nat → Option Nat)) => fo fs (u.2.1 0) [7, 4, 3, 2, 1, 0] ∧ fh (u.2.1 0) 10 [(7, .ref ((u.1 25))), (4, .ref ((u.1 3))), (3, .int 0), (2, .int (-1)), (1, .int 0), (0, .ref ((u.1 0)))] ∧ fh (u.2.1 1) 8 [(0, .int 0), (1, .int 0), (2, .int 0), (3, .int 0), (4, .ref ((u.1 1))), (5, .ref ((u.1 2))), (6, .int 0), (7, .int 0)] ∧ fh (u.2.1 2) 19 [(0, .int 0), (1, .int 0), (2, .int 0), (3, .int 0), (4, .int 0), (5, .int 0), (6, .int 0), (7, .ref ((u.1 4))), (8, .ref ((u.1 5))), (9, .ref ((u.1 6))), (10, .ref ((u.1 7))), (11, .ref ((u.1 8))), (12, .ref ((u.1 9))), (13, .ref ((u.1 10))), (14, .ref ((u.1 11))), (15, .ref ((u.1 12))), (16, .ref ((u.1 13))), (17, .ref ((u.1 20))), (18, .ref ((u.1 21)))] ∧ (∀ j, j < 21 → (u.2.2.1 15) j = 60) ∧ (u.2.2.2.2 0) 0 = some (u.1 22) ∧ (u.2.2.2.2 0) 1 = some (u.1 23) ∧ (u.2.2.2.2 0) 2 = some (u.1 24) ∧ fh (u.2.1 3) 3 [(0, .ref ((u.1 14))), (1, .int 0), (2, .ref ((u.1 15)))] ∧ fh (u.2.1 4) 3 [(0, .ref ((u.1 16))), (1, .int 0), (2, .ref ((u.1 17)))] ∧ fh (u.2.1 5) 3 [(0, .ref ((u.1 18))), (1, .int 0), (2, .ref ((u.1 19)))]) (fun (u : (Nat → Nat) × (Nat → List Value) × (Nat → Nat → Int32) × (Nat → Nat → Int64) × (Nat → Nat → Option Nat)) => [(h0, .inr (3, (u.2.1 0))), ((u.1 0), .inr (5, (u.2.1 1))), ((u.1 1), .inl (cA 3, 700, .inl ((u.2.2.1 0)))), ((u.1 2), .inl (cA 0, 29, .inl ((u.2.2.1 1)))), ((u.1 3), .inr (2, (u.2.1 2))), ((u.1 4), .inl (cA 0, 5, .inl ((u.2.2.1 2)))), ((u.1 5), .inl (cA 0, 5, .inl ((u.2.2.1 3)))), ((u.1 6), .inl (cA 0, 6, .inl ((u.2.2.1 4)))), ((u.1 7), .inl (cA 0, 6, .inl ((u.2.2.1 5)))), ((u.1 8), .inl (cA 0, 6, .inl ((u.2.2.1 6)))), ((u.1 9), .inl (cA 0, 6, .inl ((u.2.2.1 7)))), ((u.1 10), .inl (cA 0, 10, .inl ((u.2.2.1 8)))), ((u.1 11), .inl (cA 0, 10, .inl ((u.2.2.1 9)))), ((u.1 12), .inl (cA 0, 10, .inl ((u.2.2.1 10)))), ((u.1 13), .inl (cA 0, 10, .inl ((u.2.2.1 11)))), ((u.1 14), .inl (cA 0, 64, .inl ((u.2.2.1 12)))), ((u.1 15), .inl (cA 2, 64, .inr (.inl ((u.2.2.2.1 0))))), ((u.1 16), .inl (cA 0, 64, .inl ((u.2.2.1 13)))), ((u.1 17), .inl (cA 2, 64, .inr (.inl ((u.2.2.2.1 1))))), ((u.1 18), .inl (cA 0, 64, .inl ((u.2.2.1 14)))), ((u.1 19), .inl (cA 2, 64, .inr (.inl ((u.2.2.2.1 2))))), ((u.1 20), .inl (cA 0, 21, .inl ((u.2.2.1 15)))), ((u.1 21), .inl (cA 4, 3, .inr (.inr (.inr (.inr ((u.2.2.2.2 0))))))), ((u.1 22), .inr (1, (u.2.1 3))), ((u.1 23), .inr (1, (u.2.1 4))), ((u.1 24), .inr (1, (u.2.1 5))), ((u.1 25), .inl (cA 0, 72, .inl ((u.2.2.1 16))))]) (va_A [(h0, .inr (3, fs))] sz)) 26 1319 (va_A [(h0, .inr (3, fs))] sz) := by
  refine Met.ofW (cc := cX3_init) (maxL := 1) (ret := none) (by decide) rfl ?_
  intro p e s m args below meth c s₁ B hml hv
  obtain ⟨rfl, hsz, hP, hK, hD0, hN, hSt, hR⟩ := hv
  have hx := B.exec
  have hb := B.bytes
  have hr := B.returns
  have hts := atoms_spec (ws := .code yX3_init cX3_init 1 none :: T0) B.pre
  have hT : ∀ w ∈ T0, w.before _ s = true := fun w h => hts w (List.mem_cons_of_mem _ h)
  have hown : s.vm.findClass RX3 = some m.cls := findClass_of_methodNamed B.named
  have hlocks := B.notSynchronized
  have hin : meth.name = "<init>" := (name_of_methodNamed B.named B.method).1
  subst hsz
  have hD := hD0.self (sz := s.heap.size)
  generalize hAe : va_A [(h0, .inr (3, fs))] s.heap.size = A at hD hSt ⊢
  have hA : ∀ q : Nat, s.heap.size ≤ q → A q := fun q h => by rw [← hAe]; exact Or.inr h
  have hS : va_S A s.heap s.heap [] := va_S.rf
  have hl := lv_entry ([.ref h0]) (n := 1) (Nat.le_of_ble_eq_true rfl)
  rw [lg_entry_eq]
  generalize (lg_sl ([.ref h0]) ++ List.replicate (1 - (lg_sl ([.ref h0])).length) Slot.unset).toArray = ls at hl ⊢
  have hl : lv_has ls 1 [(0, .ref h0)] := hl
  obtain ⟨H, hH⟩ : ∃ z, z = s.heap := ⟨_, rfl⟩
  rw [← hH] at hP
  have hS : va_S A s.heap H [] := by rw [hH]; exact hS
  suffices hgo : W p l e _ s m _ below meth c H [] 0 0 _ _ by rw [hH] at hgo; exact hgo
  have hO := hN.2.2.2.2
  have ho_hf := fo_refl fs
  refine lv_aload_n hx hb dX3_init_0 rfl (lv_at hl 0 rfl) ?_
  refine W.objInit hx hb hown (hT _ kw_2_19) (hT _ kw_1_11) (hT _ kw_1_12) rfl (by rw [hml]; exact hl.1) rfl dX3_init_1 (Nat.le_of_ble_eq_true rfl) (Nat.le_of_ble_eq_true rfl) ?_
  refine W.eq (g2 := F0 m 4 ls []) rfl ?_
  refine lv_aload_n hx hb dX3_init_4 rfl (lv_at hl 0 rfl) ?_
  refine va_new (ci := 5) (fs := [.int 0, .int 0, .int 0, .int 0, .null, .null, .int 0, .int 0]) (C := RX5) (T := TX5) (N := 8) hx hb hT ku_5 tyX5 tyX5_ok hown (hT _ kw_2_20) (hT _ kw_2_21) (hT _ kw_2_22) hK hP hD hS hA rfl tq_dfX5 (Nat.le_of_ble_eq_true rfl) (Nat.le_of_ble_eq_true rfl) dX3_init_5 (fun q101 H hP hD hS => ?_)
  have hP : va_P G vwCl [(h0, .inr (3, fs)), (q101, .inr (5, [.int 0, .int 0, .int 0, .int 0, .null, .null, .int 0, .int 0]))] H := hP
  have hD : va_D A [(h0, .inr (3, fs)), (q101, .inr (5, [.int 0, .int 0, .int 0, .int 0, .null, .null, .int 0, .int 0]))] := hD
  have hf103 : fh [.int 0, .int 0, .int 0, .int 0, .null, .null, .int 0, .int 0] 8 [(0, .int 0), (1, .int 0), (2, .int 0), (3, .int 0), (4, .null), (5, .null), (6, .int 0), (7, .int 0)] := fh_dfX5
  generalize ([.int 0, .int 0, .int 0, .int 0, .null, .null, .int 0, .int 0] : List Value) = fs102 at hP hD hf103
  refine W.widen (k := 1) (n := 8) (Nat.le_of_ble_eq_true rfl) (Nat.le_of_ble_eq_true rfl) ?_
  refine lv_dup hx hb dX3_init_8 rfl ?_
  refine tq_cv (wr := [(h0, .inr (3, fs))]) hP hD hS hA [1] [0] rfl rfl (by decide) (by decide) (va_runI (As := []) (rest := [.ref q101, .ref h0]) ⟨hx, hb, hml, hown, hT⟩ (c_X5_init l G cA H.size q101 fs102 sA vA fb (fh_sub hf103 [0, 1, 2, 3, 4, 5, 6, 7] rfl)) (cwI 0 hT (tq_gC kw_3_8) rfl rfl rfl (hT _ kw_2_22) (hT _ kw_3_6) (hT _ kw_3_7) rfl (by decide +kernel) ⟨Nat.le_of_ble_eq_true rfl, Nat.le_of_ble_eq_true rfl⟩) (tq_pre2 (isC := [1]) hP hD hK hN rfl (by decide) hS hA hSt hR) rfl rfl hl.1 rfl (lv_room (Nat.le_of_ble_eq_true rfl)) dX3_init_9 ⟨Nat.le_of_ble_eq_true rfl, Nat.le_of_ble_eq_true rfl⟩) (fun u104 H locs hw105 hP hD hS => ?_)
  refine W.widen (k := 3) (n := 737) (Nat.le_of_ble_eq_true rfl) (Nat.le_of_ble_eq_true rfl) ?_
  obtain ⟨g106, q107, g108, q109, g110⟩ := u104
  obtain ⟨ho111, hf112⟩ := hw105
  try dsimp only at hP hD ho111 hf112
  have hf112 := fh_app (fo_fh (l' := [(0, .int 0), (1, .int 0), (2, .int 0), (3, .int 0), (6, .int 0), (7, .int 0)]) hf103 ho111 rfl) hf112
  have hf112 : fh g106 8 [(0, .int 0), (1, .int 0), (2, .int 0), (3, .int 0), (6, .int 0), (7, .int 0), (5, .ref q109), (4, .ref q107)] := hf112
  have hP : va_P G vwCl [(h0, .inr (3, fs)), (q101, .inr (5, g106)), (q107, .inl (cA 3, 700, .inl g108)), (q109, .inl (cA 0, 29, .inl g110))] H := hP
  have hD : va_D A [(h0, .inr (3, fs)), (q101, .inr (5, g106)), (q107, .inl (cA 3, 700, .inl g108)), (q109, .inl (cA 0, 29, .inl g110))] := hD
  refine va_putF (D := G) (ci := 3) (v := .ref q101) (ty := (.object "RackTrain$Tokens")) (C := RX3) (T := TX3) (N := 10) hx hb hT ku_3 tyX3 tyX3_ok nmX3 hown hK hP hD hS 0 rfl rfl 0 (by decide) (hT _ kw_2_23) (fun _ h9 => h9) rfl hin rfl (by decide +kernel) rfl rfl (fh_lt hf (by decide)) dX3_init_12 (fun H locs hP hD hS => ?_)
  have hP : va_P G vwCl [(h0, .inr (3, (fs.set 0 (.ref q101)))), (q101, .inr (5, g106)), (q107, .inl (cA 3, 700, .inl g108)), (q109, .inl (cA 0, 29, .inl g110))] H := hP
  have hD : va_D A [(h0, .inr (3, (fs.set 0 (.ref q101)))), (q101, .inr (5, g106)), (q107, .inl (cA 3, 700, .inl g108)), (q109, .inl (cA 0, 29, .inl g110))] := hD
  have hf := fh_set (l' := [(0, .ref q101), (1, .int 0), (2, .int 0), (3, .int 0), (4, .null), (5, .int 0), (6, .int 0), (7, .null), (8, .int 0), (9, .int 0)]) hf 0 (.ref q101) (by decide) rfl
  have ho114 := fo_set ho_hf 0 (.ref q101)
  generalize (fs.set 0 (.ref q101)) = fs113 at hP hD hf ho114
  refine lv_aload_n hx hb dX3_init_15 rfl (lv_at hl 0 rfl) ?_
  refine lv_iconst (v := 0) hx hb dX3_init_16 (by decide) ?_
  refine va_put (D := G) (ci := 3) (v := .int 0) (ty := .int) (C := RX3) (T := TX3) (N := 10) hx hb hT ku_3 tyX3 tyX3_ok nmX3 hown hK hP hD hS 0 rfl rfl 1 (by decide) (hT _ kw_3_0) (fun _ h9 => h9) rfl (by decide +kernel) rfl rfl (fh_lt hf (by decide)) dX3_init_17 (fun H locs hP hD hS => ?_)
  have hP : va_P G vwCl [(h0, .inr (3, (fs113.set 1 (.int 0)))), (q101, .inr (5, g106)), (q107, .inl (cA 3, 700, .inl g108)), (q109, .inl (cA 0, 29, .inl g110))] H := hP
  have hD : va_D A [(h0, .inr (3, (fs113.set 1 (.int 0)))), (q101, .inr (5, g106)), (q107, .inl (cA 3, 700, .inl g108)), (q109, .inl (cA 0, 29, .inl g110))] := hD
  have hf := fh_set (l' := [(1, .int 0), (0, .ref q101), (2, .int 0), (3, .int 0), (4, .null), (5, .int 0), (6, .int 0), (7, .null), (8, .int 0), (9, .int 0)]) hf 1 (.int 0) (by decide) rfl
  have ho116 := fo_set ho114 1 (.int 0)
  generalize (fs113.set 1 (.int 0)) = fs115 at hP hD hf ho116
  refine lv_aload_n hx hb dX3_init_20 rfl (lv_at hl 0 rfl) ?_
  refine lv_iconst (v := (-1)) hx hb dX3_init_21 (by decide) ?_
  refine va_put (D := G) (ci := 3) (v := .int (-1)) (ty := .int) (C := RX3) (T := TX3) (N := 10) hx hb hT ku_3 tyX3 tyX3_ok nmX3 hown hK hP hD hS 0 rfl rfl 2 (by decide) (hT _ kw_3_1) (fun _ h9 => h9) rfl (by decide +kernel) rfl rfl (fh_lt hf (by decide)) dX3_init_22 (fun H locs hP hD hS => ?_)
  have hP : va_P G vwCl [(h0, .inr (3, (fs115.set 2 (.int (-1))))), (q101, .inr (5, g106)), (q107, .inl (cA 3, 700, .inl g108)), (q109, .inl (cA 0, 29, .inl g110))] H := hP
  have hD : va_D A [(h0, .inr (3, (fs115.set 2 (.int (-1))))), (q101, .inr (5, g106)), (q107, .inl (cA 3, 700, .inl g108)), (q109, .inl (cA 0, 29, .inl g110))] := hD
  have hf := fh_set (l' := [(2, .int (-1)), (1, .int 0), (0, .ref q101), (3, .int 0), (4, .null), (5, .int 0), (6, .int 0), (7, .null), (8, .int 0), (9, .int 0)]) hf 2 (.int (-1)) (by decide) rfl
  have ho118 := fo_set ho116 2 (.int (-1))
  generalize (fs115.set 2 (.int (-1))) = fs117 at hP hD hf ho118
  refine lv_aload_n hx hb dX3_init_25 rfl (lv_at hl 0 rfl) ?_
  refine lv_iconst (v := 0) hx hb dX3_init_26 (by decide) ?_
  refine va_put (D := G) (ci := 3) (v := .int 0) (ty := .int) (C := RX3) (T := TX3) (N := 10) hx hb hT ku_3 tyX3 tyX3_ok nmX3 hown hK hP hD hS 0 rfl rfl 3 (by decide) (hT _ kw_3_2) (fun _ h9 => h9) rfl (by decide +kernel) rfl rfl (fh_lt hf (by decide)) dX3_init_27 (fun H locs hP hD hS => ?_)
  have hP : va_P G vwCl [(h0, .inr (3, (fs117.set 3 (.int 0)))), (q101, .inr (5, g106)), (q107, .inl (cA 3, 700, .inl g108)), (q109, .inl (cA 0, 29, .inl g110))] H := hP
  have hD : va_D A [(h0, .inr (3, (fs117.set 3 (.int 0)))), (q101, .inr (5, g106)), (q107, .inl (cA 3, 700, .inl g108)), (q109, .inl (cA 0, 29, .inl g110))] := hD
  have hf := fh_set (l' := [(3, .int 0), (2, .int (-1)), (1, .int 0), (0, .ref q101), (4, .null), (5, .int 0), (6, .int 0), (7, .null), (8, .int 0), (9, .int 0)]) hf 3 (.int 0) (by decide) rfl
  have ho120 := fo_set ho118 3 (.int 0)
  generalize (fs117.set 3 (.int 0)) = fs119 at hP hD hf ho120
  refine lv_aload_n hx hb dX3_init_30 rfl (lv_at hl 0 rfl) ?_
  refine va_new (ci := 2) (fs := [.int 0, .int 0, .int 0, .int 0, .int 0, .int 0, .int 0, .null, .null, .null, .null, .null, .null, .null, .null, .null, .null, .null, .null]) (C := RX2) (T := TX2) (N := 19) hx hb hT ku_2 tyX2 tyX2_ok hown (hT _ kw_3_3) (hT _ kw_1_18) (hT _ kw_1_19) hK hP hD hS hA rfl tq_dfX2 (Nat.le_of_ble_eq_true rfl) (Nat.le_of_ble_eq_true rfl) dX3_init_31 (fun q121 H hP hD hS => ?_)
  have hP : va_P G vwCl [(h0, .inr (3, fs119)), (q101, .inr (5, g106)), (q107, .inl (cA 3, 700, .inl g108)), (q109, .inl (cA 0, 29, .inl g110)), (q121, .inr (2, [.int 0, .int 0, .int 0, .int 0, .int 0, .int 0, .int 0, .null, .null, .null, .null, .null, .null, .null, .null, .null, .null, .null, .null]))] H := hP
  have hD : va_D A [(h0, .inr (3, fs119)), (q101, .inr (5, g106)), (q107, .inl (cA 3, 700, .inl g108)), (q109, .inl (cA 0, 29, .inl g110)), (q121, .inr (2, [.int 0, .int 0, .int 0, .int 0, .int 0, .int 0, .int 0, .null, .null, .null, .null, .null, .null, .null, .null, .null, .null, .null, .null]))] := hD
  have hf123 : fh [.int 0, .int 0, .int 0, .int 0, .int 0, .int 0, .int 0, .null, .null, .null, .null, .null, .null, .null, .null, .null, .null, .null, .null] 19 [(0, .int 0), (1, .int 0), (2, .int 0), (3, .int 0), (4, .int 0), (5, .int 0), (6, .int 0), (7, .null), (8, .null), (9, .null), (10, .null), (11, .null), (12, .null), (13, .null), (14, .null), (15, .null), (16, .null), (17, .null), (18, .null)] := fh_dfX2
  generalize ([.int 0, .int 0, .int 0, .int 0, .int 0, .int 0, .int 0, .null, .null, .null, .null, .null, .null, .null, .null, .null, .null, .null, .null] : List Value) = fs122 at hP hD hf123
  refine W.widen (k := 4) (n := 756) (Nat.le_of_ble_eq_true rfl) (Nat.le_of_ble_eq_true rfl) ?_
  refine lv_dup hx hb dX3_init_34 rfl ?_
  refine tq_cv (wr := [(h0, .inr (3, fs119)), (q101, .inr (5, g106)), (q107, .inl (cA 3, 700, .inl g108)), (q109, .inl (cA 0, 29, .inl g110))]) hP hD hS hA [4] [0, 1, 2, 3] rfl rfl (by decide) (by decide) (va_runI (As := []) (rest := [.ref q121, .ref h0]) ⟨hx, hb, hml, hown, hT⟩ (c_X2_init l G cA H.size q121 fs122 (fh_sub hf123 [0, 1, 2, 3, 4, 5, 6, 7, 8, 9, 10, 11, 12, 13, 14, 15, 16, 17, 18] rfl)) (cwI 0 hT (tq_gC kw_5_16) rfl rfl rfl (hT _ kw_1_19) (hT _ kw_5_14) (hT _ kw_5_15) rfl (by decide +kernel) ⟨Nat.le_of_ble_eq_true rfl, Nat.le_of_ble_eq_true rfl⟩) (tq_pre (isC := [4]) hP hD hK hN rfl (by decide)) rfl rfl hl.1 rfl (lv_room (Nat.le_of_ble_eq_true rfl)) dX3_init_35 ⟨Nat.le_of_ble_eq_true rfl, Nat.le_of_ble_eq_true rfl⟩) (fun u124 H locs hw125 hP hD hS => ?_)
  refine W.widen (k := 25) (n := 1247) (Nat.le_of_ble_eq_true rfl) (Nat.le_of_ble_eq_true rfl) ?_
  obtain ⟨g126, q127, g128, q129, g130, q131, g132, q133, g134, q135, g136, q137, g138, q139, g140, q141, g142, q143, g144, q145, g146, q147, g148, q149, g150, q151, g152, q153, g154, q155, g156, q157, g158, q159, g160, q161, g162, q163, g164, q165, g166, q167, g168⟩ := u124
  obtain ⟨ho169, hf170, hF171, hL172, hL173, hL174, hf175, hf176, hf177⟩ := hw125
  try dsimp only at hP hD ho169 hf170 hF171 hL172 hL173 hL174 hf175 hf176 hf177
  have hf170 := fh_app (fo_fh (l' := []) hf123 ho169 rfl) hf170
  have hf170 : fh g126 19 [(6, .int 0), (5, .int 0), (4, .int 0), (3, .int 0), (2, .int 0), (1, .int 0), (0, .int 0), (18, .ref q161), (17, .ref q159), (16, .ref q145), (15, .ref q143), (14, .ref q141), (13, .ref q139), (12, .ref q137), (11, .ref q135), (10, .ref q133), (9, .ref q131), (8, .ref q129), (7, .ref q127)] := hf170
  have hP : va_P G vwCl [(h0, .inr (3, fs119)), (q101, .inr (5, g106)), (q107, .inl (cA 3, 700, .inl g108)), (q109, .inl (cA 0, 29, .inl g110)), (q121, .inr (2, g126)), (q127, .inl (cA 0, 5, .inl g128)), (q129, .inl (cA 0, 5, .inl g130)), (q131, .inl (cA 0, 6, .inl g132)), (q133, .inl (cA 0, 6, .inl g134)), (q135, .inl (cA 0, 6, .inl g136)), (q137, .inl (cA 0, 6, .inl g138)), (q139, .inl (cA 0, 10, .inl g140)), (q141, .inl (cA 0, 10, .inl g142)), (q143, .inl (cA 0, 10, .inl g144)), (q145, .inl (cA 0, 10, .inl g146)), (q147, .inl (cA 0, 64, .inl g148)), (q149, .inl (cA 2, 64, .inr (.inl g150))), (q151, .inl (cA 0, 64, .inl g152)), (q153, .inl (cA 2, 64, .inr (.inl g154))), (q155, .inl (cA 0, 64, .inl g156)), (q157, .inl (cA 2, 64, .inr (.inl g158))), (q159, .inl (cA 0, 21, .inl g160)), (q161, .inl (cA 4, 3, .inr (.inr (.inr (.inr g162))))), (q163, .inr (1, g164)), (q165, .inr (1, g166)), (q167, .inr (1, g168))] H := hP
  have hD : va_D A [(h0, .inr (3, fs119)), (q101, .inr (5, g106)), (q107, .inl (cA 3, 700, .inl g108)), (q109, .inl (cA 0, 29, .inl g110)), (q121, .inr (2, g126)), (q127, .inl (cA 0, 5, .inl g128)), (q129, .inl (cA 0, 5, .inl g130)), (q131, .inl (cA 0, 6, .inl g132)), (q133, .inl (cA 0, 6, .inl g134)), (q135, .inl (cA 0, 6, .inl g136)), (q137, .inl (cA 0, 6, .inl g138)), (q139, .inl (cA 0, 10, .inl g140)), (q141, .inl (cA 0, 10, .inl g142)), (q143, .inl (cA 0, 10, .inl g144)), (q145, .inl (cA 0, 10, .inl g146)), (q147, .inl (cA 0, 64, .inl g148)), (q149, .inl (cA 2, 64, .inr (.inl g150))), (q151, .inl (cA 0, 64, .inl g152)), (q153, .inl (cA 2, 64, .inr (.inl g154))), (q155, .inl (cA 0, 64, .inl g156)), (q157, .inl (cA 2, 64, .inr (.inl g158))), (q159, .inl (cA 0, 21, .inl g160)), (q161, .inl (cA 4, 3, .inr (.inr (.inr (.inr g162))))), (q163, .inr (1, g164)), (q165, .inr (1, g166)), (q167, .inr (1, g168))] := hD
  refine va_put (D := G) (ci := 3) (v := .ref q121) (ty := (.object "RackTrain$Plan")) (C := RX3) (T := TX3) (N := 10) hx hb hT ku_3 tyX3 tyX3_ok nmX3 hown hK hP hD hS 0 rfl rfl 4 (by decide) (hT _ kw_3_4) (fun _ h9 => h9) rfl (by decide +kernel) rfl rfl (fh_lt hf (by decide)) dX3_init_38 (fun H locs hP hD hS => ?_)
  have hP : va_P G vwCl [(h0, .inr (3, (fs119.set 4 (.ref q121)))), (q101, .inr (5, g106)), (q107, .inl (cA 3, 700, .inl g108)), (q109, .inl (cA 0, 29, .inl g110)), (q121, .inr (2, g126)), (q127, .inl (cA 0, 5, .inl g128)), (q129, .inl (cA 0, 5, .inl g130)), (q131, .inl (cA 0, 6, .inl g132)), (q133, .inl (cA 0, 6, .inl g134)), (q135, .inl (cA 0, 6, .inl g136)), (q137, .inl (cA 0, 6, .inl g138)), (q139, .inl (cA 0, 10, .inl g140)), (q141, .inl (cA 0, 10, .inl g142)), (q143, .inl (cA 0, 10, .inl g144)), (q145, .inl (cA 0, 10, .inl g146)), (q147, .inl (cA 0, 64, .inl g148)), (q149, .inl (cA 2, 64, .inr (.inl g150))), (q151, .inl (cA 0, 64, .inl g152)), (q153, .inl (cA 2, 64, .inr (.inl g154))), (q155, .inl (cA 0, 64, .inl g156)), (q157, .inl (cA 2, 64, .inr (.inl g158))), (q159, .inl (cA 0, 21, .inl g160)), (q161, .inl (cA 4, 3, .inr (.inr (.inr (.inr g162))))), (q163, .inr (1, g164)), (q165, .inr (1, g166)), (q167, .inr (1, g168))] H := hP
  have hD : va_D A [(h0, .inr (3, (fs119.set 4 (.ref q121)))), (q101, .inr (5, g106)), (q107, .inl (cA 3, 700, .inl g108)), (q109, .inl (cA 0, 29, .inl g110)), (q121, .inr (2, g126)), (q127, .inl (cA 0, 5, .inl g128)), (q129, .inl (cA 0, 5, .inl g130)), (q131, .inl (cA 0, 6, .inl g132)), (q133, .inl (cA 0, 6, .inl g134)), (q135, .inl (cA 0, 6, .inl g136)), (q137, .inl (cA 0, 6, .inl g138)), (q139, .inl (cA 0, 10, .inl g140)), (q141, .inl (cA 0, 10, .inl g142)), (q143, .inl (cA 0, 10, .inl g144)), (q145, .inl (cA 0, 10, .inl g146)), (q147, .inl (cA 0, 64, .inl g148)), (q149, .inl (cA 2, 64, .inr (.inl g150))), (q151, .inl (cA 0, 64, .inl g152)), (q153, .inl (cA 2, 64, .inr (.inl g154))), (q155, .inl (cA 0, 64, .inl g156)), (q157, .inl (cA 2, 64, .inr (.inl g158))), (q159, .inl (cA 0, 21, .inl g160)), (q161, .inl (cA 4, 3, .inr (.inr (.inr (.inr g162))))), (q163, .inr (1, g164)), (q165, .inr (1, g166)), (q167, .inr (1, g168))] := hD
  have hf := fh_set (l' := [(4, .ref q121), (3, .int 0), (2, .int (-1)), (1, .int 0), (0, .ref q101), (5, .int 0), (6, .int 0), (7, .null), (8, .int 0), (9, .int 0)]) hf 4 (.ref q121) (by decide) rfl
  have ho179 := fo_set ho120 4 (.ref q121)
  generalize (fs119.set 4 (.ref q121)) = fs178 at hP hD hf ho179
  refine lv_aload_n hx hb dX3_init_41 rfl (lv_at hl 0 rfl) ?_
  refine lv_bipush (v := 72) hx hb dX3_init_42 (by decide) ?_
  refine tq_newa (atype := .int) (ty := .int) (n := 72) (N' := 72) (a0 := (72, .inl (fun _ => 0))) hx hb (hT _ kw_2_13) rfl hK hP hD hS hA 0 (cA 0) rfl (fun _ => rfl) (by decide) (by decide) (by decide) (Nat.le_of_ble_eq_true rfl) (Nat.le_of_ble_eq_true rfl) dX3_init_44 (fun q180 H hP hD hS => ?_)
  have hP : va_P G vwCl [(h0, .inr (3, fs178)), (q101, .inr (5, g106)), (q107, .inl (cA 3, 700, .inl g108)), (q109, .inl (cA 0, 29, .inl g110)), (q121, .inr (2, g126)), (q127, .inl (cA 0, 5, .inl g128)), (q129, .inl (cA 0, 5, .inl g130)), (q131, .inl (cA 0, 6, .inl g132)), (q133, .inl (cA 0, 6, .inl g134)), (q135, .inl (cA 0, 6, .inl g136)), (q137, .inl (cA 0, 6, .inl g138)), (q139, .inl (cA 0, 10, .inl g140)), (q141, .inl (cA 0, 10, .inl g142)), (q143, .inl (cA 0, 10, .inl g144)), (q145, .inl (cA 0, 10, .inl g146)), (q147, .inl (cA 0, 64, .inl g148)), (q149, .inl (cA 2, 64, .inr (.inl g150))), (q151, .inl (cA 0, 64, .inl g152)), (q153, .inl (cA 2, 64, .inr (.inl g154))), (q155, .inl (cA 0, 64, .inl g156)), (q157, .inl (cA 2, 64, .inr (.inl g158))), (q159, .inl (cA 0, 21, .inl g160)), (q161, .inl (cA 4, 3, .inr (.inr (.inr (.inr g162))))), (q163, .inr (1, g164)), (q165, .inr (1, g166)), (q167, .inr (1, g168)), (q180, .inl (cA 0, 72, .inl ((fun _ => 0))))] H := hP
  have hD : va_D A [(h0, .inr (3, fs178)), (q101, .inr (5, g106)), (q107, .inl (cA 3, 700, .inl g108)), (q109, .inl (cA 0, 29, .inl g110)), (q121, .inr (2, g126)), (q127, .inl (cA 0, 5, .inl g128)), (q129, .inl (cA 0, 5, .inl g130)), (q131, .inl (cA 0, 6, .inl g132)), (q133, .inl (cA 0, 6, .inl g134)), (q135, .inl (cA 0, 6, .inl g136)), (q137, .inl (cA 0, 6, .inl g138)), (q139, .inl (cA 0, 10, .inl g140)), (q141, .inl (cA 0, 10, .inl g142)), (q143, .inl (cA 0, 10, .inl g144)), (q145, .inl (cA 0, 10, .inl g146)), (q147, .inl (cA 0, 64, .inl g148)), (q149, .inl (cA 2, 64, .inr (.inl g150))), (q151, .inl (cA 0, 64, .inl g152)), (q153, .inl (cA 2, 64, .inr (.inl g154))), (q155, .inl (cA 0, 64, .inl g156)), (q157, .inl (cA 2, 64, .inr (.inl g158))), (q159, .inl (cA 0, 21, .inl g160)), (q161, .inl (cA 4, 3, .inr (.inr (.inr (.inr g162))))), (q163, .inr (1, g164)), (q165, .inr (1, g166)), (q167, .inr (1, g168)), (q180, .inl (cA 0, 72, .inl ((fun _ => 0))))] := hD
  refine W.widen (k := 26) (n := 1319) (Nat.le_of_ble_eq_true rfl) (Nat.le_of_ble_eq_true rfl) ?_
  obtain ⟨f181, ef181⟩ : ∃ z : Nat → Int32, z = (fun _ => 0) := ⟨_, rfl⟩
  rw [← ef181] at hP hD
  refine va_putF (D := G) (ci := 3) (v := .ref q180) (ty := (.array .int)) (C := RX3) (T := TX3) (N := 10) hx hb hT ku_3 tyX3 tyX3_ok nmX3 hown hK hP hD hS 0 rfl rfl 7 (by decide) (hT _ kw_3_5) (fun _ h9 => h9) rfl hin rfl (by decide +kernel) rfl rfl (fh_lt hf (by decide)) dX3_init_46 (fun H locs hP hD hS => ?_)
  have hP : va_P G vwCl [(h0, .inr (3, (fs178.set 7 (.ref q180)))), (q101, .inr (5, g106)), (q107, .inl (cA 3, 700, .inl g108)), (q109, .inl (cA 0, 29, .inl g110)), (q121, .inr (2, g126)), (q127, .inl (cA 0, 5, .inl g128)), (q129, .inl (cA 0, 5, .inl g130)), (q131, .inl (cA 0, 6, .inl g132)), (q133, .inl (cA 0, 6, .inl g134)), (q135, .inl (cA 0, 6, .inl g136)), (q137, .inl (cA 0, 6, .inl g138)), (q139, .inl (cA 0, 10, .inl g140)), (q141, .inl (cA 0, 10, .inl g142)), (q143, .inl (cA 0, 10, .inl g144)), (q145, .inl (cA 0, 10, .inl g146)), (q147, .inl (cA 0, 64, .inl g148)), (q149, .inl (cA 2, 64, .inr (.inl g150))), (q151, .inl (cA 0, 64, .inl g152)), (q153, .inl (cA 2, 64, .inr (.inl g154))), (q155, .inl (cA 0, 64, .inl g156)), (q157, .inl (cA 2, 64, .inr (.inl g158))), (q159, .inl (cA 0, 21, .inl g160)), (q161, .inl (cA 4, 3, .inr (.inr (.inr (.inr g162))))), (q163, .inr (1, g164)), (q165, .inr (1, g166)), (q167, .inr (1, g168)), (q180, .inl (cA 0, 72, .inl f181))] H := hP
  have hD : va_D A [(h0, .inr (3, (fs178.set 7 (.ref q180)))), (q101, .inr (5, g106)), (q107, .inl (cA 3, 700, .inl g108)), (q109, .inl (cA 0, 29, .inl g110)), (q121, .inr (2, g126)), (q127, .inl (cA 0, 5, .inl g128)), (q129, .inl (cA 0, 5, .inl g130)), (q131, .inl (cA 0, 6, .inl g132)), (q133, .inl (cA 0, 6, .inl g134)), (q135, .inl (cA 0, 6, .inl g136)), (q137, .inl (cA 0, 6, .inl g138)), (q139, .inl (cA 0, 10, .inl g140)), (q141, .inl (cA 0, 10, .inl g142)), (q143, .inl (cA 0, 10, .inl g144)), (q145, .inl (cA 0, 10, .inl g146)), (q147, .inl (cA 0, 64, .inl g148)), (q149, .inl (cA 2, 64, .inr (.inl g150))), (q151, .inl (cA 0, 64, .inl g152)), (q153, .inl (cA 2, 64, .inr (.inl g154))), (q155, .inl (cA 0, 64, .inl g156)), (q157, .inl (cA 2, 64, .inr (.inl g158))), (q159, .inl (cA 0, 21, .inl g160)), (q161, .inl (cA 4, 3, .inr (.inr (.inr (.inr g162))))), (q163, .inr (1, g164)), (q165, .inr (1, g166)), (q167, .inr (1, g168)), (q180, .inl (cA 0, 72, .inl f181))] := hD
  have hf := fh_set (l' := [(7, .ref q180), (4, .ref q121), (3, .int 0), (2, .int (-1)), (1, .int 0), (0, .ref q101), (5, .int 0), (6, .int 0), (8, .int 0), (9, .int 0)]) hf 7 (.ref q180) (by decide) rfl
  have ho183 := fo_set ho179 7 (.ref q180)
  generalize (fs178.set 7 (.ref q180)) = fs182 at hP hD hf ho183
  have qho183 := fo_mono (k2 := [7, 4, 3, 2, 1, 0]) ho183 (by decide)
  exact W.vret hx hb hr (fun t ht hW => ⟨⟨(fun k => List.getD [q101, q107, q109, q121, q127, q129, q131, q133, q135, q137, q139, q141, q143, q145, q147, q149, q151, q153, q155, q157, q159, q161, q163, q165, q167, q180] k 0, fun k => List.getD [fs182, g106, g126, g164, g166, g168] k [], fun k => List.getD [g108, g110, g128, g130, g132, g134, g136, g138, g140, g142, g144, g146, g148, g152, g156, g160, f181] k (fun _ => 0), fun k => List.getD [g150, g154, g158] k (fun _ => 0), fun k => List.getD [g162] k (fun _ => none)), rfl, ⟨qho183, fh_sub hf [0, 1, 2, 3, 4, 5] rfl, fh_sub hf112 [0, 1, 2, 3, 7, 6, 4, 5] rfl, fh_sub hf170 [6, 5, 4, 3, 2, 1, 0, 18, 17, 16, 15, 14, 13, 12, 11, 10, 9, 8, 7] rfl, hF171, hL172, hL173, hL174, fh_sub hf175 [0, 1, 2] rfl, fh_sub hf176 [0, 1, 2] rfl, fh_sub hf177 [0, 1, 2] rfl⟩, by rw [ht]; exact hP, hD⟩, hS.F ht⟩) hS.2.2 dX3_init_49

set_option maxHeartbeats 4000000 in
set_option maxRecDepth 100000 in
theorem c_X0_init (l : Launch) (G : va_G) (cA : Nat → ClassId) (sz : Nat) (h0 : Nat) (fs : List Value) (hf : fh fs 3 [(0, .int 0), (1, .int 0), (2, .null)]) : Met l yX0_init (.code yX0_init cX0_init 1 none :: T0) ({ frames := 1, cells := 1, slots := 1520, locals := 13 }) (tqP G cA [.ref h0] [(h0, .inr (0, fs))] sz) (tqQv G cA (fun (u : List Value × Nat × (Nat → Int32)) => fo fs u.1 [2, 1, 0] ∧ fh u.1 3 [(2, .ref u.2.1), (1, .int 0), (0, .int 0)]) (fun (u : List Value × Nat × (Nat → Int32)) => [(h0, .inr (0, u.1)), (u.2.1, .inl (cA 0, 1520, .inl u.2.2))]) (va_A [(h0, .inr (0, fs))] sz)) 1 1520 (va_A [(h0, .inr (0, fs))] sz) := by
  refine Met.ofW (cc := cX0_init) (maxL := 1) (ret := none) (by decide) rfl ?_
  intro p e s m args below meth c s₁ B hml hv
  obtain ⟨rfl, hsz, hP, hK, hD0, hN⟩ := hv
  have hx := B.exec
  have hb := B.bytes
  have hr := B.returns
  have hts := atoms_spec (ws := .code yX0_init cX0_init 1 none :: T0) B.pre
  have hT : ∀ w ∈ T0, w.before _ s = true := fun w h => hts w (List.mem_cons_of_mem _ h)
  have hown : s.vm.findClass RX0 = some m.cls := findClass_of_methodNamed B.named
  have hlocks := B.notSynchronized
  have hin : meth.name = "<init>" := (name_of_methodNamed B.named B.method).1
  subst hsz
  have hD := hD0.self (sz := s.heap.size)
  generalize hAe : va_A [(h0, .inr (0, fs))] s.heap.size = A at hD ⊢
  have hA : ∀ q : Nat, s.heap.size ≤ q → A q := fun q h => by rw [← hAe]; exact Or.inr h
  have hS : va_S A s.heap s.heap [] := va_S.rf
  have hl := lv_entry ([.ref h0]) (n := 1) (Nat.le_of_ble_eq_true rfl)
  rw [lg_entry_eq]
  generalize (lg_sl ([.ref h0]) ++ List.replicate (1 - (lg_sl ([.ref h0])).length) Slot.unset).toArray = ls at hl ⊢
  have hl : lv_has ls 1 [(0, .ref h0)] := hl
  obtain ⟨H, hH⟩ : ∃ z, z = s.heap := ⟨_, rfl⟩
  rw [← hH] at hP
  have hS : va_S A s.heap H [] := by rw [hH]; exact hS
  suffices hgo : W p l e _ s m _ below meth c H [] 0 0 _ _ by rw [hH] at hgo; exact hgo
  have hO := hN.2.2.2.2
  have ho_hf := fo_refl fs
  refine lv_aload_n hx hb dX0_init_0 rfl (lv_at hl 0 rfl) ?_
  refine W.objInit hx hb hown (hT _ kw_8_15) (hT _ kw_1_11) (hT _ kw_1_12) rfl (by rw [hml]; exact hl.1) rfl dX0_init_1 (Nat.le_of_ble_eq_true rfl) (Nat.le_of_ble_eq_true rfl) ?_
  refine W.eq (g2 := F0 m 4 ls []) rfl ?_
  refine lv_aload_n hx hb dX0_init_4 rfl (lv_at hl 0 rfl) ?_
  refine lv_iconst (v := 0) hx hb dX0_init_5 (by decide) ?_
  refine va_put (D := G) (ci := 0) (v := .int 0) (ty := .int) (C := RX0) (T := TX0) (N := 3) hx hb hT ku_0 tyX0 tyX0_ok nmX0 hown hK hP hD hS 0 rfl rfl 0 (by decide) (hT _ kw_8_16) (fun _ h9 => h9) rfl (by decide +kernel) rfl rfl (fh_lt hf (by decide)) dX0_init_6 (fun H locs hP hD hS => ?_)
  have hP : va_P G vwCl [(h0, .inr (0, (fs.set 0 (.int 0))))] H := hP
  have hD : va_D A [(h0, .inr (0, (fs.set 0 (.int 0))))] := hD
  have hf := fh_set (l' := [(0, .int 0), (1, .int 0), (2, .null)]) hf 0 (.int 0) (by decide) rfl
  have ho102 := fo_set ho_hf 0 (.int 0)
  generalize (fs.set 0 (.int 0)) = fs101 at hP hD hf ho102
  refine lv_aload_n hx hb dX0_init_9 rfl (lv_at hl 0 rfl) ?_
  refine lv_iconst (v := 0) hx hb dX0_init_10 (by decide) ?_
  refine va_put (D := G) (ci := 0) (v := .int 0) (ty := .int) (C := RX0) (T := TX0) (N := 3) hx hb hT ku_0 tyX0 tyX0_ok nmX0 hown hK hP hD hS 0 rfl rfl 1 (by decide) (hT _ kw_8_17) (fun _ h9 => h9) rfl (by decide +kernel) rfl rfl (fh_lt hf (by decide)) dX0_init_11 (fun H locs hP hD hS => ?_)
  have hP : va_P G vwCl [(h0, .inr (0, (fs101.set 1 (.int 0))))] H := hP
  have hD : va_D A [(h0, .inr (0, (fs101.set 1 (.int 0))))] := hD
  have hf := fh_set (l' := [(1, .int 0), (0, .int 0), (2, .null)]) hf 1 (.int 0) (by decide) rfl
  have ho104 := fo_set ho102 1 (.int 0)
  generalize (fs101.set 1 (.int 0)) = fs103 at hP hD hf ho104
  refine lv_aload_n hx hb dX0_init_14 rfl (lv_at hl 0 rfl) ?_
  refine lv_sipush (v := 1520) hx hb dX0_init_15 (by decide) ?_
  refine tq_newa (atype := .int) (ty := .int) (n := 1520) (N' := 1520) (a0 := (1520, .inl (fun _ => 0))) hx hb (hT _ kw_2_13) rfl hK hP hD hS hA 0 (cA 0) rfl (fun _ => rfl) (by decide) (by decide) (by decide) (Nat.le_of_ble_eq_true rfl) (Nat.le_of_ble_eq_true rfl) dX0_init_18 (fun q105 H hP hD hS => ?_)
  have hP : va_P G vwCl [(h0, .inr (0, fs103)), (q105, .inl (cA 0, 1520, .inl ((fun _ => 0))))] H := hP
  have hD : va_D A [(h0, .inr (0, fs103)), (q105, .inl (cA 0, 1520, .inl ((fun _ => 0))))] := hD
  refine W.widen (k := 1) (n := 1520) (Nat.le_of_ble_eq_true rfl) (Nat.le_of_ble_eq_true rfl) ?_
  obtain ⟨f106, ef106⟩ : ∃ z : Nat → Int32, z = (fun _ => 0) := ⟨_, rfl⟩
  rw [← ef106] at hP hD
  refine va_putF (D := G) (ci := 0) (v := .ref q105) (ty := (.array .int)) (C := RX0) (T := TX0) (N := 3) hx hb hT ku_0 tyX0 tyX0_ok nmX0 hown hK hP hD hS 0 rfl rfl 2 (by decide) (hT _ kw_8_18) (fun _ h9 => h9) rfl hin rfl (by decide +kernel) rfl rfl (fh_lt hf (by decide)) dX0_init_20 (fun H locs hP hD hS => ?_)
  have hP : va_P G vwCl [(h0, .inr (0, (fs103.set 2 (.ref q105)))), (q105, .inl (cA 0, 1520, .inl f106))] H := hP
  have hD : va_D A [(h0, .inr (0, (fs103.set 2 (.ref q105)))), (q105, .inl (cA 0, 1520, .inl f106))] := hD
  have hf := fh_set (l' := [(2, .ref q105), (1, .int 0), (0, .int 0)]) hf 2 (.ref q105) (by decide) rfl
  have ho108 := fo_set ho104 2 (.ref q105)
  generalize (fs103.set 2 (.ref q105)) = fs107 at hP hD hf ho108
  have qho108 := fo_mono (k2 := [2, 1, 0]) ho108 (by decide)
  exact W.vret hx hb hr (fun t ht hW => ⟨⟨(fs107, q105, f106), rfl, ⟨qho108, fh_sub hf [0, 1, 2] rfl⟩, by rw [ht]; exact hP, hD⟩, hS.F ht⟩) hS.2.2 dX0_init_23

set_option maxHeartbeats 4000000 in
set_option maxRecDepth 100000 in
theorem c_X4_init (l : Launch) (G : va_G) (cA : Nat → ClassId) (sz : Nat) (h0 : Nat) (fs : List Value) (hf : fh fs 7 [(0, .int 0), (1, .int 0), (2, .null), (3, .null), (4, .null), (5, .null), (6, .null)]) : Met l yX4_init (.code yX4_init cX4_init 1 none :: T0) ({ frames := 1, cells := 5, slots := 120, locals := 13 }) (tqP G cA [.ref h0] [(h0, .inr (4, fs))] sz) (tqQv G cA (fun (u : List Value × Nat × (Nat → Int32) × Nat × (Nat → Int32) × Nat × (Nat → Int32) × Nat × (Nat → Int32) × Nat × (Nat → Int32)) => fo fs u.1 [6, 5, 4, 3, 2, 1, 0] ∧ fh u.1 7 [(6, .ref u.2.2.2.2.2.2.2.2.2.1), (5, .ref u.2.2.2.2.2.2.2.1), (4, .ref u.2.2.2.2.2.1), (3, .ref u.2.2.2.1), (2, .ref u.2.1), (1, .int (-1)), (0, .int 0)]) (fun (u : List Value × Nat × (Nat → Int32) × Nat × (Nat → Int32) × Nat × (Nat → Int32) × Nat × (Nat → Int32) × Nat × (Nat → Int32)) => [(h0, .inr (4, u.1)), (u.2.1, .inl (cA 0, 24, .inl u.2.2.1)), (u.2.2.2.1, .inl (cA 0, 24, .inl u.2.2.2.2.1)), (u.2.2.2.2.2.1, .inl (cA 0, 24, .inl u.2.2.2.2.2.2.1)), (u.2.2.2.2.2.2.2.1, .inl (cA 0, 24, .inl u.2.2.2.2.2.2.2.2.1)), (u.2.2.2.2.2.2.2.2.2.1, .inl (cA 1, 24, .inl u.2.2.2.2.2.2.2.2.2.2))]) (va_A [(h0, .inr (4, fs))] sz)) 5 120 (va_A [(h0, .inr (4, fs))] sz) := by
  refine Met.ofW (cc := cX4_init) (maxL := 1) (ret := none) (by decide) rfl ?_
  intro p e s m args below meth c s₁ B hml hv
  obtain ⟨rfl, hsz, hP, hK, hD0, hN⟩ := hv
  have hx := B.exec
  have hb := B.bytes
  have hr := B.returns
  have hts := atoms_spec (ws := .code yX4_init cX4_init 1 none :: T0) B.pre
  have hT : ∀ w ∈ T0, w.before _ s = true := fun w h => hts w (List.mem_cons_of_mem _ h)
  have hown : s.vm.findClass RX4 = some m.cls := findClass_of_methodNamed B.named
  have hlocks := B.notSynchronized
  have hin : meth.name = "<init>" := (name_of_methodNamed B.named B.method).1
  subst hsz
  have hD := hD0.self (sz := s.heap.size)
  generalize hAe : va_A [(h0, .inr (4, fs))] s.heap.size = A at hD ⊢
  have hA : ∀ q : Nat, s.heap.size ≤ q → A q := fun q h => by rw [← hAe]; exact Or.inr h
  have hS : va_S A s.heap s.heap [] := va_S.rf
  have hl := lv_entry ([.ref h0]) (n := 1) (Nat.le_of_ble_eq_true rfl)
  rw [lg_entry_eq]
  generalize (lg_sl ([.ref h0]) ++ List.replicate (1 - (lg_sl ([.ref h0])).length) Slot.unset).toArray = ls at hl ⊢
  have hl : lv_has ls 1 [(0, .ref h0)] := hl
  obtain ⟨H, hH⟩ : ∃ z, z = s.heap := ⟨_, rfl⟩
  rw [← hH] at hP
  have hS : va_S A s.heap H [] := by rw [hH]; exact hS
  suffices hgo : W p l e _ s m _ below meth c H [] 0 0 _ _ by rw [hH] at hgo; exact hgo
  have hO := hN.2.2.2.2
  have ho_hf := fo_refl fs
  refine lv_aload_n hx hb dX4_init_0 rfl (lv_at hl 0 rfl) ?_
  refine W.objInit hx hb hown (hT _ kw_8_21) (hT _ kw_1_11) (hT _ kw_1_12) rfl (by rw [hml]; exact hl.1) rfl dX4_init_1 (Nat.le_of_ble_eq_true rfl) (Nat.le_of_ble_eq_true rfl) ?_
  refine W.eq (g2 := F0 m 4 ls []) rfl ?_
  refine lv_aload_n hx hb dX4_init_4 rfl (lv_at hl 0 rfl) ?_
  refine lv_iconst (v := 0) hx hb dX4_init_5 (by decide) ?_
  refine va_put (D := G) (ci := 4) (v := .int 0) (ty := .int) (C := RX4) (T := TX4) (N := 7) hx hb hT ku_4 tyX4 tyX4_ok nmX4 hown hK hP hD hS 0 rfl rfl 0 (by decide) (hT _ kw_8_22) (fun _ h9 => h9) rfl (by decide +kernel) rfl rfl (fh_lt hf (by decide)) dX4_init_6 (fun H locs hP hD hS => ?_)
  have hP : va_P G vwCl [(h0, .inr (4, (fs.set 0 (.int 0))))] H := hP
  have hD : va_D A [(h0, .inr (4, (fs.set 0 (.int 0))))] := hD
  have hf := fh_set (l' := [(0, .int 0), (1, .int 0), (2, .null), (3, .null), (4, .null), (5, .null), (6, .null)]) hf 0 (.int 0) (by decide) rfl
  have ho102 := fo_set ho_hf 0 (.int 0)
  generalize (fs.set 0 (.int 0)) = fs101 at hP hD hf ho102
  refine lv_aload_n hx hb dX4_init_9 rfl (lv_at hl 0 rfl) ?_
  refine lv_iconst (v := (-1)) hx hb dX4_init_10 (by decide) ?_
  refine va_put (D := G) (ci := 4) (v := .int (-1)) (ty := .int) (C := RX4) (T := TX4) (N := 7) hx hb hT ku_4 tyX4 tyX4_ok nmX4 hown hK hP hD hS 0 rfl rfl 1 (by decide) (hT _ kw_8_23) (fun _ h9 => h9) rfl (by decide +kernel) rfl rfl (fh_lt hf (by decide)) dX4_init_11 (fun H locs hP hD hS => ?_)
  have hP : va_P G vwCl [(h0, .inr (4, (fs101.set 1 (.int (-1)))))] H := hP
  have hD : va_D A [(h0, .inr (4, (fs101.set 1 (.int (-1)))))] := hD
  have hf := fh_set (l' := [(1, .int (-1)), (0, .int 0), (2, .null), (3, .null), (4, .null), (5, .null), (6, .null)]) hf 1 (.int (-1)) (by decide) rfl
  have ho104 := fo_set ho102 1 (.int (-1))
  generalize (fs101.set 1 (.int (-1))) = fs103 at hP hD hf ho104
  refine lv_aload_n hx hb dX4_init_14 rfl (lv_at hl 0 rfl) ?_
  refine lv_bipush (v := 24) hx hb dX4_init_15 (by decide) ?_
  refine tq_newa (atype := .int) (ty := .int) (n := 24) (N' := 24) (a0 := (24, .inl (fun _ => 0))) hx hb (hT _ kw_2_13) rfl hK hP hD hS hA 0 (cA 0) rfl (fun _ => rfl) (by decide) (by decide) (by decide) (Nat.le_of_ble_eq_true rfl) (Nat.le_of_ble_eq_true rfl) dX4_init_17 (fun q105 H hP hD hS => ?_)
  have hP : va_P G vwCl [(h0, .inr (4, fs103)), (q105, .inl (cA 0, 24, .inl ((fun _ => 0))))] H := hP
  have hD : va_D A [(h0, .inr (4, fs103)), (q105, .inl (cA 0, 24, .inl ((fun _ => 0))))] := hD
  refine W.widen (k := 1) (n := 24) (Nat.le_of_ble_eq_true rfl) (Nat.le_of_ble_eq_true rfl) ?_
  obtain ⟨f106, ef106⟩ : ∃ z : Nat → Int32, z = (fun _ => 0) := ⟨_, rfl⟩
  rw [← ef106] at hP hD
  refine va_putF (D := G) (ci := 4) (v := .ref q105) (ty := (.array .int)) (C := RX4) (T := TX4) (N := 7) hx hb hT ku_4 tyX4 tyX4_ok nmX4 hown hK hP hD hS 0 rfl rfl 2 (by decide) (hT _ kw_9_0) (fun _ h9 => h9) rfl hin rfl (by decide +kernel) rfl rfl (fh_lt hf (by decide)) dX4_init_19 (fun H locs hP hD hS => ?_)
  have hP : va_P G vwCl [(h0, .inr (4, (fs103.set 2 (.ref q105)))), (q105, .inl (cA 0, 24, .inl f106))] H := hP
  have hD : va_D A [(h0, .inr (4, (fs103.set 2 (.ref q105)))), (q105, .inl (cA 0, 24, .inl f106))] := hD
  have hf := fh_set (l' := [(2, .ref q105), (1, .int (-1)), (0, .int 0), (3, .null), (4, .null), (5, .null), (6, .null)]) hf 2 (.ref q105) (by decide) rfl
  have ho108 := fo_set ho104 2 (.ref q105)
  generalize (fs103.set 2 (.ref q105)) = fs107 at hP hD hf ho108
  refine lv_aload_n hx hb dX4_init_22 rfl (lv_at hl 0 rfl) ?_
  refine lv_bipush (v := 24) hx hb dX4_init_23 (by decide) ?_
  refine tq_newa (atype := .int) (ty := .int) (n := 24) (N' := 24) (a0 := (24, .inl (fun _ => 0))) hx hb (hT _ kw_2_13) rfl hK hP hD hS hA 0 (cA 0) rfl (fun _ => rfl) (by decide) (by decide) (by decide) (Nat.le_of_ble_eq_true rfl) (Nat.le_of_ble_eq_true rfl) dX4_init_25 (fun q109 H hP hD hS => ?_)
  have hP : va_P G vwCl [(h0, .inr (4, fs107)), (q105, .inl (cA 0, 24, .inl f106)), (q109, .inl (cA 0, 24, .inl ((fun _ => 0))))] H := hP
  have hD : va_D A [(h0, .inr (4, fs107)), (q105, .inl (cA 0, 24, .inl f106)), (q109, .inl (cA 0, 24, .inl ((fun _ => 0))))] := hD
  refine W.widen (k := 2) (n := 48) (Nat.le_of_ble_eq_true rfl) (Nat.le_of_ble_eq_true rfl) ?_
  obtain ⟨f110, ef110⟩ : ∃ z : Nat → Int32, z = (fun _ => 0) := ⟨_, rfl⟩
  rw [← ef110] at hP hD
  refine va_putF (D := G) (ci := 4) (v := .ref q109) (ty := (.array .int)) (C := RX4) (T := TX4) (N := 7) hx hb hT ku_4 tyX4 tyX4_ok nmX4 hown hK hP hD hS 0 rfl rfl 3 (by decide) (hT _ kw_9_1) (fun _ h9 => h9) rfl hin rfl (by decide +kernel) rfl rfl (fh_lt hf (by decide)) dX4_init_27 (fun H locs hP hD hS => ?_)
  have hP : va_P G vwCl [(h0, .inr (4, (fs107.set 3 (.ref q109)))), (q105, .inl (cA 0, 24, .inl f106)), (q109, .inl (cA 0, 24, .inl f110))] H := hP
  have hD : va_D A [(h0, .inr (4, (fs107.set 3 (.ref q109)))), (q105, .inl (cA 0, 24, .inl f106)), (q109, .inl (cA 0, 24, .inl f110))] := hD
  have hf := fh_set (l' := [(3, .ref q109), (2, .ref q105), (1, .int (-1)), (0, .int 0), (4, .null), (5, .null), (6, .null)]) hf 3 (.ref q109) (by decide) rfl
  have ho112 := fo_set ho108 3 (.ref q109)
  generalize (fs107.set 3 (.ref q109)) = fs111 at hP hD hf ho112
  refine lv_aload_n hx hb dX4_init_30 rfl (lv_at hl 0 rfl) ?_
  refine lv_bipush (v := 24) hx hb dX4_init_31 (by decide) ?_
  refine tq_newa (atype := .int) (ty := .int) (n := 24) (N' := 24) (a0 := (24, .inl (fun _ => 0))) hx hb (hT _ kw_2_13) rfl hK hP hD hS hA 0 (cA 0) rfl (fun _ => rfl) (by decide) (by decide) (by decide) (Nat.le_of_ble_eq_true rfl) (Nat.le_of_ble_eq_true rfl) dX4_init_33 (fun q113 H hP hD hS => ?_)
  have hP : va_P G vwCl [(h0, .inr (4, fs111)), (q105, .inl (cA 0, 24, .inl f106)), (q109, .inl (cA 0, 24, .inl f110)), (q113, .inl (cA 0, 24, .inl ((fun _ => 0))))] H := hP
  have hD : va_D A [(h0, .inr (4, fs111)), (q105, .inl (cA 0, 24, .inl f106)), (q109, .inl (cA 0, 24, .inl f110)), (q113, .inl (cA 0, 24, .inl ((fun _ => 0))))] := hD
  refine W.widen (k := 3) (n := 72) (Nat.le_of_ble_eq_true rfl) (Nat.le_of_ble_eq_true rfl) ?_
  obtain ⟨f114, ef114⟩ : ∃ z : Nat → Int32, z = (fun _ => 0) := ⟨_, rfl⟩
  rw [← ef114] at hP hD
  refine va_putF (D := G) (ci := 4) (v := .ref q113) (ty := (.array .int)) (C := RX4) (T := TX4) (N := 7) hx hb hT ku_4 tyX4 tyX4_ok nmX4 hown hK hP hD hS 0 rfl rfl 4 (by decide) (hT _ kw_9_2) (fun _ h9 => h9) rfl hin rfl (by decide +kernel) rfl rfl (fh_lt hf (by decide)) dX4_init_35 (fun H locs hP hD hS => ?_)
  have hP : va_P G vwCl [(h0, .inr (4, (fs111.set 4 (.ref q113)))), (q105, .inl (cA 0, 24, .inl f106)), (q109, .inl (cA 0, 24, .inl f110)), (q113, .inl (cA 0, 24, .inl f114))] H := hP
  have hD : va_D A [(h0, .inr (4, (fs111.set 4 (.ref q113)))), (q105, .inl (cA 0, 24, .inl f106)), (q109, .inl (cA 0, 24, .inl f110)), (q113, .inl (cA 0, 24, .inl f114))] := hD
  have hf := fh_set (l' := [(4, .ref q113), (3, .ref q109), (2, .ref q105), (1, .int (-1)), (0, .int 0), (5, .null), (6, .null)]) hf 4 (.ref q113) (by decide) rfl
  have ho116 := fo_set ho112 4 (.ref q113)
  generalize (fs111.set 4 (.ref q113)) = fs115 at hP hD hf ho116
  refine lv_aload_n hx hb dX4_init_38 rfl (lv_at hl 0 rfl) ?_
  refine lv_bipush (v := 24) hx hb dX4_init_39 (by decide) ?_
  refine tq_newa (atype := .int) (ty := .int) (n := 24) (N' := 24) (a0 := (24, .inl (fun _ => 0))) hx hb (hT _ kw_2_13) rfl hK hP hD hS hA 0 (cA 0) rfl (fun _ => rfl) (by decide) (by decide) (by decide) (Nat.le_of_ble_eq_true rfl) (Nat.le_of_ble_eq_true rfl) dX4_init_41 (fun q117 H hP hD hS => ?_)
  have hP : va_P G vwCl [(h0, .inr (4, fs115)), (q105, .inl (cA 0, 24, .inl f106)), (q109, .inl (cA 0, 24, .inl f110)), (q113, .inl (cA 0, 24, .inl f114)), (q117, .inl (cA 0, 24, .inl ((fun _ => 0))))] H := hP
  have hD : va_D A [(h0, .inr (4, fs115)), (q105, .inl (cA 0, 24, .inl f106)), (q109, .inl (cA 0, 24, .inl f110)), (q113, .inl (cA 0, 24, .inl f114)), (q117, .inl (cA 0, 24, .inl ((fun _ => 0))))] := hD
  refine W.widen (k := 4) (n := 96) (Nat.le_of_ble_eq_true rfl) (Nat.le_of_ble_eq_true rfl) ?_
  obtain ⟨f118, ef118⟩ : ∃ z : Nat → Int32, z = (fun _ => 0) := ⟨_, rfl⟩
  rw [← ef118] at hP hD
  refine va_putF (D := G) (ci := 4) (v := .ref q117) (ty := (.array .int)) (C := RX4) (T := TX4) (N := 7) hx hb hT ku_4 tyX4 tyX4_ok nmX4 hown hK hP hD hS 0 rfl rfl 5 (by decide) (hT _ kw_9_3) (fun _ h9 => h9) rfl hin rfl (by decide +kernel) rfl rfl (fh_lt hf (by decide)) dX4_init_43 (fun H locs hP hD hS => ?_)
  have hP : va_P G vwCl [(h0, .inr (4, (fs115.set 5 (.ref q117)))), (q105, .inl (cA 0, 24, .inl f106)), (q109, .inl (cA 0, 24, .inl f110)), (q113, .inl (cA 0, 24, .inl f114)), (q117, .inl (cA 0, 24, .inl f118))] H := hP
  have hD : va_D A [(h0, .inr (4, (fs115.set 5 (.ref q117)))), (q105, .inl (cA 0, 24, .inl f106)), (q109, .inl (cA 0, 24, .inl f110)), (q113, .inl (cA 0, 24, .inl f114)), (q117, .inl (cA 0, 24, .inl f118))] := hD
  have hf := fh_set (l' := [(5, .ref q117), (4, .ref q113), (3, .ref q109), (2, .ref q105), (1, .int (-1)), (0, .int 0), (6, .null)]) hf 5 (.ref q117) (by decide) rfl
  have ho120 := fo_set ho116 5 (.ref q117)
  generalize (fs115.set 5 (.ref q117)) = fs119 at hP hD hf ho120
  refine lv_aload_n hx hb dX4_init_46 rfl (lv_at hl 0 rfl) ?_
  refine lv_bipush (v := 24) hx hb dX4_init_47 (by decide) ?_
  refine tq_newa (atype := .boolean) (ty := .boolean) (n := 24) (N' := 24) (a0 := (24, .inl (fun _ => 0))) hx hb (hT _ kw_9_4) rfl hK hP hD hS hA 1 (cA 1) rfl (fun _ => rfl) (by decide) (by decide) (by decide) (Nat.le_of_ble_eq_true rfl) (Nat.le_of_ble_eq_true rfl) dX4_init_49 (fun q121 H hP hD hS => ?_)
  have hP : va_P G vwCl [(h0, .inr (4, fs119)), (q105, .inl (cA 0, 24, .inl f106)), (q109, .inl (cA 0, 24, .inl f110)), (q113, .inl (cA 0, 24, .inl f114)), (q117, .inl (cA 0, 24, .inl f118)), (q121, .inl (cA 1, 24, .inl ((fun _ => 0))))] H := hP
  have hD : va_D A [(h0, .inr (4, fs119)), (q105, .inl (cA 0, 24, .inl f106)), (q109, .inl (cA 0, 24, .inl f110)), (q113, .inl (cA 0, 24, .inl f114)), (q117, .inl (cA 0, 24, .inl f118)), (q121, .inl (cA 1, 24, .inl ((fun _ => 0))))] := hD
  refine W.widen (k := 5) (n := 120) (Nat.le_of_ble_eq_true rfl) (Nat.le_of_ble_eq_true rfl) ?_
  obtain ⟨f122, ef122⟩ : ∃ z : Nat → Int32, z = (fun _ => 0) := ⟨_, rfl⟩
  rw [← ef122] at hP hD
  refine va_putF (D := G) (ci := 4) (v := .ref q121) (ty := (.array .boolean)) (C := RX4) (T := TX4) (N := 7) hx hb hT ku_4 tyX4 tyX4_ok nmX4 hown hK hP hD hS 0 rfl rfl 6 (by decide) (hT _ kw_9_5) (fun _ h9 => h9) rfl hin rfl (by decide +kernel) rfl rfl (fh_lt hf (by decide)) dX4_init_51 (fun H locs hP hD hS => ?_)
  have hP : va_P G vwCl [(h0, .inr (4, (fs119.set 6 (.ref q121)))), (q105, .inl (cA 0, 24, .inl f106)), (q109, .inl (cA 0, 24, .inl f110)), (q113, .inl (cA 0, 24, .inl f114)), (q117, .inl (cA 0, 24, .inl f118)), (q121, .inl (cA 1, 24, .inl f122))] H := hP
  have hD : va_D A [(h0, .inr (4, (fs119.set 6 (.ref q121)))), (q105, .inl (cA 0, 24, .inl f106)), (q109, .inl (cA 0, 24, .inl f110)), (q113, .inl (cA 0, 24, .inl f114)), (q117, .inl (cA 0, 24, .inl f118)), (q121, .inl (cA 1, 24, .inl f122))] := hD
  have hf := fh_set (l' := [(6, .ref q121), (5, .ref q117), (4, .ref q113), (3, .ref q109), (2, .ref q105), (1, .int (-1)), (0, .int 0)]) hf 6 (.ref q121) (by decide) rfl
  have ho124 := fo_set ho120 6 (.ref q121)
  generalize (fs119.set 6 (.ref q121)) = fs123 at hP hD hf ho124
  have qho124 := fo_mono (k2 := [6, 5, 4, 3, 2, 1, 0]) ho124 (by decide)
  exact W.vret hx hb hr (fun t ht hW => ⟨⟨(fs123, q105, f106, q109, f110, q113, f114, q117, f118, q121, f122), rfl, ⟨qho124, fh_sub hf [0, 1, 2, 3, 4, 5, 6] rfl⟩, by rw [ht]; exact hP, hD⟩, hS.F ht⟩) hS.2.2 dX4_init_54
