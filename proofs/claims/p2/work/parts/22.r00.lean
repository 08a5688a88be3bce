abbrev G_X2_clear (p : Program) (l : Launch) (e : Env) (s : State) (m : MethodId) (below : List Frame) (meth : Method) (c : Code) (G : va_G) (cA : Nat → ClassId) (A : Nat → Prop) (bA : Nat) (ka : Nat → Nat) (ra : Nat → Nat) (pa : Nat → Nat) (K : Tr) (R : Tr) (L : Lo) (P' : Tr) (H : Heap) (locs : List Loc) (g : JFrame) : Prop := W p l e (headSpec (.code yX2_clear cX2_clear 2 none :: T0) ({ frames := 0, cells := 0, slots := 0, locals := 0 } : Room)).room s m ([.ref (pa 0)] : List Value).toArray below meth c H locs 0 0 (MQ below (tqQv G cA (fun (_ : Unit) => True) (fun (_ : Unit) => wRP cA ka ra pa K R (P') L) A) ([.ref (pa 0)] : List Value).toArray s 0 0 A) g
set_option maxHeartbeats 4000000 in
set_option maxRecDepth 100000 in
theorem w_X2_clear_L59 {p : Program} {l : Launch} {e : Env} {s : State} {m : MethodId} {below : List Frame} {meth : Method} {c : Code} {G : va_G} {cA : Nat → ClassId} {A : Nat → Prop} {bA : Nat} {ka : Nat → Nat} {ra : Nat → Nat} {pa : Nat → Nat} {K : Tr} {R : Tr} {L : Lo} {P' : Tr} (F : tF p s m ([.ref (pa 0)] : List Value).toArray meth c G cA A RX2 cX2_clear 2 none) (hB : tqB bA A s s.heap)    (N : Nat) : ∀ (x1 : Int32) (P : Tr) (H : Heap) (locs : List Loc) (ls : Array Slot), lpF (fun _ _ => none) (fB_X2_clear_L59 ) N x1 P = some P' → va_P G vwCl (wRP cA ka ra pa K R P L) H → va_D A (wRP cA ka ra pa K R P L) → va_S A s.heap H locs → lv_has ls 2 [(0, .ref (pa 0)), (1, .int x1)] → G_X2_clear p l e s m below meth c G cA A bA ka ra pa K R L P' H locs (F0 m 59 ls []) := by
  obtain ⟨hx, hb, hr, hml, hT, hown, hlocks, hK, hN, hA⟩ := id F
  induction N with
  | zero =>
    intro x1 P H locs ls h
    have h : (none : Option (Tr)) = some P' := h
    cases h
  | succ N hk59 =>
    intro x1 P H locs ls h hP hD hS hl
    have h : fB_X2_clear_L59  (lpF (fun _ _ => none) (fB_X2_clear_L59 ) N) x1 P = some P' := h
    generalize hk59e : lpF (fun _ _ => none) (fB_X2_clear_L59 ) N = k59 at h hk59
    unfold fB_X2_clear_L59 at h
    refine lv_iload_n hx hb dX2_clear_59 rfl (lv_at hl 1 rfl) ?_
    refine lv_iconst (v := 3) hx hb dX2_clear_60 (by decide) ?_
    refine lv_icmp_ge (tgt := 80) hx hb dX2_clear_61 (by decide) (fun c9 => ?_) (fun c9 => ?_)
    · have h := tx_pos c9 h
      obtain rfl := tx_1 h
      exact W.vret hx hb hr (fun t ht hW => ⟨⟨(), rfl, trivial, by rw [ht]; exact hP, hD⟩, hS.F ht⟩) hS.2.2 dX2_clear_80
    · have h := tx_neg c9 h
      refine lv_aload_n hx hb dX2_clear_64 rfl (lv_at hl 0 rfl) ?_
      refine va_get (D := G) (ci := 2) (v := .ref (pa 19)) (C := RX2) (T := TX2) (N := 19) hx hb hT ku_2 hown hK hP 5 rfl rfl 18 (by decide) (hT _ kw_6_6) (fun _ h9 => h9) rfl dX2_clear_65 ?_
      refine lv_iload_n hx hb dX2_clear_68 rfl (lv_at hl 1 rfl) ?_
      obtain ⟨g10, h⟩ := tx_ck h
      refine va_aldq (i := x1) hx hb hK hP 17 4 rfl rfl (tx_in g10) dX2_clear_69 ?_
      refine W.eq (g2 := F0 m 70 ls (.ref (pa (30 + 3 * x1.toNatClampNeg)) :: [])) (by rw [lawsf_at _ (tx_n3 g10)]) ?_
      refine lv_iconst (v := 0) hx hb dX2_clear_70 (by decide) ?_
      refine va_put (D := G) (ci := 1) (v := .int 0) (ty := .int) (C := RX1) (T := TX1) (N := 3) hx hb hT ku_1 tyX1 tyX1_ok nmX1 hown hK hP hD hS (18 + 3 * x1.toNatClampNeg) (aLRP_0 (tx_n3 g10)) rfl 1 (by decide) (hT _ kw_7_1) (fun _ h9 => h9) rfl (by decide +kernel) rfl rfl (Nat.le_of_ble_eq_true rfl) dX2_clear_71 (fun H locs hP hD hS => ?_)
      obtain ⟨P_11, eP_11, h⟩ := tx_lt h
      rw [(sLRP_f1 (tx_n3 g10)), eP_11] at hP hD
      obtain ⟨y12, ey12, h⟩ := tx_lt h
      refine lv_iinc (v := y12) (lv' := [(1, .int y12), (0, .ref (pa 0))]) hx hb dX2_clear_74 hl (k := 1) rfl ey12 (by decide) rfl (fun ls hl => ?_)
      refine lv_goto (tgt := 59) hx hb dX2_clear_77 (by decide) ?_
      exact hk59 y12 P_11 H locs ls h hP hD hS (lv_sub hl [1, 0] rfl)
set_option maxHeartbeats 4000000 in
set_option maxRecDepth 100000 in
theorem w_X2_clear_L37 {p : Program} {l : Launch} {e : Env} {s : State} {m : MethodId} {below : List Frame} {meth : Method} {c : Code} {G : va_G} {cA : Nat → ClassId} {A : Nat → Prop} {bA : Nat} {ka : Nat → Nat} {ra : Nat → Nat} {pa : Nat → Nat} {K : Tr} {R : Tr} {L : Lo} {P' : Tr} (F : tF p s m ([.ref (pa 0)] : List Value).toArray meth c G cA A RX2 cX2_clear 2 none) (hB : tqB bA A s s.heap)    (N : Nat) : ∀ (x1 : Int32) (P : Tr) (H : Heap) (locs : List Loc) (ls : Array Slot), lpF (fun _ _ => none) (fB_X2_clear_L37 ) N x1 P = some P' → va_P G vwCl (wRP cA ka ra pa K R P L) H → va_D A (wRP cA ka ra pa K R P L) → va_S A s.heap H locs → lv_has ls 2 [(0, .ref (pa 0)), (1, .int x1)] → G_X2_clear p l e s m below meth c G cA A bA ka ra pa K R L P' H locs (F0 m 37 ls []) := by
  obtain ⟨hx, hb, hr, hml, hT, hown, hlocks, hK, hN, hA⟩ := id F
  induction N with
  | zero =>
    intro x1 P H locs ls h
    have h : (none : Option (Tr)) = some P' := h
    cases h
  | succ N hk37 =>
    intro x1 P H locs ls h hP hD hS hl
    have h : fB_X2_clear_L37  (lpF (fun _ _ => none) (fB_X2_clear_L37 ) N) x1 P = some P' := h
    generalize hk37e : lpF (fun _ _ => none) (fB_X2_clear_L37 ) N = k37 at h hk37
    unfold fB_X2_clear_L37 at h
    refine lv_iload_n hx hb dX2_clear_37 rfl (lv_at hl 1 rfl) ?_
    refine lv_bipush (v := 20) hx hb dX2_clear_38 (by decide) ?_
    refine lv_icmp_gt (tgt := 57) hx hb dX2_clear_40 (by decide) (fun c8 => ?_) (fun c8 => ?_)
    · have h := tx_pos c8 h
      refine lv_iconst (v := 0) hx hb dX2_clear_57 (by decide) ?_
      refine lv_istore_n (lv' := [(1, .int 0), (0, .ref (pa 0))]) hx hb dX2_clear_58 rfl hl (by decide) rfl (fun ls hl => ?_)
      exact w_X2_clear_L59 F hB 2000 0 P H locs ls h hP hD hS (lv_sub hl [1, 0] rfl)
    · have h := tx_neg c8 h
      refine lv_aload_n hx hb dX2_clear_43 rfl (lv_at hl 0 rfl) ?_
      refine va_get (D := G) (ci := 2) (v := .ref (pa 18)) (C := RX2) (T := TX2) (N := 19) hx hb hT ku_2 hown hK hP 5 rfl rfl 17 (by decide) (hT _ kw_6_4) (fun _ h9 => h9) rfl dX2_clear_44 ?_
      refine lv_iload_n hx hb dX2_clear_47 rfl (lv_at hl 1 rfl) ?_
      refine lv_bipush (v := 60) hx hb dX2_clear_48 (by decide) ?_
      obtain ⟨g13, h⟩ := tx_ck h
      refine va_iast (i := x1) hx hb hK hP hD hS 16 0 rfl rfl (tx_in g13) dX2_clear_50 (fun H locs hP hD hS => ?_)
      obtain ⟨P_14, eP_14, h⟩ := tx_lt h
      rw [sRP_pa_a17, eP_14] at hP hD
      obtain ⟨y15, ey15, h⟩ := tx_lt h
      refine lv_iinc (v := y15) (lv' := [(1, .int y15), (0, .ref (pa 0))]) hx hb dX2_clear_51 hl (k := 1) rfl ey15 (by decide) rfl (fun ls hl => ?_)
      refine lv_goto (tgt := 37) hx hb dX2_clear_54 (by decide) ?_
      exact hk37 y15 P_14 H locs ls h hP hD hS (lv_sub hl [1, 0] rfl)
set_option maxHeartbeats 4000000 in
set_option maxRecDepth 100000 in
theorem c_X2_clear (l : Launch) (G : va_G) (cA : Nat → ClassId) (sz : Nat) (bA : Nat) (ka : Nat → Nat) (ra : Nat → Nat) (pa : Nat → Nat) (K : Tr) (R : Tr) (P : Tr) (L : Lo)  (P' : Tr) (h : f_X2_clear P = some P') : Met l yX2_clear (.code yX2_clear cX2_clear 2 none :: T0) ({ frames := 0, cells := 0, slots := 0, locals := 0 } : Room) (tqPB bA G cA [.ref (pa 0)] (wRP cA ka ra pa K R P L) sz) (tqQv G cA (fun (_ : Unit) => True) (fun (_ : Unit) => wRP cA ka ra pa K R (P') L) (va_A (wRP cA ka ra pa K R P L) sz)) 0 0 (va_A (wRP cA ka ra pa K R P L) sz) := by
  refine Met.ofW (cc := cX2_clear) (maxL := 2) (ret := none) (by decide) rfl ?_
  intro p e s m args below meth c s₁ B hml hv
  obtain ⟨rfl, hsz, hP, hK, hD0, hN, hB⟩ := hv
  have hx := B.exec
  have hb := B.bytes
  have hr := B.returns
  have hts := atoms_spec (ws := .code yX2_clear cX2_clear 2 none :: T0) B.pre
  have hT : ∀ w ∈ T0, w.before _ s = true := fun w h => hts w (List.mem_cons_of_mem _ h)
  have hown : s.vm.findClass RX2 = some m.cls := findClass_of_methodNamed B.named
  have hlocks := B.notSynchronized
  subst hsz
  have hD := hD0.self (sz := s.heap.size)
  generalize hAe : va_A (wRP cA ka ra pa K R P L) s.heap.size = A at hD hB ⊢
  have hA : ∀ q : Nat, s.heap.size ≤ q → A q := fun q h => by rw [← hAe]; exact Or.inr h
  have hS : va_S A s.heap s.heap [] := va_S.rf
  have hl := lv_entry ([.ref (pa 0)]) (n := 2) (Nat.le_of_ble_eq_true rfl)
  rw [lg_entry_eq]
  generalize (lg_sl ([.ref (pa 0)]) ++ List.replicate (2 - (lg_sl ([.ref (pa 0)])).length) Slot.unset).toArray = ls at hl ⊢
  have hl : lv_has ls 2 [(0, .ref (pa 0))] := hl
  have F : tF p s m ([.ref (pa 0)] : List Value).toArray meth c G cA A RX2 cX2_clear 2 none := ⟨hx, hb, hr, hml, hT, hown, hlocks, hK, hN, hA⟩
  obtain ⟨H, hH⟩ : ∃ z, z = s.heap := ⟨_, rfl⟩
  rw [← hH] at hP
  have hS : va_S A s.heap H [] := by rw [hH]; exact hS
  suffices hgo : G_X2_clear p l e s m below meth c G cA A bA ka ra pa K R L P' H [] (F0 m 0 ls []) by rw [hH] at hgo; exact hgo
  generalize ([] : List Loc) = locs at hS ⊢
  unfold f_X2_clear at h
  refine lv_aload_n hx hb dX2_clear_0 rfl (lv_at hl 0 rfl) ?_
  refine lv_iconst (v := 0) hx hb dX2_clear_1 (by decide) ?_
  refine va_put (D := G) (ci := 2) (v := .int 0) (ty := .int) (C := RX2) (T := TX2) (N := 19) hx hb hT ku_2 tyX2 tyX2_ok nmX2 hown hK hP hD hS 5 rfl rfl 0 (by decide) (hT _ kw_6_18) (fun _ h9 => h9) rfl (by decide +kernel) rfl rfl (Nat.le_of_ble_eq_true rfl) dX2_clear_2 (fun H locs hP hD hS => ?_)
  obtain ⟨P_1, eP_1, h⟩ := tx_lt h
  rw [sRP_pa_f0, eP_1] at hP hD
  refine lv_aload_n hx hb dX2_clear_5 rfl (lv_at hl 0 rfl) ?_
  refine lv_iconst (v := 0) hx hb dX2_clear_6 (by decide) ?_
  refine va_put (D := G) (ci := 2) (v := .int 0) (ty := .int) (C := RX2) (T := TX2) (N := 19) hx hb hT ku_2 tyX2 tyX2_ok nmX2 hown hK hP hD hS 5 rfl rfl 1 (by decide) (hT _ kw_6_19) (fun _ h9 => h9) rfl (by decide +kernel) rfl rfl (Nat.le_of_ble_eq_true rfl) dX2_clear_7 (fun H locs hP hD hS => ?_)
  obtain ⟨P_2, eP_2, h⟩ := tx_lt h
  rw [sRP_pa_f1, eP_2] at hP hD
  refine lv_aload_n hx hb dX2_clear_10 rfl (lv_at hl 0 rfl) ?_
  refine lv_iconst (v := 0) hx hb dX2_clear_11 (by decide) ?_
  refine va_put (D := G) (ci := 2) (v := .int 0) (ty := .int) (C := RX2) (T := TX2) (N := 19) hx hb hT ku_2 tyX2 tyX2_ok nmX2 hown hK hP hD hS 5 rfl rfl 2 (by decide) (hT _ kw_6_20) (fun _ h9 => h9) rfl (by decide +kernel) rfl rfl (Nat.le_of_ble_eq_true rfl) dX2_clear_12 (fun H locs hP hD hS => ?_)
  obtain ⟨P_3, eP_3, h⟩ := tx_lt h
  rw [sRP_pa_f2, eP_3] at hP hD
  refine lv_aload_n hx hb dX2_clear_15 rfl (lv_at hl 0 rfl) ?_
  refine lv_iconst (v := 0) hx hb dX2_clear_16 (by decide) ?_
  refine va_put (D := G) (ci := 2) (v := .int 0) (ty := .int) (C := RX2) (T := TX2) (N := 19) hx hb hT ku_2 tyX2 tyX2_ok nmX2 hown hK hP hD hS 5 rfl rfl 3 (by decide) (hT _ kw_6_21) (fun _ h9 => h9) rfl (by decide +kernel) rfl rfl (Nat.le_of_ble_eq_true rfl) dX2_clear_17 (fun H locs hP hD hS => ?_)
  obtain ⟨P_4, eP_4, h⟩ := tx_lt h
  rw [sRP_pa_f3, eP_4] at hP hD
  refine lv_aload_n hx hb dX2_clear_20 rfl (lv_at hl 0 rfl) ?_
  refine lv_iconst (v := 0) hx hb dX2_clear_21 (by decide) ?_
  refine va_put (D := G) (ci := 2) (v := .int 0) (ty := .int) (C := RX2) (T := TX2) (N := 19) hx hb hT ku_2 tyX2 tyX2_ok nmX2 hown hK hP hD hS 5 rfl rfl 4 (by decide) (hT _ kw_6_22) (fun _ h9 => h9) rfl (by decide +kernel) rfl rfl (Nat.le_of_ble_eq_true rfl) dX2_clear_22 (fun H locs hP hD hS => ?_)
  obtain ⟨P_5, eP_5, h⟩ := tx_lt h
  rw [sRP_pa_f4, eP_5] at hP hD
  refine lv_aload_n hx hb dX2_clear_25 rfl (lv_at hl 0 rfl) ?_
  refine lv_iconst (v := 0) hx hb dX2_clear_26 (by decide) ?_
  refine va_put (D := G) (ci := 2) (v := .int 0) (ty := .int) (C := RX2) (T := TX2) (N := 19) hx hb hT ku_2 tyX2 tyX2_ok nmX2 hown hK hP hD hS 5 rfl rfl 5 (by decide) (hT _ kw_6_23) (fun _ h9 => h9) rfl (by decide +kernel) rfl rfl (Nat.le_of_ble_eq_true rfl) dX2_clear_27 (fun H locs hP hD hS => ?_)
  obtain ⟨P_6, eP_6, h⟩ := tx_lt h
  rw [sRP_pa_f5, eP_6] at hP hD
  refine lv_aload_n hx hb dX2_clear_30 rfl (lv_at hl 0 rfl) ?_
  refine lv_iconst (v := 0) hx hb dX2_clear_31 (by decide) ?_
  refine va_put (D := G) (ci := 2) (v := .int 0) (ty := .int) (C := RX2) (T := TX2) (N := 19) hx hb hT ku_2 tyX2 tyX2_ok nmX2 hown hK hP hD hS 5 rfl rfl 6 (by decide) (hT _ kw_7_0) (fun _ h9 => h9) rfl (by decide +kernel) rfl rfl (Nat.le_of_ble_eq_true rfl) dX2_clear_32 (fun H locs hP hD hS => ?_)
  obtain ⟨P_7, eP_7, h⟩ := tx_lt h
  rw [sRP_pa_f6, eP_7] at hP hD
  refine lv_iconst (v := 0) hx hb dX2_clear_35 (by decide) ?_
  refine lv_istore_n (lv' := [(1, .int 0), (0, .ref (pa 0))]) hx hb dX2_clear_36 rfl hl (by decide) rfl (fun ls hl => ?_)
  exact w_X2_clear_L37 F hB 2000 0 P_7 H locs ls h hP hD hS (lv_sub hl [1, 0] rfl)
abbrev G_X5_at (p : Program) (l : Launch) (e : Env) (s : State) (m : MethodId) (below : List Frame) (meth : Method) (c : Code) (G : va_G) (cA : Nat → ClassId) (A : Nat → Prop) (bA : Nat) (ka : Nat → Nat) (ra : Nat → Nat) (pa : Nat → Nat) (K : Tr) (R : Tr) (P : Tr) (L : Lo) (x1 : Int32) (r0 : Int32) (H : Heap) (locs : List Loc) (g : JFrame) : Prop := W p l e (headSpec (.code yX5_at cX5_at 2 (some .int) :: T0) ({ frames := 0, cells := 0, slots := 0, locals := 0 } : Room)).room s m ([.ref (ka 0), .int x1] : List Value).toArray below meth c H locs 0 0 (MQ below (tqQi G cA (fun (r : Int32) (_ : Unit) => r = r0) (fun (_ : Unit) => wRP cA ka ra pa K R P L) A) ([.ref (ka 0), .int x1] : List Value).toArray s 0 0 A) g
set_option maxHeartbeats 4000000 in
set_option maxRecDepth 100000 in
theorem c_X5_at (l : Launch) (G : va_G) (cA : Nat → ClassId) (sz : Nat) (bA : Nat) (ka : Nat → Nat) (ra : Nat → Nat) (pa : Nat → Nat) (K : Tr) (R : Tr) (P : Tr) (L : Lo) (x1 : Int32)  (r0 : Int32) (h : f_X5_at K x1 = some r0) : Met l yX5_at (.code yX5_at cX5_at 2 (some .int) :: T0) ({ frames := 0, cells := 0, slots := 0, locals := 0 } : Room) (tqPB bA G cA [.ref (ka 0), .int x1] (wRP cA ka ra pa K R P L) sz) (tqQi G cA (fun (r : Int32) (_ : Unit) => r = r0) (fun (_ : Unit) => wRP cA ka ra pa K R P L) (va_A (wRP cA ka ra pa K R P L) sz)) 0 0 (va_A (wRP cA ka ra pa K R P L) sz) := by
  refine Met.ofW (cc := cX5_at) (maxL := 2) (ret := (some .int)) (by decide) rfl ?_
  intro p e s m args below meth c s₁ B hml hv
  obtain ⟨rfl, hsz, hP, hK, hD0, hN, hB⟩ := hv
  have hx := B.exec
  have hb := B.bytes
  have hr := B.returns
  have hts := atoms_spec (ws := .code yX5_at cX5_at 2 (some .int) :: T0) B.pre
  have hT : ∀ w ∈ T0, w.before _ s = true := fun w h => hts w (List.mem_cons_of_mem _ h)
  have hown : s.vm.findClass RX5 = some m.cls := findClass_of_methodNamed B.named
  have hlocks := B.notSynchronized
  subst hsz
  have hD := hD0.self (sz := s.heap.size)
  generalize hAe : va_A (wRP cA ka ra pa K R P L) s.heap.size = A at hD hB ⊢
  have hA : ∀ q : Nat, s.heap.size ≤ q → A q := fun q h => by rw [← hAe]; exact Or.inr h
  have hS : va_S A s.heap s.heap [] := va_S.rf
  have hl := lv_entry ([.ref (ka 0), .int x1]) (n := 2) (Nat.le_of_ble_eq_true rfl)
  rw [lg_entry_eq]
  generalize (lg_sl ([.ref (ka 0), .int x1]) ++ List.replicate (2 - (lg_sl ([.ref (ka 0), .int x1])).length) Slot.unset).toArray = ls at hl ⊢
  have hl : lv_has ls 2 [(0, .ref (ka 0)), (1, .int x1)] := hl
  have F : tF p s m ([.ref (ka 0), .int x1] : List Value).toArray meth c G cA A RX5 cX5_at 2 (some .int) := ⟨hx, hb, hr, hml, hT, hown, hlocks, hK, hN, hA⟩
  obtain ⟨H, hH⟩ : ∃ z, z = s.heap := ⟨_, rfl⟩
  rw [← hH] at hP
  have hS : va_S A s.heap H [] := by rw [hH]; exact hS
  suffices hgo : G_X5_at p l e s m below meth c G cA A bA ka ra pa K R P L x1 r0 H [] (F0 m 0 ls []) by rw [hH] at hgo; exact hgo
  generalize ([] : List Loc) = locs at hS ⊢
  unfold f_X5_at at h
  refine lv_iload_n hx hb dX5_at_0 rfl (lv_at hl 1 rfl) ?_
  refine lv_if_lt (tgt := 32) hx hb dX5_at_1 (by decide) (fun c1 => ?_) (fun c1 => ?_)
  · have h := tx_pos c1 h
    refine lv_iconst (v := (-1)) hx hb dX5_at_32 (by decide) ?_
    obtain rfl := tx_1 h
    exact W.iret hx hb hr (fun t ht hW => ⟨⟨_, (), rfl, rfl, by rw [ht]; exact hP, hD⟩, hS.F ht⟩) hS.2.2 dX5_at_33
  · have h := tx_neg c1 h
    refine lv_iload_n hx hb dX5_at_4 rfl (lv_at hl 1 rfl) ?_
    refine lv_aload_n hx hb dX5_at_5 rfl (lv_at hl 0 rfl) ?_
    refine va_get (D := G) (ci := 5) (v := .int (K 0 6)) (C := RX5) (T := TX5) (N := 8) hx hb hT ku_5 hown hK hP 0 rfl rfl 6 (by decide) (hT _ kw_14_21) (fun _ h9 => h9) rfl dX5_at_6 ?_
    refine lv_icmp_ge (tgt := 32) hx hb dX5_at_9 (by decide) (fun c2 => ?_) (fun c2 => ?_)
    · have h := tx_pos c2 h
      refine lv_iconst (v := (-1)) hx hb dX5_at_32 (by decide) ?_
      obtain rfl := tx_1 h
      exact W.iret hx hb hr (fun t ht hW => ⟨⟨_, (), rfl, rfl, by rw [ht]; exact hP, hD⟩, hS.F ht⟩) hS.2.2 dX5_at_33
    · have h := tx_neg c2 h
      refine lv_iload_n hx hb dX5_at_12 rfl (lv_at hl 1 rfl) ?_
      refine lv_sipush (v := 700) hx hb dX5_at_13 (by decide) ?_
      refine lv_icmp_ge (tgt := 32) hx hb dX5_at_16 (by decide) (fun c3 => ?_) (fun c3 => ?_)
      · have h := tx_pos c3 h
        refine lv_iconst (v := (-1)) hx hb dX5_at_32 (by decide) ?_
        obtain rfl := tx_1 h
        exact W.iret hx hb hr (fun t ht hW => ⟨⟨_, (), rfl, rfl, by rw [ht]; exact hP, hD⟩, hS.F ht⟩) hS.2.2 dX5_at_33
      · have h := tx_neg c3 h
        refine lv_aload_n hx hb dX5_at_19 rfl (lv_at hl 0 rfl) ?_
        refine va_get (D := G) (ci := 5) (v := .ref (ka 5)) (C := RX5) (T := TX5) (N := 8) hx hb hT ku_5 hown hK hP 0 rfl rfl 4 (by decide) (hT _ kw_3_11) (fun _ h9 => h9) rfl dX5_at_20 ?_
        refine lv_iload_n hx hb dX5_at_23 rfl (lv_at hl 1 rfl) ?_
        obtain ⟨g4, h⟩ := tx_ck h
        refine va_bald (i := x1) hx hb hK hP 1 3 rfl rfl (tx_in g4) dX5_at_24 ?_
        refine lv_sipush (v := 255) hx hb dX5_at_25 (by decide) ?_
        refine lv_iand hx hb dX5_at_28 ?_
        refine lv_goto (tgt := 33) hx hb dX5_at_29 (by decide) ?_
        obtain rfl := tx_1 h
        exact W.iret hx hb hr (fun t ht hW => ⟨⟨_, (), rfl, rfl, by rw [ht]; exact hP, hD⟩, hS.F ht⟩) hS.2.2 dX5_at_33
abbrev G_X5_isBlank (p : Program) (l : Launch) (e : Env) (s : State) (m : MethodId) (below : List Frame) (meth : Method) (c : Code) (G : va_G) (cA : Nat → ClassId) (A : Nat → Prop) (x0 : Int32) (r0 : Int32) (H : Heap) (locs : List Loc) (g : JFrame) : Prop := W p l e (headSpec (.code yX5_isBlank cX5_isBlank 1 (some .boolean) :: T0) ({ frames := 0, cells := 0, slots := 0, locals := 0 } : Room)).room s m ([.int x0] : List Value).toArray below meth c H locs 0 0 (MQ below (tqQi G cA (fun (r : Int32) (_ : Unit) => r = r0) (fun (_ : Unit) => ([] : va_W)) A) ([.int x0] : List Value).toArray s 0 0 A) g
set_option maxHeartbeats 4000000 in
set_option maxRecDepth 100000 in
theorem c_X5_isBlank (l : Launch) (G : va_G) (cA : Nat → ClassId) (sz : Nat) (x0 : Int32)  (r0 : Int32) (h : f_X5_isBlank x0 = some r0) : Met l yX5_isBlank (.code yX5_isBlank cX5_isBlank 1 (some .boolean) :: T0) ({ frames := 0, cells := 0, slots := 0, locals := 0 } : Room) (tqP G cA [.int x0] (([] : va_W)) sz) (tqQi G cA (fun (r : Int32) (_ : Unit) => r = r0) (fun (_ : Unit) => ([] : va_W)) (va_A (([] : va_W)) sz)) 0 0 (va_A (([] : va_W)) sz) := by
  refine Met.ofW (cc := cX5_isBlank) (maxL := 1) (ret := (some .boolean)) (by decide) rfl ?_
  intro p e s m args below meth c s₁ B hml hv
  obtain ⟨rfl, hsz, hP, hK, hD0, hN⟩ := hv
  have hx := B.exec
  have hb := B.bytes
  have hr := B.returns
  have hts := atoms_spec (ws := .code yX5_isBlank cX5_isBlank 1 (some .boolean) :: T0) B.pre
  have hT : ∀ w ∈ T0, w.before _ s = true := fun w h => hts w (List.mem_cons_of_mem _ h)
  have hown : s.vm.findClass RX5 = some m.cls := findClass_of_methodNamed B.named
  have hlocks := B.notSynchronized
  subst hsz
  have hD := hD0.self (sz := s.heap.size)
  generalize hAe : va_A (([] : va_W)) s.heap.size = A at hD ⊢
  have hA : ∀ q : Nat, s.heap.size ≤ q → A q := fun q h => by rw [← hAe]; exact Or.inr h
  have hS : va_S A s.heap s.heap [] := va_S.rf
  have hl := lv_entry ([.int x0]) (n := 1) (Nat.le_of_ble_eq_true rfl)
  rw [lg_entry_eq]
  generalize (lg_sl ([.int x0]) ++ List.replicate (1 - (lg_sl ([.int x0])).length) Slot.unset).toArray = ls at hl ⊢
  have hl : lv_has ls 1 [(0, .int x0)] := hl
  have F : tF p s m ([.int x0] : List Value).toArray meth c G cA A RX5 cX5_isBlank 1 (some .boolean) := ⟨hx, hb, hr, hml, hT, hown, hlocks, hK, hN, hA⟩
  obtain ⟨H, hH⟩ : ∃ z, z = s.heap := ⟨_, rfl⟩
  rw [← hH] at hP
  have hS : va_S A s.heap H [] := by rw [hH]; exact hS
  suffices hgo : G_X5_isBlank p l e s m below meth c G cA A x0 r0 H [] (F0 m 0 ls []) by rw [hH] at hgo; exact hgo
  generalize ([] : List Loc) = locs at hS ⊢
  unfold f_X5_isBlank at h
  refine lv_iload_n hx hb dX5_isBlank_0 rfl (lv_at hl 0 rfl) ?_
  refine lv_bipush (v := 10) hx hb dX5_isBlank_1 (by decide) ?_
  refine lv_icmp_eq (tgt := 12) hx hb dX5_isBlank_3 (by decide) (fun c1 => ?_) (fun c1 => ?_)
  · have h := tx_pos c1 h
    refine lv_iconst (v := 1) hx hb dX5_isBlank_12 (by decide) ?_
    refine lv_goto (tgt := 17) hx hb dX5_isBlank_13 (by decide) ?_
    obtain rfl := tx_1 h
    exact W.zret (ty := .boolean) hx hb hr rfl (fun t ht hW => ⟨⟨_, (), rfl, rfl, by rw [ht]; exact hP, hD⟩, hS.F ht⟩) hS.2.2 dX5_isBlank_17
  · have h := tx_neg c1 h
    refine lv_iload_n hx hb dX5_isBlank_6 rfl (lv_at hl 0 rfl) ?_
    refine lv_bipush (v := 32) hx hb dX5_isBlank_7 (by decide) ?_
    refine lv_icmp_ne (tgt := 16) hx hb dX5_isBlank_9 (by decide) (fun c2 => ?_) (fun c2 => ?_)
    · have h := tx_neg c2 h
      refine lv_iconst (v := 0) hx hb dX5_isBlank_16 (by decide) ?_
      obtain rfl := tx_1 h
      exact W.zret (ty := .boolean) hx hb hr rfl (fun t ht hW => ⟨⟨_, (), rfl, rfl, by rw [ht]; exact hP, hD⟩, hS.F ht⟩) hS.2.2 dX5_isBlank_17
    · have h := tx_pos c2 h
      refine lv_iconst (v := 1) hx hb dX5_isBlank_12 (by decide) ?_
      refine lv_goto (tgt := 17) hx hb dX5_isBlank_13 (by decide) ?_
      obtain rfl := tx_1 h
      exact W.zret (ty := .boolean) hx hb hr rfl (fun t ht hW => ⟨⟨_, (), rfl, rfl, by rw [ht]; exact hP, hD⟩, hS.F ht⟩) hS.2.2 dX5_isBlank_17
abbrev G_X5_isLetter (p : Program) (l : Launch) (e : Env) (s : State) (m : MethodId) (below : List Frame) (meth : Method) (c : Code) (G : va_G) (cA : Nat → ClassId) (A : Nat → Prop) (x0 : Int32) (r0 : Int32) (H : Heap) (locs : List Loc) (g : JFrame) : Prop := W p l e (headSpec (.code yX5_isLetter cX5_isLetter 1 (some .boolean) :: T0) ({ frames := 0, cells := 0, slots := 0, locals := 0 } : Room)).room s m ([.int x0] : List Value).toArray below meth c H locs 0 0 (MQ below (tqQi G cA (fun (r : Int32) (_ : Unit) => r = r0) (fun (_ : Unit) => ([] : va_W)) A) ([.int x0] : List Value).toArray s 0 0 A) g
set_option maxHeartbeats 4000000 in
set_option maxRecDepth 100000 in
theorem c_X5_isLetter (l : Launch) (G : va_G) (cA : Nat → ClassId) (sz : Nat) (x0 : Int32)  (r0 : Int32) (h : f_X5_isLetter x0 = some r0) : Met l yX5_isLetter (.code yX5_isLetter cX5_isLetter 1 (some .boolean) :: T0) ({ frames := 0, cells := 0, slots := 0, locals := 0 } : Room) (tqP G cA [.int x0] (([] : va_W)) sz) (tqQi G cA (fun (r : Int32) (_ : Unit) => r = r0) (fun (_ : Unit) => ([] : va_W)) (va_A (([] : va_W)) sz)) 0 0 (va_A (([] : va_W)) sz) := by
  refine Met.ofW (cc := cX5_isLetter) (maxL := 1) (ret := (some .boolean)) (by decide) rfl ?_
  intro p e s m args below meth c s₁ B hml hv
  obtain ⟨rfl, hsz, hP, hK, hD0, hN⟩ := hv
  have hx := B.exec
  have hb := B.bytes
  have hr := B.returns
  have hts := atoms_spec (ws := .code yX5_isLetter cX5_isLetter 1 (some .boolean) :: T0) B.pre
  have hT : ∀ w ∈ T0, w.before _ s = true := fun w h => hts w (List.mem_cons_of_mem _ h)
  have hown : s.vm.findClass RX5 = some m.cls := findClass_of_methodNamed B.named
  have hlocks := B.notSynchronized
  subst hsz
  have hD := hD0.self (sz := s.heap.size)
  generalize hAe : va_A (([] : va_W)) s.heap.size = A at hD ⊢
  have hA : ∀ q : Nat, s.heap.size ≤ q → A q := fun q h => by rw [← hAe]; exact Or.inr h
  have hS : va_S A s.heap s.heap [] := va_S.rf
  have hl := lv_entry ([.int x0]) (n := 1) (Nat.le_of_ble_eq_true rfl)
  rw [lg_entry_eq]
  generalize (lg_sl ([.int x0]) ++ List.replicate (1 - (lg_sl ([.int x0])).length) Slot.unset).toArray = ls at hl ⊢
  have hl : lv_has ls 1 [(0, .int x0)] := hl
  have F : tF p s m ([.int x0] : List Value).toArray meth c G cA A RX5 cX5_isLetter 1 (some .boolean) := ⟨hx, hb, hr, hml, hT, hown, hlocks, hK, hN, hA⟩
  obtain ⟨H, hH⟩ : ∃ z, z = s.heap := ⟨_, rfl⟩
  rw [← hH] at hP
  have hS : va_S A s.heap H [] := by rw [hH]; exact hS
  suffices hgo : G_X5_isLetter p l e s m below meth c G cA A x0 r0 H [] (F0 m 0 ls []) by rw [hH] at hgo; exact hgo
  generalize ([] : List Loc) = locs at hS ⊢
  unfold f_X5_isLetter at h
  refine lv_iload_n hx hb dX5_isLetter_0 rfl (lv_at hl 0 rfl) ?_
  refine lv_bipush (v := 97) hx hb dX5_isLetter_1 (by decide) ?_
  refine lv_icmp_lt (tgt := 16) hx hb dX5_isLetter_3 (by decide) (fun c1 => ?_) (fun c1 => ?_)
  · have h := tx_pos c1 h
    refine lv_iconst (v := 0) hx hb dX5_isLetter_16 (by decide) ?_
    obtain rfl := tx_1 h
    exact W.zret (ty := .boolean) hx hb hr rfl (fun t ht hW => ⟨⟨_, (), rfl, rfl, by rw [ht]; exact hP, hD⟩, hS.F ht⟩) hS.2.2 dX5_isLetter_17
  · have h := tx_neg c1 h
    refine lv_iload_n hx hb dX5_isLetter_6 rfl (lv_at hl 0 rfl) ?_
    refine lv_bipush (v := 122) hx hb dX5_isLetter_7 (by decide) ?_
    refine lv_icmp_gt (tgt := 16) hx hb dX5_isLetter_9 (by decide) (fun c2 => ?_) (fun c2 => ?_)
    · have h := tx_pos c2 h
      refine lv_iconst (v := 0) hx hb dX5_isLetter_16 (by decide) ?_
      obtain rfl := tx_1 h
      exact W.zret (ty := .boolean) hx hb hr rfl (fun t ht hW => ⟨⟨_, (), rfl, rfl, by rw [ht]; exact hP, hD⟩, hS.F ht⟩) hS.2.2 dX5_isLetter_17
    · have h := tx_neg c2 h
      refine lv_iconst (v := 1) hx hb dX5_isLetter_12 (by decide) ?_
      refine lv_goto (tgt := 17) hx hb dX5_isLetter_13 (by decide) ?_
      obtain rfl := tx_1 h
      exact W.zret (ty := .boolean) hx hb hr rfl (fun t ht hW => ⟨⟨_, (), rfl, rfl, by rw [ht]; exact hP, hD⟩, hS.F ht⟩) hS.2.2 dX5_isLetter_17
abbrev G_X5_readWord (p : Program) (l : Launch) (e : Env) (s : State) (m : MethodId) (below : List Frame) (meth : Method) (c : Code) (G : va_G) (cA : Nat → ClassId) (A : Nat → Prop) (bA : Nat) (ka : Nat → Nat) (ra : Nat → Nat) (pa : Nat → Nat) (R : Tr) (P : Tr) (L : Lo) (K' : Tr) (H : Heap) (locs : List Loc) (g : JFrame) : Prop := W p l e (headSpec (.code yX5_readWord cX5_readWord 4 none :: T0) ({ frames := 1, cells := 0, slots := 0, locals := 21 } : Room)).room s m ([.ref (ka 0)] : List Value).toArray below meth c H locs 0 0 (MQ below (tqQv G cA (fun (_ : Unit) => True) (fun (_ : Unit) => wRP cA ka ra pa (K') R P L) A) ([.ref (ka 0)] : List Value).toArray s 0 0 A) g
set_option maxHeartbeats 4000000 in
set_option maxRecDepth 100000 in
theorem w_X5_readWord_L115 {p : Program} {l : Launch} {e : Env} {s : State} {m : MethodId} {below : List Frame} {meth : Method} {c : Code} {G : va_G} {cA : Nat → ClassId} {A : Nat → Prop} {bA : Nat} {ka : Nat → Nat} {ra : Nat → Nat} {pa : Nat → Nat} {R : Tr} {P : Tr} {L : Lo} {K' : Tr} (F : tF p s m ([.ref (ka 0)] : List Value).toArray meth c G cA A RX5 cX5_readWord 4 none) (hB : tqB bA A s s.heap)    (N : Nat) : ∀ (x3 : Int32) (K : Tr) (H : Heap) (locs : List Loc) (ls : Array Slot), lpF (fun _ _ => none) (fB_X5_readWord_L115 ) N x3 K = some K' → va_P G vwCl (wRP cA ka ra pa K R P L) H → va_D A (wRP cA ka ra pa K R P L) → va_S A s.heap H locs → lv_has ls 4 [(0, .ref (ka 0)), (3, .int x3)] → G_X5_readWord p l e s m below meth c G cA A bA ka ra pa R P L K' H locs (F0 m 115 ls []) := by
  obtain ⟨hx, hb, hr, hml, hT, hown, hlocks, hK, hN, hA⟩ := id F
  induction N with
  | zero =>
    intro x3 K H locs ls h
    have h : (none : Option (Tr)) = some K' := h
    cases h
  | succ N hk115 =>
    intro x3 K H locs ls h hP hD hS hl
    have h : fB_X5_readWord_L115  (lpF (fun _ _ => none) (fB_X5_readWord_L115 ) N) x3 K = some K' := h
    generalize hk115e : lpF (fun _ _ => none) (fB_X5_readWord_L115 ) N = k115 at h hk115
    unfold fB_X5_readWord_L115 at h
    refine lv_iload_n hx hb dX5_readWord_115 rfl (lv_at hl 1 rfl) ?_
    refine lv_bipush (v := 29) hx hb dX5_readWord_116 (by decide) ?_
    refine lv_icmp_ge (tgt := 145) hx hb dX5_readWord_118 (by decide) (fun c6 => ?_) (fun c6 => ?_)
    · have h := tx_pos c6 h
      obtain rfl := tx_1 h
      exact W.vret hx hb hr (fun t ht hW => ⟨⟨(), rfl, trivial, by rw [ht]; exact hP, hD⟩, hS.F ht⟩) hS.2.2 dX5_readWord_145
    · have h := tx_neg c6 h
      refine lv_aload_n hx hb dX5_readWord_121 rfl (lv_at hl 0 rfl) ?_
      refine va_get (D := G) (ci := 5) (v := .ref (ka 6)) (C := RX5) (T := TX5) (N := 8) hx hb hT ku_5 hown hK hP 0 rfl rfl 5 (by decide) (hT _ kw_3_12) (fun _ h9 => h9) rfl dX5_readWord_122 ?_
      refine lv_iload_n hx hb dX5_readWord_125 rfl (lv_at hl 1 rfl) ?_
      obtain ⟨g7, h⟩ := tx_ck h
      refine va_iald (i := x3) hx hb hK hP 2 0 rfl rfl (tx_in g7) dX5_readWord_126 ?_
      refine lv_aload_n hx hb dX5_readWord_127 rfl (lv_at hl 0 rfl) ?_
      refine va_get (D := G) (ci := 5) (v := .int (K 0 3)) (C := RX5) (T := TX5) (N := 8) hx hb hT ku_5 hown hK hP 0 rfl rfl 3 (by decide) (hT _ kw_15_19) (fun _ h9 => h9) rfl dX5_readWord_128 ?_
      refine lv_icmp_ne (tgt := 139) hx hb dX5_readWord_131 (by decide) (fun c8 => ?_) (fun c8 => ?_)
      · have h := tx_neg c8 h
        obtain ⟨y9, ey9, h⟩ := tx_lt h
        refine lv_iinc (v := y9) (lv' := [(3, .int y9), (0, .ref (ka 0))]) hx hb dX5_readWord_139 hl (k := 1) rfl ey9 (by decide) rfl (fun ls hl => ?_)
        refine lv_goto (tgt := 115) hx hb dX5_readWord_142 (by decide) ?_
        exact hk115 y9 K H locs ls h hP hD hS (lv_sub hl [1, 0] rfl)
      · have h := tx_pos c8 h
        refine lv_aload_n hx hb dX5_readWord_134 rfl (lv_at hl 0 rfl) ?_
        refine lv_iload_n hx hb dX5_readWord_135 rfl (lv_at hl 1 rfl) ?_
        refine va_put (D := G) (ci := 5) (v := .int x3) (ty := .int) (C := RX5) (T := TX5) (N := 8) hx hb hT ku_5 tyX5 tyX5_ok nmX5 hown hK hP hD hS 0 rfl rfl 1 (by decide) (hT _ kw_15_4) (fun _ h9 => h9) rfl (by decide +kernel) rfl rfl (Nat.le_of_ble_eq_true rfl) dX5_readWord_136 (fun H locs hP hD hS => ?_)
        obtain ⟨K_10, eK_10, h⟩ := tx_lt h
        rw [sRP_ka_f1, eK_10] at hP hD
        obtain ⟨y11, ey11, h⟩ := tx_lt h
        refine lv_iinc (v := y11) (lv' := [(3, .int y11), (0, .ref (ka 0))]) hx hb dX5_readWord_139 hl (k := 1) rfl ey11 (by decide) rfl (fun ls hl => ?_)
        refine lv_goto (tgt := 115) hx hb dX5_readWord_142 (by decide) ?_
        exact hk115 y11 K_10 H locs ls h hP hD hS (lv_sub hl [1, 0] rfl)
set_option maxHeartbeats 4000000 in
set_option maxRecDepth 100000 in
theorem w_X5_readWord_J72 {p : Program} {l : Launch} {e : Env} {s : State} {m : MethodId} {below : List Frame} {meth : Method} {c : Code} {G : va_G} {cA : Nat → ClassId} {A : Nat → Prop} {bA : Nat} {ka : Nat → Nat} {ra : Nat → Nat} {pa : Nat → Nat} {R : Tr} {P : Tr} {L : Lo} {K' : Tr} (F : tF p s m ([.ref (ka 0)] : List Value).toArray meth c G cA A RX5 cX5_readWord 4 none) (hB : tqB bA A s s.heap)    (x1 : Int32) (K : Tr) (H : Heap) (locs : List Loc) (ls : Array Slot) (h : fJ_X5_readWord_J72 x1 K = some K') (hP : va_P G vwCl (wRP cA ka ra pa K R P L) H) (hD : va_D A (wRP cA ka ra pa K R P L)) (hS : va_S A s.heap H locs) (hl : lv_has ls 4 [(2, .int y2), (0, .ref (ka 0)), (1, .int x1)]) : G_X5_readWord p l e s m below meth c G cA A bA ka ra pa R P L K' H locs (F0 m 72 ls []) := by
  obtain ⟨hx, hb, hr, hml, hT, hown, hlocks, hK, hN, hA⟩ := id F
  unfold fJ_X5_readWord_J72 at h
  refine lv_aload_n hx hb dX5_readWord_72 rfl (lv_at hl 0 rfl) ?_
  refine va_get (D := G) (ci := 5) (v := .int (K 0 7)) (C := RX5) (T := TX5) (N := 8) hx hb hT ku_5 hown hK hP 0 rfl rfl 7 (by decide) (hT _ kw_14_22) (fun _ h9 => h9) rfl dX5_readWord_73 ?_
  refine lv_aload_n hx hb dX5_readWord_76 rfl (lv_at hl 0 rfl) ?_
  refine va_get (D := G) (ci := 5) (v := .int (K 0 2)) (C := RX5) (T := TX5) (N := 8) hx hb hT ku_5 hown hK hP 0 rfl rfl 2 (by decide) (hT _ kw_15_3) (fun _ h9 => h9) rfl dX5_readWord_77 ?_
  refine lv_isub hx hb dX5_readWord_80 ?_
  refine lv_topi (fun y2 ey2 => ?_)
  have h := tx_let ey2 h
  refine lv_istore_n (lv' := [(2, .int y2), (0, .ref (ka 0)), (1, .int x1)]) hx hb dX5_readWord_81 rfl hl (by decide) rfl (fun ls hl => ?_)
  refine lv_iload_n hx hb dX5_readWord_82 rfl (lv_at hl 0 rfl) ?_
  refine lv_bipush (v := 6) hx hb dX5_readWord_83 (by decide) ?_
  refine lv_icmp_le (tgt := 95) hx hb dX5_readWord_85 (by decide) (fun c3 => ?_) (fun c3 => ?_)
  · have h := tx_pos c3 h
    refine lv_aload_n hx hb dX5_readWord_95 rfl (lv_at hl 1 rfl) ?_
    refine lv_iload_n hx hb dX5_readWord_96 rfl (lv_at hl 2 rfl) ?_
    refine lv_iconst (v := 5) hx hb dX5_readWord_97 (by decide) ?_
    refine lv_bipush (v := 6) hx hb dX5_readWord_98 (by decide) ?_
    refine lv_iload_n hx hb dX5_readWord_100 rfl (lv_at hl 0 rfl) ?_
    refine lv_isub hx hb dX5_readWord_101 ?_
    refine lv_imul hx hb dX5_readWord_102 ?_
    refine lv_ishl hx hb dX5_readWord_103 ?_
    refine va_put (D := G) (ci := 5) (v := .int (x1 <<< (((5 : Int32) * ((6 : Int32) - y2)) &&& 31))) (ty := .int) (C := RX5) (T := TX5) (N := 8) hx hb hT ku_5 tyX5 tyX5_ok nmX5 hown hK hP hD hS 0 rfl rfl 3 (by decide) (hT _ kw_15_19) (fun _ h9 => h9) rfl (by decide +kernel) rfl rfl (Nat.le_of_ble_eq_true rfl) dX5_readWord_104 (fun H locs hP hD hS => ?_)
    obtain ⟨K_4, eK_4, h⟩ := tx_lt h
    rw [sRP_ka_f3, eK_4] at hP hD
    refine lv_aload_n hx hb dX5_readWord_107 rfl (lv_at hl 1 rfl) ?_
    refine lv_bipush (v := 43) hx hb dX5_readWord_108 (by decide) ?_
    refine va_put (D := G) (ci := 5) (v := .int 43) (ty := .int) (C := RX5) (T := TX5) (N := 8) hx hb hT ku_5 tyX5 tyX5_ok nmX5 hown hK hP hD hS 0 rfl rfl 1 (by decide) (hT _ kw_15_4) (fun _ h9 => h9) rfl (by decide +kernel) rfl rfl (Nat.le_of_ble_eq_true rfl) dX5_readWord_110 (fun H locs hP hD hS => ?_)
    obtain ⟨K_5, eK_5, h⟩ := tx_lt h
    rw [sRP_ka_f1, eK_5] at hP hD
    refine lv_iconst (v := 0) hx hb dX5_readWord_113 (by decide) ?_
    refine lv_istore_n (lv' := [(3, .int 0), (2, .int y2), (0, .ref (ka 0)), (1, .int x1)]) hx hb dX5_readWord_114 rfl hl (by decide) rfl (fun ls hl => ?_)
    exact w_X5_readWord_L115 F hB 2000 0 K_5 H locs ls h hP hD hS (lv_sub hl [2, 0] rfl)
  · have h := tx_neg c3 h
    refine lv_aload_n hx hb dX5_readWord_88 rfl (lv_at hl 1 rfl) ?_
    refine lv_bipush (v := 44) hx hb dX5_readWord_89 (by decide) ?_
    refine va_put (D := G) (ci := 5) (v := .int 44) (ty := .int) (C := RX5) (T := TX5) (N := 8) hx hb hT ku_5 tyX5 tyX5_ok nmX5 hown hK hP hD hS 0 rfl rfl 1 (by decide) (hT _ kw_15_4) (fun _ h9 => h9) rfl (by decide +kernel) rfl rfl (Nat.le_of_ble_eq_true rfl) dX5_readWord_91 (fun H locs hP hD hS => ?_)
    obtain ⟨K_12, eK_12, h⟩ := tx_lt h
    rw [sRP_ka_f1, eK_12] at hP hD
    obtain rfl := tx_1 h
    exact W.vret hx hb hr (fun t ht hW => ⟨⟨(), rfl, trivial, by rw [ht]; exact hP, hD⟩, hS.F ht⟩) hS.2.2 dX5_readWord_94
set_option maxHeartbeats 4000000 in
set_option maxRecDepth 100000 in
theorem w_X5_readWord_J59 {p : Program} {l : Launch} {e : Env} {s : State} {m : MethodId} {below : List Frame} {meth : Method} {c : Code} {G : va_G} {cA : Nat → ClassId} {A : Nat → Prop} {bA : Nat} {ka : Nat → Nat} {ra : Nat → Nat} {pa : Nat → Nat} {R : Tr} {P : Tr} {L : Lo} {K' : Tr} (F : tF p s m ([.ref (ka 0)] : List Value).toArray meth c G cA A RX5 cX5_readWord 4 none) (hB : tqB bA A s s.heap)  (k2 : Int32 → Tr → Option (Tr)) (hk2 : ∀ (x1 : Int32) (K : Tr) (H : Heap) (locs : List Loc) (ls : Array Slot), k2 x1 K = some K' → va_P G vwCl (wRP cA ka ra pa K R P L) H → va_D A (wRP cA ka ra pa K R P L) → va_S A s.heap H locs → lv_has ls 4 [(0, .ref (ka 0)), (1, .int x1)] → G_X5_readWord p l e s m below meth c G cA A bA ka ra pa R P L K' H locs (F0 m 2 ls [])) (x1 : Int32) (K : Tr) (H : Heap) (locs : List Loc) (ls : Array Slot) (h : fJ_X5_readWord_J59 k2 x1 K = some K') (hP : va_P G vwCl (wRP cA ka ra pa K_21 R P L) H) (hD : va_D A (wRP cA ka ra pa K_21 R P L)) (hS : va_S A s.heap H locs) (hl : lv_has ls 4 [(0, .ref (ka 0)), (1, .int x1)]) : G_X5_readWord p l e s m below meth c G cA A bA ka ra pa R P L K' H locs (F0 m 59 ls []) := by
  obtain ⟨hx, hb, hr, hml, hT, hown, hlocks, hK, hN, hA⟩ := id F
  unfold fJ_X5_readWord_J59 at h
  refine lv_aload_n hx hb dX5_readWord_59 rfl (lv_at hl 0 rfl) ?_
  refine lv_dup hx hb dX5_readWord_60 rfl ?_
  refine va_get (D := G) (ci := 5) (v := .int (K 0 7)) (C := RX5) (T := TX5) (N := 8) hx hb hT ku_5 hown hK hP 0 rfl rfl 7 (by decide) (hT _ kw_14_22) (fun _ h9 => h9) rfl dX5_readWord_61 ?_
  refine lv_iconst (v := 1) hx hb dX5_readWord_64 (by decide) ?_
  refine lv_iadd hx hb dX5_readWord_65 ?_
  refine va_put (D := G) (ci := 5) (v := .int ((K 0 7) + 1)) (ty := .int) (C := RX5) (T := TX5) (N := 8) hx hb hT ku_5 tyX5 tyX5_ok nmX5 hown hK hP hD hS 0 rfl rfl 7 (by decide) (hT _ kw_14_22) (fun _ h9 => h9) rfl (by decide +kernel) rfl rfl (Nat.le_of_ble_eq_true rfl) dX5_readWord_66 (fun H locs hP hD hS => ?_)
  obtain ⟨K_21, eK_21, h⟩ := tx_lt h
  rw [sRP_ka_f7, eK_21] at hP hD
  refine lv_goto (tgt := 2) hx hb dX5_readWord_69 (by decide) ?_
  exact hk2 x1 K_21 H locs ls h hP hD hS (lv_sub hl [0, 1] rfl)
set_option maxHeartbeats 4000000 in
set_option maxRecDepth 100000 in
theorem w_X5_readWord_L2 {p : Program} {l : Launch} {e : Env} {s : State} {m : MethodId} {below : List Frame} {meth : Method} {c : Code} {G : va_G} {cA : Nat → ClassId} {A : Nat → Prop} {bA : Nat} {ka : Nat → Nat} {ra : Nat → Nat} {pa : Nat → Nat} {R : Tr} {P : Tr} {L : Lo} {K' : Tr} (F : tF p s m ([.ref (ka 0)] : List Value).toArray meth c G cA A RX5 cX5_readWord 4 none) (hB : tqB bA A s s.heap)    (N : Nat) : ∀ (x1 : Int32) (K : Tr) (H : Heap) (locs : List Loc) (ls : Array Slot), lpF (fun _ _ => none) (fB_X5_readWord_L2 ) N x1 K = some K' → va_P G vwCl (wRP cA ka ra pa K R P L) H → va_D A (wRP cA ka ra pa K R P L) → va_S A s.heap H locs → lv_has ls 4 [(0, .ref (ka 0)), (1, .int x1)] → G_X5_readWord p l e s m below meth c G cA A bA ka ra pa R P L K' H locs (F0 m 2 ls []) := by
  obtain ⟨hx, hb, hr, hml, hT, hown, hlocks, hK, hN, hA⟩ := id F
  induction N with
  | zero =>
    intro x1 K H locs ls h
    have h : (none : Option (Tr)) = some K' := h
    cases h
  | succ N hk2 =>
    intro x1 K H locs ls h hP hD hS hl
    have h : fB_X5_readWord_L2  (lpF (fun _ _ => none) (fB_X5_readWord_L2 ) N) x1 K = some K' := h
    generalize hk2e : lpF (fun _ _ => none) (fB_X5_readWord_L2 ) N = k2 at h hk2
    unfold fB_X5_readWord_L2 at h
    refine lv_aload_n hx hb dX5_readWord_2 rfl (lv_at hl 0 rfl) ?_
    refine va_get (D := G) (ci := 5) (v := .int (K 0 7)) (C := RX5) (T := TX5) (N := 8) hx hb hT ku_5 hown hK hP 0 rfl rfl 7 (by decide) (hT _ kw_14_22) (fun _ h9 => h9) rfl dX5_readWord_3 ?_
    refine lv_aload_n hx hb dX5_readWord_6 rfl (lv_at hl 0 rfl) ?_
    refine va_get (D := G) (ci := 5) (v := .int (K 0 6)) (C := RX5) (T := TX5) (N := 8) hx hb hT ku_5 hown hK hP 0 rfl rfl 6 (by decide) (hT _ kw_14_21) (fun _ h9 => h9) rfl dX5_readWord_7 ?_
    refine lv_icmp_ge (tgt := 72) hx hb dX5_readWord_10 (by decide) (fun c1 => ?_) (fun c1 => ?_)
    · have h := tx_pos c1 h
      exact w_X5_readWord_J72 F hB x1 K H locs ls h hP hD hS (lv_sub hl [0, 1] rfl)
    · have h := tx_neg c1 h
      refine lv_aload_n hx hb dX5_readWord_13 rfl (lv_at hl 0 rfl) ?_
      refine lv_aload_n hx hb dX5_readWord_14 rfl (lv_at hl 0 rfl) ?_
      refine va_get (D := G) (ci := 5) (v := .int (K 0 7)) (C := RX5) (T := TX5) (N := 8) hx hb hT ku_5 hown hK hP 0 rfl rfl 7 (by decide) (hT _ kw_14_22) (fun _ h9 => h9) rfl dX5_readWord_15 ?_
      obtain ⟨r13, hc14, h⟩ := tx_bd h
      refine tw_ci tw_all hP hD hS hA (va_runV (As := [.int (K 0 7)]) (rest := []) ⟨hx, hb, hml, hown, hT⟩ (c_X5_at l G cA H.size bA ka ra pa K R P L (K 0 7)  r13 hc14) (cwV 1 hT (tq_gV kw_15_5 kw_15_6 kw_15_7 kw_2_22 kw_15_8) rfl rfl rfl (by decide +kernel) ⟨Nat.le_of_ble_eq_true rfl, Nat.le_of_ble_eq_true rfl⟩) ⟨(tw_preB tw_all hP hD hK hN hS hA hB).1, va_recv hK hP (ci := 5) (q0 := 0) rfl rfl, (tw_preB tw_all hP hD hK hN hS hA hB).2⟩ rfl rfl hl.1 rfl (lv_room (Nat.le_of_ble_eq_true rfl)) dX5_readWord_18 ⟨Nat.le_of_ble_eq_true rfl, Nat.le_of_ble_eq_true rfl⟩) (fun _ _ H locs z15 hP hD hS => ?_)
      subst z15
      rw [List.append_nil] at hP hD
      have hP : va_P G vwCl (wRP cA ka ra pa K R P L) H := hP
      have hD : va_D A (wRP cA ka ra pa K R P L) := hD
      obtain ⟨r16, hc17, h⟩ := tx_bd h
      refine tw_ci (tw_none (ws := wRP cA ka ra pa K R P L)) hP hD hS hA (va_runS (As := [.int r13]) (rest := []) ⟨hx, hb, hml, hown, hT⟩ (c_X5_isLetter l G cA H.size r13  r16 hc17) (va_cwS 1 hT (tq_gS kw_15_12 kw_15_13 kw_2_22 kw_15_14) rfl rfl rfl (by decide +kernel) ⟨Nat.le_of_ble_eq_true rfl, Nat.le_of_ble_eq_true rfl⟩) (tw_pre (tw_none (ws := wRP cA ka ra pa K R P L)) hP hD hK hN) rfl rfl hl.1 rfl (lv_room (Nat.le_of_ble_eq_true rfl)) dX5_readWord_21 ⟨Nat.le_of_ble_eq_true rfl, Nat.le_of_ble_eq_true rfl⟩) (fun _ _ H locs z18 hP hD hS => ?_)
      subst z18
      have hP : va_P G vwCl (wRP cA ka ra pa K R P L) H := hP
      have hD : va_D A (wRP cA ka ra pa K R P L) := hD
      refine lv_if_eq (tgt := 72) hx hb dX5_readWord_24 (by decide) (fun c19 => ?_) (fun c19 => ?_)
      · have h := tx_pos c19 h
        exact w_X5_readWord_J72 F hB x1 K H locs ls h hP hD hS (lv_sub hl [0, 1] rfl)
      · have h := tx_neg c19 h
        refine lv_aload_n hx hb dX5_readWord_27 rfl (lv_at hl 0 rfl) ?_
        refine va_get (D := G) (ci := 5) (v := .int (K 0 7)) (C := RX5) (T := TX5) (N := 8) hx hb hT ku_5 hown hK hP 0 rfl rfl 7 (by decide) (hT _ kw_14_22) (fun _ h9 => h9) rfl dX5_readWord_28 ?_
        refine lv_aload_n hx hb dX5_readWord_31 rfl (lv_at hl 0 rfl) ?_
        refine va_get (D := G) (ci := 5) (v := .int (K 0 2)) (C := RX5) (T := TX5) (N := 8) hx hb hT ku_5 hown hK hP 0 rfl rfl 2 (by decide) (hT _ kw_15_3) (fun _ h9 => h9) rfl dX5_readWord_32 ?_
        refine lv_isub hx hb dX5_readWord_35 ?_
        refine lv_bipush (v := 6) hx hb dX5_readWord_36 (by decide) ?_
        refine lv_icmp_ge (tgt := 59) hx hb dX5_readWord_38 (by decide) (fun c20 => ?_) (fun c20 => ?_)
        · have h := tx_pos c20 h
          exact w_X5_readWord_J59 F hB k2 hk2 x1 K H locs ls h hP hD hS (lv_sub hl [0, 1] rfl)
        · have h := tx_neg c20 h
          refine lv_iload_n hx hb dX5_readWord_41 rfl (lv_at hl 1 rfl) ?_
          refine lv_iconst (v := 5) hx hb dX5_readWord_42 (by decide) ?_
          refine lv_ishl hx hb dX5_readWord_43 ?_
          refine lv_aload_n hx hb dX5_readWord_44 rfl (lv_at hl 0 rfl) ?_
          refine lv_aload_n hx hb dX5_readWord_45 rfl (lv_at hl 0 rfl) ?_
          refine va_get (D := G) (ci := 5) (v := .int (K 0 7)) (C := RX5) (T := TX5) (N := 8) hx hb hT ku_5 hown hK hP 0 rfl rfl 7 (by decide) (hT _ kw_14_22) (fun _ h9 => h9) rfl dX5_readWord_46 ?_
          obtain ⟨r22, hc23, h⟩ := tx_bd h
          refine tw_ci tw_all hP hD hS hA (va_runV (As := [.int (K 0 7)]) (rest := [.int (x1 <<< (5 &&& 31))]) ⟨hx, hb, hml, hown, hT⟩ (c_X5_at l G cA H.size bA ka ra pa K R P L (K 0 7)  r22 hc23) (cwV 1 hT (tq_gV kw_15_5 kw_15_6 kw_15_7 kw_2_22 kw_15_8) rfl rfl rfl (by decide +kernel) ⟨Nat.le_of_ble_eq_true rfl, Nat.le_of_ble_eq_true rfl⟩) ⟨(tw_preB tw_all hP hD hK hN hS hA hB).1, va_recv hK hP (ci := 5) (q0 := 0) rfl rfl, (tw_preB tw_all hP hD hK hN hS hA hB).2⟩ rfl rfl hl.1 rfl (lv_room (Nat.le_of_ble_eq_true rfl)) dX5_readWord_49 ⟨Nat.le_of_ble_eq_true rfl, Nat.le_of_ble_eq_true rfl⟩) (fun _ _ H locs z24 hP hD hS => ?_)
          subst z24
          rw [List.append_nil] at hP hD
          have hP : va_P G vwCl (wRP cA ka ra pa K R P L) H := hP
          have hD : va_D A (wRP cA ka ra pa K R P L) := hD
          refine lv_bipush (v := 97) hx hb dX5_readWord_52 (by decide) ?_
          refine lv_isub hx hb dX5_readWord_54 ?_
          refine lv_iconst (v := 1) hx hb dX5_readWord_55 (by decide) ?_
          refine lv_iadd hx hb dX5_readWord_56 ?_
          refine lv_ior hx hb dX5_readWord_57 ?_
          refine lv_topi (fun y25 ey25 => ?_)
          have h := tx_let ey25 h
          refine lv_istore_n (lv' := [(1, .int y25), (0, .ref (ka 0))]) hx hb dX5_readWord_58 rfl hl (by decide) rfl (fun ls hl => ?_)
          exact w_X5_readWord_J59 F hB k2 hk2 y25 K H locs ls h hP hD hS (lv_sub hl [1, 0] rfl)
set_option maxHeartbeats 4000000 in
set_option maxRecDepth 100000 in
theorem c_X5_readWord (l : Launch) (G : va_G) (cA : Nat → ClassId) (sz : Nat) (bA : Nat) (ka : Nat → Nat) (ra : Nat → Nat) (pa : Nat → Nat) (K : Tr) (R : Tr) (P : Tr) (L : Lo)  (K' : Tr) (h : f_X5_readWord K = some K') : Met l yX5_readWord (.code yX5_readWord cX5_readWord 4 none :: T0) ({ frames := 1, cells := 0, slots := 0, locals := 21 } : Room) (tqPB bA G cA [.ref (ka 0)] (wRP cA ka ra pa K R P L) sz) (tqQv G cA (fun (_ : Unit) => True) (fun (_ : Unit) => wRP cA ka ra pa (K') R P L) (va_A (wRP cA ka ra pa K R P L) sz)) 0 0 (va_A (wRP cA ka ra pa K R P L) sz) := by
  refine Met.ofW (cc := cX5_readWord) (maxL := 4) (ret := none) (by decide) rfl ?_
  intro p e s m args below meth c s₁ B hml hv
  obtain ⟨rfl, hsz, hP, hK, hD0, hN, hB⟩ := hv
  have hx := B.exec
  have hb := B.bytes
  have hr := B.returns
  have hts := atoms_spec (ws := .code yX5_readWord cX5_readWord 4 none :: T0) B.pre
  have hT : ∀ w ∈ T0, w.before _ s = true := fun w h => hts w (List.mem_cons_of_mem _ h)
  have hown : s.vm.findClass RX5 = some m.cls := findClass_of_methodNamed B.named
  have hlocks := B.notSynchronized
  subst hsz
  have hD := hD0.self (sz := s.heap.size)
  generalize hAe : va_A (wRP cA ka ra pa K R P L) s.heap.size = A at hD hB ⊢
  have hA : ∀ q : Nat, s.heap.size ≤ q → A q := fun q h => by rw [← hAe]; exact Or.inr h
  have hS : va_S A s.heap s.heap [] := va_S.rf
  have hl := lv_entry ([.ref (ka 0)]) (n := 4) (Nat.le_of_ble_eq_true rfl)
  rw [lg_entry_eq]
  generalize (lg_sl ([.ref (ka 0)]) ++ List.replicate (4 - (lg_sl ([.ref (ka 0)])).length) Slot.unset).toArray = ls at hl ⊢
  have hl : lv_has ls 4 [(0, .ref (ka 0))] := hl
  have F : tF p s m ([.ref (ka 0)] : List Value).toArray meth c G cA A RX5 cX5_readWord 4 none := ⟨hx, hb, hr, hml, hT, hown, hlocks, hK, hN, hA⟩
  obtain ⟨H, hH⟩ : ∃ z, z = s.heap := ⟨_, rfl⟩
  rw [← hH] at hP
  have hS : va_S A s.heap H [] := by rw [hH]; exact hS
  suffices hgo : G_X5_readWord p l e s m below meth c G cA A bA ka ra pa R P L K' H [] (F0 m 0 ls []) by rw [hH] at hgo; exact hgo
  generalize ([] : List Loc) = locs at hS ⊢
  unfold f_X5_readWord at h
  refine lv_iconst (v := 0) hx hb dX5_readWord_0 (by decide) ?_
  refine lv_istore_n (lv' := [(1, .int 0), (0, .ref (ka 0))]) hx hb dX5_readWord_1 rfl hl (by decide) rfl (fun ls hl => ?_)
  exact w_X5_readWord_L2 F hB 2000 0 K H locs ls h hP hD hS (lv_sub hl [1, 0] rfl)
abbrev G_X5_isDigit (p : Program) (l : Launch) (e : Env) (s : State) (m : MethodId) (below : List Frame) (meth : Method) (c : Code) (G : va_G) (cA : Nat → ClassId) (A : Nat → Prop) (x0 : Int32) (r0 : Int32) (H : Heap) (locs : List Loc) (g : JFrame) : Prop := W p l e (headSpec (.code yX5_isDigit cX5_isDigit 1 (some .boolean) :: T0) ({ frames := 0, cells := 0, slots := 0, locals := 0 } : Room)).room s m ([.int x0] : List Value).toArray below meth c H locs 0 0 (MQ below (tqQi G cA (fun (r : Int32) (_ : Unit) => r = r0) (fun (_ : Unit) => ([] : va_W)) A) ([.int x0] : List Value).toArray s 0 0 A) g
set_option maxHeartbeats 4000000 in
set_option maxRecDepth 100000 in
theorem c_X5_isDigit (l : Launch) (G : va_G) (cA : Nat → ClassId) (sz : Nat) (x0 : Int32)  (r0 : Int32) (h : f_X5_isDigit x0 = some r0) : Met l yX5_isDigit (.code yX5_isDigit cX5_isDigit 1 (some .boolean) :: T0) ({ frames := 0, cells := 0, slots := 0, locals := 0 } : Room) (tqP G cA [.int x0] (([] : va_W)) sz) (tqQi G cA (fun (r : Int32) (_ : Unit) => r = r0) (fun (_ : Unit) => ([] : va_W)) (va_A (([] : va_W)) sz)) 0 0 (va_A (([] : va_W)) sz) := by
  refine Met.ofW (cc := cX5_isDigit) (maxL := 1) (ret := (some .boolean)) (by decide) rfl ?_
  intro p e s m args below meth c s₁ B hml hv
  obtain ⟨rfl, hsz, hP, hK, hD0, hN⟩ := hv
  have hx := B.exec
  have hb := B.bytes
  have hr := B.returns
  have hts := atoms_spec (ws := .code yX5_isDigit cX5_isDigit 1 (some .boolean) :: T0) B.pre
  have hT : ∀ w ∈ T0, w.before _ s = true := fun w h => hts w (List.mem_cons_of_mem _ h)
  have hown : s.vm.findClass RX5 = some m.cls := findClass_of_methodNamed B.named
  have hlocks := B.notSynchronized
  subst hsz
  have hD := hD0.self (sz := s.heap.size)
  generalize hAe : va_A (([] : va_W)) s.heap.size = A at hD ⊢
  have hA : ∀ q : Nat, s.heap.size ≤ q → A q := fun q h => by rw [← hAe]; exact Or.inr h
  have hS : va_S A s.heap s.heap [] := va_S.rf
  have hl := lv_entry ([.int x0]) (n := 1) (Nat.le_of_ble_eq_true rfl)
  rw [lg_entry_eq]
  generalize (lg_sl ([.int x0]) ++ List.replicate (1 - (lg_sl ([.int x0])).length) Slot.unset).toArray = ls at hl ⊢
  have hl : lv_has ls 1 [(0, .int x0)] := hl
  have F : tF p s m ([.int x0] : List Value).toArray meth c G cA A RX5 cX5_isDigit 1 (some .boolean) := ⟨hx, hb, hr, hml, hT, hown, hlocks, hK, hN, hA⟩
  obtain ⟨H, hH⟩ : ∃ z, z = s.heap := ⟨_, rfl⟩
  rw [← hH] at hP
  have hS : va_S A s.heap H [] := by rw [hH]; exact hS
  suffices hgo : G_X5_isDigit p l e s m below meth c G cA A x0 r0 H [] (F0 m 0 ls []) by rw [hH] at hgo; exact hgo
  generalize ([] : List Loc) = locs at hS ⊢
  unfold f_X5_isDigit at h
  refine lv_iload_n hx hb dX5_isDigit_0 rfl (lv_at hl 0 rfl) ?_
  refine lv_bipush (v := 48) hx hb dX5_isDigit_1 (by decide) ?_
  refine lv_icmp_lt (tgt := 16) hx hb dX5_isDigit_3 (by decide) (fun c1 => ?_) (fun c1 => ?_)
  · have h := tx_pos c1 h
    refine lv_iconst (v := 0) hx hb dX5_isDigit_16 (by decide) ?_
    obtain rfl := tx_1 h
    exact W.zret (ty := .boolean) hx hb hr rfl (fun t ht hW => ⟨⟨_, (), rfl, rfl, by rw [ht]; exact hP, hD⟩, hS.F ht⟩) hS.2.2 dX5_isDigit_17
  · have h := tx_neg c1 h
    refine lv_iload_n hx hb dX5_isDigit_6 rfl (lv_at hl 0 rfl) ?_
    refine lv_bipush (v := 57) hx hb dX5_isDigit_7 (by decide) ?_
    refine lv_icmp_gt (tgt := 16) hx hb dX5_isDigit_9 (by decide) (fun c2 => ?_) (fun c2 => ?_)
    · have h := tx_pos c2 h
      refine lv_iconst (v := 0) hx hb dX5_isDigit_16 (by decide) ?_
      obtain rfl := tx_1 h
      exact W.zret (ty := .boolean) hx hb hr rfl (fun t ht hW => ⟨⟨_, (), rfl, rfl, by rw [ht]; exact hP, hD⟩, hS.F ht⟩) hS.2.2 dX5_isDigit_17
    · have h := tx_neg c2 h
      refine lv_iconst (v := 1) hx hb dX5_isDigit_12 (by decide) ?_
      refine lv_goto (tgt := 17) hx hb dX5_isDigit_13 (by decide) ?_
      obtain rfl := tx_1 h
      exact W.zret (ty := .boolean) hx hb hr rfl (fun t ht hW => ⟨⟨_, (), rfl, rfl, by rw [ht]; exact hP, hD⟩, hS.F ht⟩) hS.2.2 dX5_isDigit_17
abbrev G_X5_readNumber (p : Program) (l : Launch) (e : Env) (s : State) (m : MethodId) (below : List Frame) (meth : Method) (c : Code) (G : va_G) (cA : Nat → ClassId) (A : Nat → Prop) (bA : Nat) (ka : Nat → Nat) (ra : Nat → Nat) (pa : Nat → Nat) (R : Tr) (P : Tr) (L : Lo) (K' : Tr) (H : Heap) (locs : List Loc) (g : JFrame) : Prop := W p l e (headSpec (.code yX5_readNumber cX5_readNumber 1 none :: T0) ({ frames := 1, cells := 0, slots := 0, locals := 21 } : Room)).room s m ([.ref (ka 0)] : List Value).toArray below meth c H locs 0 0 (MQ below (tqQv G cA (fun (_ : Unit) => True) (fun (_ : Unit) => wRP cA ka ra pa (K') R P L) A) ([.ref (ka 0)] : List Value).toArray s 0 0 A) g
set_option maxHeartbeats 4000000 in
set_option maxRecDepth 100000 in
theorem w_X5_readNumber_J75 {p : Program} {l : Launch} {e : Env} {s : State} {m : MethodId} {below : List Frame} {meth : Method} {c : Code} {G : va_G} {cA : Nat → ClassId} {A : Nat → Prop} {bA : Nat} {ka : Nat → Nat} {ra : Nat → Nat} {pa : Nat → Nat} {R : Tr} {P : Tr} {L : Lo} {K' : Tr} (F : tF p s m ([.ref (ka 0)] : List Value).toArray meth c G cA A RX5 cX5_readNumber 1 none) (hB : tqB bA A s s.heap)    (K : Tr) (H : Heap) (locs : List Loc) (ls : Array Slot) (h : fJ_X5_readNumber_J75 K = some K') (hP : va_P G vwCl (wRP cA ka ra pa K_3 R P L) H) (hD : va_D A (wRP cA ka ra pa K_3 R P L)) (hS : va_S A s.heap H locs) (hl : lv_has ls 1 [(0, .ref (ka 0))]) : G_X5_readNumber p l e s m below meth c G cA A bA ka ra pa R P L K' H locs (F0 m 75 ls []) := by
  obtain ⟨hx, hb, hr, hml, hT, hown, hlocks, hK, hN, hA⟩ := id F
  unfold fJ_X5_readNumber_J75 at h
  refine lv_aload_n hx hb dX5_readNumber_75 rfl (lv_at hl 0 rfl) ?_
  refine lv_bipush (v := 42) hx hb dX5_readNumber_76 (by decide) ?_
  refine va_put (D := G) (ci := 5) (v := .int 42) (ty := .int) (C := RX5) (T := TX5) (N := 8) hx hb hT ku_5 tyX5 tyX5_ok nmX5 hown hK hP hD hS 0 rfl rfl 1 (by decide) (hT _ kw_15_4) (fun _ h9 => h9) rfl (by decide +kernel) rfl rfl (Nat.le_of_ble_eq_true rfl) dX5_readNumber_78 (fun H locs hP hD hS => ?_)
  obtain ⟨K_3, eK_3, h⟩ := tx_lt h
  rw [sRP_ka_f1, eK_3] at hP hD
  obtain rfl := tx_1 h
  exact W.vret hx hb hr (fun t ht hW => ⟨⟨(), rfl, trivial, by rw [ht]; exact hP, hD⟩, hS.F ht⟩) hS.2.2 dX5_readNumber_81
set_option maxHeartbeats 4000000 in
set_option maxRecDepth 100000 in
theorem w_X5_readNumber_J62 {p : Program} {l : Launch} {e : Env} {s : State} {m : MethodId} {below : List Frame} {meth : Method} {c : Code} {G : va_G} {cA : Nat → ClassId} {A : Nat → Prop} {bA : Nat} {ka : Nat → Nat} {ra : Nat → Nat} {pa : Nat → Nat} {R : Tr} {P : Tr} {L : Lo} {K' : Tr} (F : tF p s m ([.ref (ka 0)] : List Value).toArray meth c G cA A RX5 cX5_readNumber 1 none) (hB : tqB bA A s s.heap)  (k5 : Tr → Option (Tr)) (hk5 : ∀ (K : Tr) (H : Heap) (locs : List Loc) (ls : Array Slot), k5 K = some K' → va_P G vwCl (wRP cA ka ra pa K R P L) H → va_D A (wRP cA ka ra pa K R P L) → va_S A s.heap H locs → lv_has ls 1 [(0, .ref (ka 0))] → G_X5_readNumber p l e s m below meth c G cA A bA ka ra pa R P L K' H locs (F0 m 5 ls [])) (K : Tr) (H : Heap) (locs : List Loc) (ls : Array Slot) (h : fJ_X5_readNumber_J62 k5 K = some K') (hP : va_P G vwCl (wRP cA ka ra pa K_12 R P L) H) (hD : va_D A (wRP cA ka ra pa K_12 R P L)) (hS : va_S A s.heap H locs) (hl : lv_has ls 1 [(0, .ref (ka 0))]) : G_X5_readNumber p l e s m below meth c G cA A bA ka ra pa R P L K' H locs (F0 m 62 ls []) := by
  obtain ⟨hx, hb, hr, hml, hT, hown, hlocks, hK, hN, hA⟩ := id F
  unfold fJ_X5_readNumber_J62 at h
  refine lv_aload_n hx hb dX5_readNumber_62 rfl (lv_at hl 0 rfl) ?_
  refine lv_dup hx hb dX5_readNumber_63 rfl ?_
  refine va_get (D := G) (ci := 5) (v := .int (K 0 7)) (C := RX5) (T := TX5) (N := 8) hx hb hT ku_5 hown hK hP 0 rfl rfl 7 (by decide) (hT _ kw_14_22) (fun _ h9 => h9) rfl dX5_readNumber_64 ?_
  refine lv_iconst (v := 1) hx hb dX5_readNumber_67 (by decide) ?_
  refine lv_iadd hx hb dX5_readNumber_68 ?_
  refine va_put (D := G) (ci := 5) (v := .int ((K 0 7) + 1)) (ty := .int) (C := RX5) (T := TX5) (N := 8) hx hb hT ku_5 tyX5 tyX5_ok nmX5 hown hK hP hD hS 0 rfl rfl 7 (by decide) (hT _ kw_14_22) (fun _ h9 => h9) rfl (by decide +kernel) rfl rfl (Nat.le_of_ble_eq_true rfl) dX5_readNumber_69 (fun H locs hP hD hS => ?_)
  obtain ⟨K_12, eK_12, h⟩ := tx_lt h
  rw [sRP_ka_f7, eK_12] at hP hD
  refine lv_goto (tgt := 5) hx hb dX5_readNumber_72 (by decide) ?_
  exact hk5 K_12 H locs ls h hP hD hS (lv_sub hl [0] rfl)
set_option maxHeartbeats 4000000 in
set_option maxRecDepth 100000 in
theorem w_X5_readNumber_L5 {p : Program} {l : Launch} {e : Env} {s : State} {m : MethodId} {below : List Frame} {meth : Method} {c : Code} {G : va_G} {cA : Nat → ClassId} {A : Nat → Prop} {bA : Nat} {ka : Nat → Nat} {ra : Nat → Nat} {pa : Nat → Nat} {R : Tr} {P : Tr} {L : Lo} {K' : Tr} (F : tF p s m ([.ref (ka 0)] : List Value).toArray meth c G cA A RX5 cX5_readNumber 1 none) (hB : tqB bA A s s.heap)    (N : Nat) : ∀ (K : Tr) (H : Heap) (locs : List Loc) (ls : Array Slot), lpF (fun _ => none) (fB_X5_readNumber_L5 ) N K = some K' → va_P G vwCl (wRP cA ka ra pa K R P L) H → va_D A (wRP cA ka ra pa K R P L) → va_S A s.heap H locs → lv_has ls 1 [(0, .ref (ka 0))] → G_X5_readNumber p l e s m below meth c G cA A bA ka ra pa R P L K' H locs (F0 m 5 ls []) := by
  obtain ⟨hx, hb, hr, hml, hT, hown, hlocks, hK, hN, hA⟩ := id F
  induction N with
  | zero =>
    intro K H locs ls h
    have h : (none : Option (Tr)) = some K' := h
    cases h
  | succ N hk5 =>
    intro K H locs ls h hP hD hS hl
    have h : fB_X5_readNumber_L5  (lpF (fun _ => none) (fB_X5_readNumber_L5 ) N) K = some K' := h
    generalize hk5e : lpF (fun _ => none) (fB_X5_readNumber_L5 ) N = k5 at h hk5
    unfold fB_X5_readNumber_L5 at h
    refine lv_aload_n hx hb dX5_readNumber_5 rfl (lv_at hl 0 rfl) ?_
    refine va_get (D := G) (ci := 5) (v := .int (K 0 7)) (C := RX5) (T := TX5) (N := 8) hx hb hT ku_5 hown hK hP 0 rfl rfl 7 (by decide) (hT _ kw_14_22) (fun _ h9 => h9) rfl dX5_readNumber_6 ?_
    refine lv_aload_n hx hb dX5_readNumber_9 rfl (lv_at hl 0 rfl) ?_
    refine va_get (D := G) (ci := 5) (v := .int (K 0 6)) (C := RX5) (T := TX5) (N := 8) hx hb hT ku_5 hown hK hP 0 rfl rfl 6 (by decide) (hT _ kw_14_21) (fun _ h9 => h9) rfl dX5_readNumber_10 ?_
    refine lv_icmp_ge (tgt := 75) hx hb dX5_readNumber_13 (by decide) (fun c2 => ?_) (fun c2 => ?_)
    · have h := tx_pos c2 h
      exact w_X5_readNumber_J75 F hB K H locs ls h hP hD hS (lv_sub hl [0] rfl)
    · have h := tx_neg c2 h
      refine lv_aload_n hx hb dX5_readNumber_16 rfl (lv_at hl 0 rfl) ?_
      refine lv_aload_n hx hb dX5_readNumber_17 rfl (lv_at hl 0 rfl) ?_
      refine va_get (D := G) (ci := 5) (v := .int (K 0 7)) (C := RX5) (T := TX5) (N := 8) hx hb hT ku_5 hown hK hP 0 rfl rfl 7 (by decide) (hT _ kw_14_22) (fun _ h9 => h9) rfl dX5_readNumber_18 ?_
      obtain ⟨r4, hc5, h⟩ := tx_bd h
      refine tw_ci tw_all hP hD hS hA (va_runV (As := [.int (K 0 7)]) (rest := []) ⟨hx, hb, hml, hown, hT⟩ (c_X5_at l G cA H.size bA ka ra pa K R P L (K 0 7)  r4 hc5) (cwV 1 hT (tq_gV kw_15_5 kw_15_6 kw_15_7 kw_2_22 kw_15_8) rfl rfl rfl (by decide +kernel) ⟨Nat.le_of_ble_eq_true rfl, Nat.le_of_ble_eq_true rfl⟩) ⟨(tw_preB tw_all hP hD hK hN hS hA hB).1, va_recv hK hP (ci := 5) (q0 := 0) rfl rfl, (tw_preB tw_all hP hD hK hN hS hA hB).2⟩ rfl rfl hl.1 rfl (lv_room (Nat.le_of_ble_eq_true rfl)) dX5_readNumber_21 ⟨Nat.le_of_ble_eq_true rfl, Nat.le_of_ble_eq_true rfl⟩) (fun _ _ H locs z6 hP hD hS => ?_)
      subst z6
      rw [List.append_nil] at hP hD
      have hP : va_P G vwCl (wRP cA ka ra pa K R P L) H := hP
      have hD : va_D A (wRP cA ka ra pa K R P L) := hD
      obtain ⟨r7, hc8, h⟩ := tx_bd h
      refine tw_ci (tw_none (ws := wRP cA ka ra pa K R P L)) hP hD hS hA (va_runS (As := [.int r4]) (rest := []) ⟨hx, hb, hml, hown, hT⟩ (c_X5_isDigit l G cA H.size r4  r7 hc8) (va_cwS 1 hT (tq_gS kw_15_20 kw_15_21 kw_2_22 kw_15_22) rfl rfl rfl (by decide +kernel) ⟨Nat.le_of_ble_eq_true rfl, Nat.le_of_ble_eq_true rfl⟩) (tw_pre (tw_none (ws := wRP cA ka ra pa K R P L)) hP hD hK hN) rfl rfl hl.1 rfl (lv_room (Nat.le_of_ble_eq_true rfl)) dX5_readNumber_24 ⟨Nat.le_of_ble_eq_true rfl, Nat.le_of_ble_eq_true rfl⟩) (fun _ _ H locs z9 hP hD hS => ?_)
      subst z9
      have hP : va_P G vwCl (wRP cA ka ra pa K R P L) H := hP
      have hD : va_D A (wRP cA ka ra pa K R P L) := hD
      refine lv_if_eq (tgt := 75) hx hb dX5_readNumber_27 (by decide) (fun c10 => ?_) (fun c10 => ?_)
      · have h := tx_pos c10 h
        exact w_X5_readNumber_J75 F hB K H locs ls h hP hD hS (lv_sub hl [0] rfl)
      · have h := tx_neg c10 h
        refine lv_aload_n hx hb dX5_readNumber_30 rfl (lv_at hl 0 rfl) ?_
        refine va_get (D := G) (ci := 5) (v := .int (K 0 3)) (C := RX5) (T := TX5) (N := 8) hx hb hT ku_5 hown hK hP 0 rfl rfl 3 (by decide) (hT _ kw_15_19) (fun _ h9 => h9) rfl dX5_readNumber_31 ?_
        refine lv_ldc (v := 1000000) hx hb hown (hT _ kw_16_3) dX5_readNumber_34 ?_
        refine lv_icmp_ge (tgt := 62) hx hb dX5_readNumber_36 (by decide) (fun c11 => ?_) (fun c11 => ?_)
        · have h := tx_pos c11 h
          exact w_X5_readNumber_J62 F hB k5 hk5 K H locs ls h hP hD hS (lv_sub hl [0] rfl)
        · have h := tx_neg c11 h
          refine lv_aload_n hx hb dX5_readNumber_39 rfl (lv_at hl 0 rfl) ?_
          refine lv_aload_n hx hb dX5_readNumber_40 rfl (lv_at hl 0 rfl) ?_
          refine va_get (D := G) (ci := 5) (v := .int (K 0 3)) (C := RX5) (T := TX5) (N := 8) hx hb hT ku_5 hown hK hP 0 rfl rfl 3 (by decide) (hT _ kw_15_19) (fun _ h9 => h9) rfl dX5_readNumber_41 ?_
          refine lv_bipush (v := 10) hx hb dX5_readNumber_44 (by decide) ?_
          refine lv_imul hx hb dX5_readNumber_46 ?_
          refine lv_aload_n hx hb dX5_readNumber_47 rfl (lv_at hl 0 rfl) ?_
          refine lv_aload_n hx hb dX5_readNumber_48 rfl (lv_at hl 0 rfl) ?_
          refine va_get (D := G) (ci := 5) (v := .int (K 0 7)) (C := RX5) (T := TX5) (N := 8) hx hb hT ku_5 hown hK hP 0 rfl rfl 7 (by decide) (hT _ kw_14_22) (fun _ h9 => h9) rfl dX5_readNumber_49 ?_
          obtain ⟨r13, hc14, h⟩ := tx_bd h
          refine tw_ci tw_all hP hD hS hA (va_runV (As := [.int (K 0 7)]) (rest := [.int ((K 0 3) * 10), .ref (ka 0)]) ⟨hx, hb, hml, hown, hT⟩ (c_X5_at l G cA H.size bA ka ra pa K R P L (K 0 7)  r13 hc14) (cwV 1 hT (tq_gV kw_15_5 kw_15_6 kw_15_7 kw_2_22 kw_15_8) rfl rfl rfl (by decide +kernel) ⟨Nat.le_of_ble_eq_true rfl, Nat.le_of_ble_eq_true rfl⟩) ⟨(tw_preB tw_all hP hD hK hN hS hA hB).1, va_recv hK hP (ci := 5) (q0 := 0) rfl rfl, (tw_preB tw_all hP hD hK hN hS hA hB).2⟩ rfl rfl hl.1 rfl (lv_room (Nat.le_of_ble_eq_true rfl)) dX5_readNumber_52 ⟨Nat.le_of_ble_eq_true rfl, Nat.le_of_ble_eq_true rfl⟩) (fun _ _ H locs z15 hP hD hS => ?_)
          subst z15
          rw [List.append_nil] at hP hD
          have hP : va_P G vwCl (wRP cA ka ra pa K R P L) H := hP
          have hD : va_D A (wRP cA ka ra pa K R P L) := hD
          refine lv_iadd hx hb dX5_readNumber_55 ?_
          refine lv_bipush (v := 48) hx hb dX5_readNumber_56 (by decide) ?_
          refine lv_isub hx hb dX5_readNumber_58 ?_
          refine va_put (D := G) (ci := 5) (v := .int ((((K 0 3) * 10) + r13) - 48)) (ty := .int) (C := RX5) (T := TX5) (N := 8) hx hb hT ku_5 tyX5 tyX5_ok nmX5 hown hK hP hD hS 0 rfl rfl 3 (by decide) (hT _ kw_15_19) (fun _ h9 => h9) rfl (by decide +kernel) rfl rfl (Nat.le_of_ble_eq_true rfl) dX5_readNumber_59 (fun H locs hP hD hS => ?_)
          obtain ⟨K_16, eK_16, h⟩ := tx_lt h
          rw [sRP_ka_f3, eK_16] at hP hD
          exact w_X5_readNumber_J62 F hB k5 hk5 K_16 H locs ls h hP hD hS (lv_sub hl [0] rfl)
set_option maxHeartbeats 4000000 in
set_option maxRecDepth 100000 in
theorem c_X5_readNumber (l : Launch) (G : va_G) (cA : Nat → ClassId) (sz : Nat) (bA : Nat) (ka : Nat → Nat) (ra : Nat → Nat) (pa : Nat → Nat) (K : Tr) (R : Tr) (P : Tr) (L : Lo)  (K' : Tr) (h : f_X5_readNumber K = some K') : Met l yX5_readNumber (.code yX5_readNumber cX5_readNumber 1 none :: T0) ({ frames := 1, cells := 0, slots := 0, locals := 21 } : Room) (tqPB bA G cA [.ref (ka 0)] (wRP cA ka ra pa K R P L) sz) (tqQv G cA (fun (_ : Unit) => True) (fun (_ : Unit) => wRP cA ka ra pa (K') R P L) (va_A (wRP cA ka ra pa K R P L) sz)) 0 0 (va_A (wRP cA ka ra pa K R P L) sz) := by
  refine Met.ofW (cc := cX5_readNumber) (maxL := 1) (ret := none) (by decide) rfl ?_
  intro p e s m args below meth c s₁ B hml hv
  obtain ⟨rfl, hsz, hP, hK, hD0, hN, hB⟩ := hv
  have hx := B.exec
  have hb := B.bytes
  have hr := B.returns
  have hts := atoms_spec (ws := .code yX5_readNumber cX5_readNumber 1 none :: T0) B.pre
  have hT : ∀ w ∈ T0, w.before _ s = true := fun w h => hts w (List.mem_cons_of_mem _ h)
  have hown : s.vm.findClass RX5 = some m.cls := findClass_of_methodNamed B.named
  have hlocks := B.notSynchronized
  subst hsz
  have hD := hD0.self (sz := s.heap.size)
  generalize hAe : va_A (wRP cA ka ra pa K R P L) s.heap.size = A at hD hB ⊢
  have hA : ∀ q : Nat, s.heap.size ≤ q → A q := fun q h => by rw [← hAe]; exact Or.inr h
  have hS : va_S A s.heap s.heap [] := va_S.rf
  have hl := lv_entry ([.ref (ka 0)]) (n := 1) (Nat.le_of_ble_eq_true rfl)
  rw [lg_entry_eq]
  generalize (lg_sl ([.ref (ka 0)]) ++ List.replicate (1 - (lg_sl ([.ref (ka 0)])).length) Slot.unset).toArray = ls at hl ⊢
  have hl : lv_has ls 1 [(0, .ref (ka 0))] := hl
  have F : tF p s m ([.ref (ka 0)] : List Value).toArray meth c G cA A RX5 cX5_readNumber 1 none := ⟨hx, hb, hr, hml, hT, hown, hlocks, hK, hN, hA⟩
  obtain ⟨H, hH⟩ : ∃ z, z = s.heap := ⟨_, rfl⟩
  rw [← hH] at hP
  have hS : va_S A s.heap H [] := by rw [hH]; exact hS
  suffices hgo : G_X5_readNumber p l e s m below meth c G cA A bA ka ra pa R P L K' H [] (F0 m 0 ls []) by rw [hH] at hgo; exact hgo
  generalize ([] : List Loc) = locs at hS ⊢
  unfold f_X5_readNumber at h
  refine lv_aload_n hx hb dX5_readNumber_0 rfl (lv_at hl 0 rfl) ?_
  refine lv_iconst (v := 0) hx hb dX5_readNumber_1 (by decide) ?_
  refine va_put (D := G) (ci := 5) (v := .int 0) (ty := .int) (C := RX5) (T := TX5) (N := 8) hx hb hT ku_5 tyX5 tyX5_ok nmX5 hown hK hP hD hS 0 rfl rfl 3 (by decide) (hT _ kw_15_19) (fun _ h9 => h9) rfl (by decide +kernel) rfl rfl (Nat.le_of_ble_eq_true rfl) dX5_readNumber_2 (fun H locs hP hD hS => ?_)
  obtain ⟨K_1, eK_1, h⟩ := tx_lt h
  rw [sRP_ka_f3, eK_1] at hP hD
  exact w_X5_readNumber_L5 F hB 2000 K_1 H locs ls h hP hD hS (lv_sub hl [0] rfl)
abbrev G_X5_sign (p : Program) (l : Launch) (e : Env) (s : State) (m : MethodId) (below : List Frame) (meth : Method) (c : Code) (G : va_G) (cA : Nat → ClassId) (A : Nat → Prop) (x0 : Int32) (x1 : Int32) (r0 : Int32) (H : Heap) (locs : List Loc) (g : JFrame) : Prop := W p l e (headSpec (.code yX5_sign cX5_sign 2 (some .int) :: T0) ({ frames := 0, cells := 0, slots := 0, locals := 0 } : Room)).room s m ([.int x0, .int x1] : List Value).toArray below meth c H locs 0 0 (MQ below (tqQi G cA (fun (r : Int32) (_ : Unit) => r = r0) (fun (_ : Unit) => ([] : va_W)) A) ([.int x0, .int x1] : List Value).toArray s 0 0 A) g
set_option maxHeartbeats 4000000 in
set_option maxRecDepth 100000 in
theorem c_X5_sign (l : Launch) (G : va_G) (cA : Nat → ClassId) (sz : Nat) (x0 : Int32) (x1 : Int32)  (r0 : Int32) (h : f_X5_sign x0 x1 = some r0) : Met l yX5_sign (.code yX5_sign cX5_sign 2 (some .int) :: T0) ({ frames := 0, cells := 0, slots := 0, locals := 0 } : Room) (tqP G cA [.int x0, .int x1] (([] : va_W)) sz) (tqQi G cA (fun (r : Int32) (_ : Unit) => r = r0) (fun (_ : Unit) => ([] : va_W)) (va_A (([] : va_W)) sz)) 0 0 (va_A (([] : va_W)) sz) := by
  refine Met.ofW (cc := cX5_sign) (maxL := 2) (ret := (some .int)) (by decide) rfl ?_
  intro p e s m args below meth c s₁ B hml hv
  obtain ⟨rfl, hsz, hP, hK, hD0, hN⟩ := hv
  have hx := B.exec
  have hb := B.bytes
  have hr := B.returns
  have hts := atoms_spec (ws := .code yX5_sign cX5_sign 2 (some .int) :: T0) B.pre
  have hT : ∀ w ∈ T0, w.before _ s = true := fun w h => hts w (List.mem_cons_of_mem _ h)
  have hown : s.vm.findClass RX5 = some m.cls := findClass_of_methodNamed B.named
  have hlocks := B.notSynchronized
  subst hsz
  have hD := hD0.self (sz := s.heap.size)
  generalize hAe : va_A (([] : va_W)) s.heap.size = A at hD ⊢
  have hA : ∀ q : Nat, s.heap.size ≤ q → A q := fun q h => by rw [← hAe]; exact Or.inr h
  have hS : va_S A s.heap s.heap [] := va_S.rf
  have hl := lv_entry ([.int x0, .int x1]) (n := 2) (Nat.le_of_ble_eq_true rfl)
  rw [lg_entry_eq]
  generalize (lg_sl ([.int x0, .int x1]) ++ List.replicate (2 - (lg_sl ([.int x0, .int x1])).length) Slot.unset).toArray = ls at hl ⊢
  have hl : lv_has ls 2 [(0, .int x0), (1, .int x1)] := hl
  have F : tF p s m ([.int x0, .int x1] : List Value).toArray meth c G cA A RX5 cX5_sign 2 (some .int) := ⟨hx, hb, hr, hml, hT, hown, hlocks, hK, hN, hA⟩
  obtain ⟨H, hH⟩ : ∃ z, z = s.heap := ⟨_, rfl⟩
  rw [← hH] at hP
  have hS : va_S A s.heap H [] := by rw [hH]; exact hS
  suffices hgo : G_X5_sign p l e s m below meth c G cA A x0 x1 r0 H [] (F0 m 0 ls []) by rw [hH] at hgo; exact hgo
  generalize ([] : List Loc) = locs at hS ⊢
  unfold f_X5_sign at h
  refine lv_iload_n hx hb dX5_sign_0 rfl (lv_at hl 0 rfl) ?_
  by_cases c1 : x0 = 40
  · have h := tx_pos c1 h
    refine lv_tableIn (off := 161) (tgt := 165) hx hb dX5_sign_1 (by rw [c1]; decide) (by rw [c1]; decide) (by rw [c1]; decide) (by decide) ?_
    refine lv_bipush (v := 39) hx hb dX5_sign_162 (by decide) ?_
    obtain rfl := tx_1 h
    exact W.iret hx hb hr (fun t ht hW => ⟨⟨_, (), rfl, rfl, by rw [ht]; exact hP, hD⟩, hS.F ht⟩) hS.2.2 dX5_sign_164
  · have h := tx_neg c1 h
    by_cases c2 : x0 = 41
    · have h := tx_pos c2 h
      refine lv_tableIn (off := 164) (tgt := 168) hx hb dX5_sign_1 (by rw [c2]; decide) (by rw [c2]; decide) (by rw [c2]; decide) (by decide) ?_
      refine lv_bipush (v := 40) hx hb dX5_sign_165 (by decide) ?_
      obtain rfl := tx_1 h
      exact W.iret hx hb hr (fun t ht hW => ⟨⟨_, (), rfl, rfl, by rw [ht]; exact hP, hD⟩, hS.F ht⟩) hS.2.2 dX5_sign_167
    · have h := tx_neg c2 h
      by_cases c3 : x0 = 42
      · have h := tx_pos c3 h
        refine lv_tableIn (off := 155) (tgt := 159) hx hb dX5_sign_1 (by rw [c3]; decide) (by rw [c3]; decide) (by rw [c3]; decide) (by decide) ?_
        refine lv_bipush (v := 37) hx hb dX5_sign_156 (by decide) ?_
        obtain rfl := tx_1 h
        exact W.iret hx hb hr (fun t ht hW => ⟨⟨_, (), rfl, rfl, by rw [ht]; exact hP, hD⟩, hS.F ht⟩) hS.2.2 dX5_sign_158
      · have h := tx_neg c3 h
        by_cases c4 : x0 = 43
        · have h := tx_pos c4 h
          refine lv_tableIn (off := 149) (tgt := 153) hx hb dX5_sign_1 (by rw [c4]; decide) (by rw [c4]; decide) (by rw [c4]; decide) (by decide) ?_
          refine lv_bipush (v := 35) hx hb dX5_sign_150 (by decide) ?_
          obtain rfl := tx_1 h
          exact W.iret hx hb hr (fun t ht hW => ⟨⟨_, (), rfl, rfl, by rw [ht]; exact hP, hD⟩, hS.F ht⟩) hS.2.2 dX5_sign_152
        · have h := tx_neg c4 h
          by_cases c5 : x0 = 45
          · have h := tx_pos c5 h
            refine lv_tableIn (off := 152) (tgt := 156) hx hb dX5_sign_1 (by rw [c5]; decide) (by rw [c5]; decide) (by rw [c5]; decide) (by decide) ?_
            refine lv_bipush (v := 36) hx hb dX5_sign_153 (by decide) ?_
            obtain rfl := tx_1 h
            exact W.iret hx hb hr (fun t ht hW => ⟨⟨_, (), rfl, rfl, by rw [ht]; exact hP, hD⟩, hS.F ht⟩) hS.2.2 dX5_sign_155
          · have h := tx_neg c5 h
            by_cases c6 : x0 = 47
            · have h := tx_pos c6 h
              refine lv_tableIn (off := 158) (tgt := 162) hx hb dX5_sign_1 (by rw [c6]; decide) (by rw [c6]; decide) (by rw [c6]; decide) (by decide) ?_
              refine lv_bipush (v := 38) hx hb dX5_sign_159 (by decide) ?_
              obtain rfl := tx_1 h
              exact W.iret hx hb hr (fun t ht hW => ⟨⟨_, (), rfl, rfl, by rw [ht]; exact hP, hD⟩, hS.F ht⟩) hS.2.2 dX5_sign_161
            · have h := tx_neg c6 h
              by_cases c7 : x0 = 59
              · have h := tx_pos c7 h
                refine lv_tableIn (off := 167) (tgt := 171) hx hb dX5_sign_1 (by rw [c7]; decide) (by rw [c7]; decide) (by rw [c7]; decide) (by decide) ?_
                refine lv_bipush (v := 41) hx hb dX5_sign_168 (by decide) ?_
                obtain rfl := tx_1 h
                exact W.iret hx hb hr (fun t ht hW => ⟨⟨_, (), rfl, rfl, by rw [ht]; exact hP, hD⟩, hS.F ht⟩) hS.2.2 dX5_sign_170
              · have h := tx_neg c7 h
                by_cases c8 : x0 = 60
                · have h := tx_pos c8 h
                  refine lv_tableIn (off := 107) (tgt := 114) hx hb dX5_sign_1 (by rw [c8]; decide) (by rw [c8]; decide) (by rw [c8]; decide) (by decide) ?_
                  refine lv_iload_n hx hb dX5_sign_108 rfl (lv_at hl 1 rfl) ?_
                  refine lv_bipush (v := 61) hx hb dX5_sign_109 (by decide) ?_
                  refine lv_icmp_ne (tgt := 119) hx hb dX5_sign_111 (by decide) (fun c9 => ?_) (fun c9 => ?_)
                  · have h := tx_neg c9 h
                    refine lv_iload_n hx hb dX5_sign_119 rfl (lv_at hl 1 rfl) ?_
                    refine lv_bipush (v := 62) hx hb dX5_sign_120 (by decide) ?_
                    refine lv_icmp_ne (tgt := 130) hx hb dX5_sign_122 (by decide) (fun c10 => ?_) (fun c10 => ?_)
                    · have h := tx_neg c10 h
                      refine lv_bipush (v := 29) hx hb dX5_sign_130 (by decide) ?_
                      obtain rfl := tx_1 h
                      exact W.iret hx hb hr (fun t ht hW => ⟨⟨_, (), rfl, rfl, by rw [ht]; exact hP, hD⟩, hS.F ht⟩) hS.2.2 dX5_sign_132
                    · have h := tx_pos c10 h
                      refine lv_bipush (v := 32) hx hb dX5_sign_125 (by decide) ?_
                      refine lv_goto (tgt := 132) hx hb dX5_sign_127 (by decide) ?_
                      obtain rfl := tx_1 h
                      exact W.iret hx hb hr (fun t ht hW => ⟨⟨_, (), rfl, rfl, by rw [ht]; exact hP, hD⟩, hS.F ht⟩) hS.2.2 dX5_sign_132
                  · have h := tx_pos c9 h
                    refine lv_bipush (v := 30) hx hb dX5_sign_114 (by decide) ?_
                    refine lv_goto (tgt := 132) hx hb dX5_sign_116 (by decide) ?_
                    obtain rfl := tx_1 h
                    exact W.iret hx hb hr (fun t ht hW => ⟨⟨_, (), rfl, rfl, by rw [ht]; exact hP, hD⟩, hS.F ht⟩) hS.2.2 dX5_sign_132
                · have h := tx_neg c8 h
                  by_cases c11 : x0 = 61
                  · have h := tx_pos c11 h
                    refine lv_tableIn (off := 146) (tgt := 150) hx hb dX5_sign_1 (by rw [c11]; decide) (by rw [c11]; decide) (by rw [c11]; decide) (by decide) ?_
                    refine lv_bipush (v := 31) hx hb dX5_sign_147 (by decide) ?_
                    obtain rfl := tx_1 h
                    exact W.iret hx hb hr (fun t ht hW => ⟨⟨_, (), rfl, rfl, by rw [ht]; exact hP, hD⟩, hS.F ht⟩) hS.2.2 dX5_sign_149
                  · have h := tx_neg c11 h
                    by_cases c12 : x0 = 62
                    · have h := tx_pos c12 h
                      refine lv_tableIn (off := 132) (tgt := 139) hx hb dX5_sign_1 (by rw [c12]; decide) (by rw [c12]; decide) (by rw [c12]; decide) (by decide) ?_
                      refine lv_iload_n hx hb dX5_sign_133 rfl (lv_at hl 1 rfl) ?_
                      refine lv_bipush (v := 61) hx hb dX5_sign_134 (by decide) ?_
                      refine lv_icmp_ne (tgt := 144) hx hb dX5_sign_136 (by decide) (fun c13 => ?_) (fun c13 => ?_)
                      · have h := tx_neg c13 h
                        refine lv_bipush (v := 34) hx hb dX5_sign_144 (by decide) ?_
                        obtain rfl := tx_1 h
                        exact W.iret hx hb hr (fun t ht hW => ⟨⟨_, (), rfl, rfl, by rw [ht]; exact hP, hD⟩, hS.F ht⟩) hS.2.2 dX5_sign_146
                      · have h := tx_pos c13 h
                        refine lv_bipush (v := 33) hx hb dX5_sign_139 (by decide) ?_
                        refine lv_goto (tgt := 146) hx hb dX5_sign_141 (by decide) ?_
                        obtain rfl := tx_1 h
                        exact W.iret hx hb hr (fun t ht hW => ⟨⟨_, (), rfl, rfl, by rw [ht]; exact hP, hD⟩, hS.F ht⟩) hS.2.2 dX5_sign_146
                    · have h := tx_neg c12 h
                      have kc1 := tq_eqn (a := x0.toInt) (b := 40) rfl (by decide) c1
                      have kc2 := tq_eqn (a := x0.toInt) (b := 41) rfl (by decide) c2
                      have kc3 := tq_eqn (a := x0.toInt) (b := 42) rfl (by decide) c3
                      have kc4 := tq_eqn (a := x0.toInt) (b := 43) rfl (by decide) c4
                      have kc5 := tq_eqn (a := x0.toInt) (b := 45) rfl (by decide) c5
                      have kc6 := tq_eqn (a := x0.toInt) (b := 47) rfl (by decide) c6
                      have kc7 := tq_eqn (a := x0.toInt) (b := 59) rfl (by decide) c7
                      have kc8 := tq_eqn (a := x0.toInt) (b := 60) rfl (by decide) c8
                      have kc11 := tq_eqn (a := x0.toInt) (b := 61) rfl (by decide) c11
                      have kc12 := tq_eqn (a := x0.toInt) (b := 62) rfl (by decide) c12
                      rcases (show (x0.toInt < 40 ∨ 62 < x0.toInt) ∨ x0.toInt = 44 ∨ x0.toInt = 46 ∨ x0.toInt = 48 ∨ x0.toInt = 49 ∨ x0.toInt = 50 ∨ x0.toInt = 51 ∨ x0.toInt = 52 ∨ x0.toInt = 53 ∨ x0.toInt = 54 ∨ x0.toInt = 55 ∨ x0.toInt = 56 ∨ x0.toInt = 57 ∨ x0.toInt = 58 by omega) with k14 | k14 | k14 | k14 | k14 | k14 | k14 | k14 | k14 | k14 | k14 | k14 | k14 | k14
                      · refine lv_tableOut (tgt := 171) hx hb dX5_sign_1 k14 (by decide) ?_
                        refine lv_bipush (v := 44) hx hb dX5_sign_171 (by decide) ?_
                        obtain rfl := tx_1 h
                        exact W.iret hx hb hr (fun t ht hW => ⟨⟨_, (), rfl, rfl, by rw [ht]; exact hP, hD⟩, hS.F ht⟩) hS.2.2 dX5_sign_173
                      · refine lv_tableIn (off := 170) (tgt := 171) hx hb dX5_sign_1 (by omega) (by omega) (by rw [k14]; rfl) (by decide) ?_
                        refine lv_bipush (v := 44) hx hb dX5_sign_171 (by decide) ?_
                        obtain rfl := tx_1 h
                        exact W.iret hx hb hr (fun t ht hW => ⟨⟨_, (), rfl, rfl, by rw [ht]; exact hP, hD⟩, hS.F ht⟩) hS.2.2 dX5_sign_173
                      · refine lv_tableIn (off := 170) (tgt := 171) hx hb dX5_sign_1 (by omega) (by omega) (by rw [k14]; rfl) (by decide) ?_
                        refine lv_bipush (v := 44) hx hb dX5_sign_171 (by decide) ?_
                        obtain rfl := tx_1 h
                        exact W.iret hx hb hr (fun t ht hW => ⟨⟨_, (), rfl, rfl, by rw [ht]; exact hP, hD⟩, hS.F ht⟩) hS.2.2 dX5_sign_173
                      · refine lv_tableIn (off := 170) (tgt := 171) hx hb dX5_sign_1 (by omega) (by omega) (by rw [k14]; rfl) (by decide) ?_
                        refine lv_bipush (v := 44) hx hb dX5_sign_171 (by decide) ?_
                        obtain rfl := tx_1 h
                        exact W.iret hx hb hr (fun t ht hW => ⟨⟨_, (), rfl, rfl, by rw [ht]; exact hP, hD⟩, hS.F ht⟩) hS.2.2 dX5_sign_173
                      · refine lv_tableIn (off := 170) (tgt := 171) hx hb dX5_sign_1 (by omega) (by omega) (by rw [k14]; rfl) (by decide) ?_
                        refine lv_bipush (v := 44) hx hb dX5_sign_171 (by decide) ?_
                        obtain rfl := tx_1 h
                        exact W.iret hx hb hr (fun t ht hW => ⟨⟨_, (), rfl, rfl, by rw [ht]; exact hP, hD⟩, hS.F ht⟩) hS.2.2 dX5_sign_173
                      · refine lv_tableIn (off := 170) (tgt := 171) hx hb dX5_sign_1 (by omega) (by omega) (by rw [k14]; rfl) (by decide) ?_
                        refine lv_bipush (v := 44) hx hb dX5_sign_171 (by decide) ?_
                        obtain rfl := tx_1 h
                        exact W.iret hx hb hr (fun t ht hW => ⟨⟨_, (), rfl, rfl, by rw [ht]; exact hP, hD⟩, hS.F ht⟩) hS.2.2 dX5_sign_173
                      · refine lv_tableIn (off := 170) (tgt := 171) hx hb dX5_sign_1 (by omega) (by omega) (by rw [k14]; rfl) (by decide) ?_
                        refine lv_bipush (v := 44) hx hb dX5_sign_171 (by decide) ?_
                        obtain rfl := tx_1 h
                        exact W.iret hx hb hr (fun t ht hW => ⟨⟨_, (), rfl, rfl, by rw [ht]; exact hP, hD⟩, hS.F ht⟩) hS.2.2 dX5_sign_173
                      · refine lv_tableIn (off := 170) (tgt := 171) hx hb dX5_sign_1 (by omega) (by omega) (by rw [k14]; rfl) (by decide) ?_
                        refine lv_bipush (v := 44) hx hb dX5_sign_171 (by decide) ?_
                        obtain rfl := tx_1 h
                        exact W.iret hx hb hr (fun t ht hW => ⟨⟨_, (), rfl, rfl, by rw [ht]; exact hP, hD⟩, hS.F ht⟩) hS.2.2 dX5_sign_173
                      · refine lv_tableIn (off := 170) (tgt := 171) hx hb dX5_sign_1 (by omega) (by omega) (by rw [k14]; rfl) (by decide) ?_
                        refine lv_bipush (v := 44) hx hb dX5_sign_171 (by decide) ?_
                        obtain rfl := tx_1 h
                        exact W.iret hx hb hr (fun t ht hW => ⟨⟨_, (), rfl, rfl, by rw [ht]; exact hP, hD⟩, hS.F ht⟩) hS.2.2 dX5_sign_173
                      · refine lv_tableIn (off := 170) (tgt := 171) hx hb dX5_sign_1 (by omega) (by omega) (by rw [k14]; rfl) (by decide) ?_
                        refine lv_bipush (v := 44) hx hb dX5_sign_171 (by decide) ?_
                        obtain rfl := tx_1 h
                        exact W.iret hx hb hr (fun t ht hW => ⟨⟨_, (), rfl, rfl, by rw [ht]; exact hP, hD⟩, hS.F ht⟩) hS.2.2 dX5_sign_173
                      · refine lv_tableIn (off := 170) (tgt := 171) hx hb dX5_sign_1 (by omega) (by omega) (by rw [k14]; rfl) (by decide) ?_
                        refine lv_bipush (v := 44) hx hb dX5_sign_171 (by decide) ?_
                        obtain rfl := tx_1 h
                        exact W.iret hx hb hr (fun t ht hW => ⟨⟨_, (), rfl, rfl, by rw [ht]; exact hP, hD⟩, hS.F ht⟩) hS.2.2 dX5_sign_173
                      · refine lv_tableIn (off := 170) (tgt := 171) hx hb dX5_sign_1 (by omega) (by omega) (by rw [k14]; rfl) (by decide) ?_
                        refine lv_bipush (v := 44) hx hb dX5_sign_171 (by decide) ?_
                        obtain rfl := tx_1 h
                        exact W.iret hx hb hr (fun t ht hW => ⟨⟨_, (), rfl, rfl, by rw [ht]; exact hP, hD⟩, hS.F ht⟩) hS.2.2 dX5_sign_173
                      · refine lv_tableIn (off := 170) (tgt := 171) hx hb dX5_sign_1 (by omega) (by omega) (by rw [k14]; rfl) (by decide) ?_
                        refine lv_bipush (v := 44) hx hb dX5_sign_171 (by decide) ?_
                        obtain rfl := tx_1 h
                        exact W.iret hx hb hr (fun t ht hW => ⟨⟨_, (), rfl, rfl, by rw [ht]; exact hP, hD⟩, hS.F ht⟩) hS.2.2 dX5_sign_173
                      · refine lv_tableIn (off := 170) (tgt := 171) hx hb dX5_sign_1 (by omega) (by omega) (by rw [k14]; rfl) (by decide) ?_
                        refine lv_bipush (v := 44) hx hb dX5_sign_171 (by decide) ?_
                        obtain rfl := tx_1 h
                        exact W.iret hx hb hr (fun t ht hW => ⟨⟨_, (), rfl, rfl, by rw [ht]; exact hP, hD⟩, hS.F ht⟩) hS.2.2 dX5_sign_173
abbrev G_X5_advance (p : Program) (l : Launch) (e : Env) (s : State) (m : MethodId) (below : List Frame) (meth : Method) (c : Code) (G : va_G) (cA : Nat → ClassId) (A : Nat → Prop) (bA : Nat) (ka : Nat → Nat) (ra : Nat → Nat) (pa : Nat → Nat) (R : Tr) (P : Tr) (L : Lo) (K' : Tr) (H : Heap) (locs : List Loc) (g : JFrame) : Prop := W p l e (headSpec (.code yX5_advance cX5_advance 2 none :: T0) ({ frames := 2, cells := 0, slots := 0, locals := 44 } : Room)).room s m ([.ref (ka 0)] : List Value).toArray below meth c H locs 0 0 (MQ below (tqQv G cA (fun (_ : Unit) => True) (fun (_ : Unit) => wRP cA ka ra pa (K') R P L) A) ([.ref (ka 0)] : List Value).toArray s 0 0 A) g
set_option maxHeartbeats 4000000 in
set_option maxRecDepth 100000 in
theorem w_X5_advance_J149 {p : Program} {l : Launch} {e : Env} {s : State} {m : MethodId} {below : List Frame} {meth : Method} {c : Code} {G : va_G} {cA : Nat → ClassId} {A : Nat → Prop} {bA : Nat} {ka : Nat → Nat} {ra : Nat → Nat} {pa : Nat → Nat} {R : Tr} {P : Tr} {L : Lo} {K' : Tr} (F : tF p s m ([.ref (ka 0)] : List Value).toArray meth c G cA A RX5 cX5_advance 2 none) (hB : tqB bA A s s.heap)    (K : Tr) (H : Heap) (locs : List Loc) (ls : Array Slot) (h : fJ_X5_advance_J149 K = some K') (hP : va_P G vwCl (wRP cA ka ra pa K_24 R P L) H) (hD : va_D A (wRP cA ka ra pa K_24 R P L)) (hS : va_S A s.heap H locs) (hl : lv_has ls 2 [(0, .ref (ka 0))]) : G_X5_advance p l e s m below meth c G cA A bA ka ra pa R P L K' H locs (F0 m 149 ls []) := by
  obtain ⟨hx, hb, hr, hml, hT, hown, hlocks, hK, hN, hA⟩ := id F
  unfold fJ_X5_advance_J149 at h
  refine lv_aload_n hx hb dX5_advance_149 rfl (lv_at hl 0 rfl) ?_
  refine lv_dup hx hb dX5_advance_150 rfl ?_
  refine va_get (D := G) (ci := 5) (v := .int (K 0 7)) (C := RX5) (T := TX5) (N := 8) hx hb hT ku_5 hown hK hP 0 rfl rfl 7 (by decide) (hT _ kw_14_22) (fun _ h9 => h9) rfl dX5_advance_151 ?_
  refine lv_iconst (v := 1) hx hb dX5_advance_154 (by decide) ?_
  refine lv_iadd hx hb dX5_advance_155 ?_
  refine va_put (D := G) (ci := 5) (v := .int ((K 0 7) + 1)) (ty := .int) (C := RX5) (T := TX5) (N := 8) hx hb hT ku_5 tyX5 tyX5_ok nmX5 hown hK hP hD hS 0 rfl rfl 7 (by decide) (hT _ kw_14_22) (fun _ h9 => h9) rfl (by decide +kernel) rfl rfl (Nat.le_of_ble_eq_true rfl) dX5_advance_156 (fun H locs hP hD hS => ?_)
  obtain ⟨K_24, eK_24, h⟩ := tx_lt h
  rw [sRP_ka_f7, eK_24] at hP hD
  obtain rfl := tx_1 h
  exact W.vret hx hb hr (fun t ht hW => ⟨⟨(), rfl, trivial, by rw [ht]; exact hP, hD⟩, hS.F ht⟩) hS.2.2 dX5_advance_159
set_option maxHeartbeats 4000000 in
set_option maxRecDepth 100000 in
theorem w_X5_advance_J38 {p : Program} {l : Launch} {e : Env} {s : State} {m : MethodId} {below : List Frame} {meth : Method} {c : Code} {G : va_G} {cA : Nat → ClassId} {A : Nat → Prop} {bA : Nat} {ka : Nat → Nat} {ra : Nat → Nat} {pa : Nat → Nat} {R : Tr} {P : Tr} {L : Lo} {K' : Tr} (F : tF p s m ([.ref (ka 0)] : List Value).toArray meth c G cA A RX5 cX5_advance 2 none) (hB : tqB bA A s s.heap)    (K : Tr) (H : Heap) (locs : List Loc) (ls : Array Slot) (h : fJ_X5_advance_J38 K = some K') (hP : va_P G vwCl (wRP cA ka ra pa K_2 R P L) H) (hD : va_D A (wRP cA ka ra pa K_2 R P L)) (hS : va_S A s.heap H locs) (hl : lv_has ls 2 [(1, .int r3), (0, .ref (ka 0))]) : G_X5_advance p l e s m below meth c G cA A bA ka ra pa R P L K' H locs (F0 m 38 ls []) := by
  obtain ⟨hx, hb, hr, hml, hT, hown, hlocks, hK, hN, hA⟩ := id F
  unfold fJ_X5_advance_J38 at h
  refine lv_aload_n hx hb dX5_advance_38 rfl (lv_at hl 0 rfl) ?_
  refine lv_aload_n hx hb dX5_advance_39 rfl (lv_at hl 0 rfl) ?_
  refine va_get (D := G) (ci := 5) (v := .int (K 0 7)) (C := RX5) (T := TX5) (N := 8) hx hb hT ku_5 hown hK hP 0 rfl rfl 7 (by decide) (hT _ kw_14_22) (fun _ h9 => h9) rfl dX5_advance_40 ?_
  refine va_put (D := G) (ci := 5) (v := .int (K 0 7)) (ty := .int) (C := RX5) (T := TX5) (N := 8) hx hb hT ku_5 tyX5 tyX5_ok nmX5 hown hK hP hD hS 0 rfl rfl 2 (by decide) (hT _ kw_15_3) (fun _ h9 => h9) rfl (by decide +kernel) rfl rfl (Nat.le_of_ble_eq_true rfl) dX5_advance_43 (fun H locs hP hD hS => ?_)
  obtain ⟨K_2, eK_2, h⟩ := tx_lt h
  rw [sRP_ka_f2, eK_2] at hP hD
  refine lv_aload_n hx hb dX5_advance_46 rfl (lv_at hl 0 rfl) ?_
  refine lv_aload_n hx hb dX5_advance_47 rfl (lv_at hl 0 rfl) ?_
  refine va_get (D := G) (ci := 5) (v := .int (K_2 0 7)) (C := RX5) (T := TX5) (N := 8) hx hb hT ku_5 hown hK hP 0 rfl rfl 7 (by decide) (hT _ kw_14_22) (fun _ h9 => h9) rfl dX5_advance_48 ?_
  obtain ⟨r3, hc4, h⟩ := tx_bd h
  refine tw_ci tw_all hP hD hS hA (va_runV (As := [.int (K_2 0 7)]) (rest := []) ⟨hx, hb, hml, hown, hT⟩ (c_X5_at l G cA H.size bA ka ra pa K_2 R P L (K_2 0 7)  r3 hc4) (cwV 1 hT (tq_gV kw_15_5 kw_15_6 kw_15_7 kw_2_22 kw_15_8) rfl rfl rfl (by decide +kernel) ⟨Nat.le_of_ble_eq_true rfl, Nat.le_of_ble_eq_true rfl⟩) ⟨(tw_preB tw_all hP hD hK hN hS hA hB).1, va_recv hK hP (ci := 5) (q0 := 0) rfl rfl, (tw_preB tw_all hP hD hK hN hS hA hB).2⟩ rfl rfl hl.1 rfl (lv_room (Nat.le_of_ble_eq_true rfl)) dX5_advance_51 ⟨Nat.le_of_ble_eq_true rfl, Nat.le_of_ble_eq_true rfl⟩) (fun _ _ H locs z5 hP hD hS => ?_)
  subst z5
  rw [List.append_nil] at hP hD
  have hP : va_P G vwCl (wRP cA ka ra pa K_2 R P L) H := hP
  have hD : va_D A (wRP cA ka ra pa K_2 R P L) := hD
  refine lv_istore_n (lv' := [(1, .int r3), (0, .ref (ka 0))]) hx hb dX5_advance_54 rfl hl (by decide) rfl (fun ls hl => ?_)
  refine lv_iload_n hx hb dX5_advance_55 rfl (lv_at hl 0 rfl) ?_
  refine lv_if_ge (tgt := 68) hx hb dX5_advance_56 (by decide) (fun c6 => ?_) (fun c6 => ?_)
  · have h := tx_pos c6 h
    refine lv_iload_n hx hb dX5_advance_68 rfl (lv_at hl 0 rfl) ?_
    obtain ⟨r7, hc8, h⟩ := tx_bd h
    refine tw_ci (tw_none (ws := wRP cA ka ra pa K_2 R P L)) hP hD hS hA (va_runS (As := [.int r3]) (rest := []) ⟨hx, hb, hml, hown, hT⟩ (c_X5_isLetter l G cA H.size r3  r7 hc8) (va_cwS 1 hT (tq_gS kw_15_12 kw_15_13 kw_2_22 kw_15_14) rfl rfl rfl (by decide +kernel) ⟨Nat.le_of_ble_eq_true rfl, Nat.le_of_ble_eq_true rfl⟩) (tw_pre (tw_none (ws := wRP cA ka ra pa K_2 R P L)) hP hD hK hN) rfl rfl hl.1 rfl (lv_room (Nat.le_of_ble_eq_true rfl)) dX5_advance_69 ⟨Nat.le_of_ble_eq_true rfl, Nat.le_of_ble_eq_true rfl⟩) (fun _ _ H locs z9 hP hD hS => ?_)
    subst z9
    have hP : va_P G vwCl (wRP cA ka ra pa K_2 R P L) H := hP
    have hD : va_D A (wRP cA ka ra pa K_2 R P L) := hD
    refine lv_if_eq (tgt := 82) hx hb dX5_advance_72 (by decide) (fun c10 => ?_) (fun c10 => ?_)
    · have h := tx_pos c10 h
      refine lv_iload_n hx hb dX5_advance_82 rfl (lv_at hl 0 rfl) ?_
      obtain ⟨r11, hc12, h⟩ := tx_bd h
      refine tw_ci (tw_none (ws := wRP cA ka ra pa K_2 R P L)) hP hD hS hA (va_runS (As := [.int r3]) (rest := []) ⟨hx, hb, hml, hown, hT⟩ (c_X5_isDigit l G cA H.size r3  r11 hc12) (va_cwS 1 hT (tq_gS kw_15_20 kw_15_21 kw_2_22 kw_15_22) rfl rfl rfl (by decide +kernel) ⟨Nat.le_of_ble_eq_true rfl, Nat.le_of_ble_eq_true rfl⟩) (tw_pre (tw_none (ws := wRP cA ka ra pa K_2 R P L)) hP hD hK hN) rfl rfl hl.1 rfl (lv_room (Nat.le_of_ble_eq_true rfl)) dX5_advance_83 ⟨Nat.le_of_ble_eq_true rfl, Nat.le_of_ble_eq_true rfl⟩) (fun _ _ H locs z13 hP hD hS => ?_)
      subst z13
      have hP : va_P G vwCl (wRP cA ka ra pa K_2 R P L) H := hP
      have hD : va_D A (wRP cA ka ra pa K_2 R P L) := hD
      refine lv_if_eq (tgt := 96) hx hb dX5_advance_86 (by decide) (fun c14 => ?_) (fun c14 => ?_)
      · have h := tx_pos c14 h
        refine lv_aload_n hx hb dX5_advance_96 rfl (lv_at hl 1 rfl) ?_
        refine lv_dup hx hb dX5_advance_97 rfl ?_
        refine va_get (D := G) (ci := 5) (v := .int (K_2 0 7)) (C := RX5) (T := TX5) (N := 8) hx hb hT ku_5 hown hK hP 0 rfl rfl 7 (by decide) (hT _ kw_14_22) (fun _ h9 => h9) rfl dX5_advance_98 ?_
        refine lv_iconst (v := 1) hx hb dX5_advance_101 (by decide) ?_
        refine lv_iadd hx hb dX5_advance_102 ?_
        refine va_put (D := G) (ci := 5) (v := .int ((K_2 0 7) + 1)) (ty := .int) (C := RX5) (T := TX5) (N := 8) hx hb hT ku_5 tyX5 tyX5_ok nmX5 hown hK hP hD hS 0 rfl rfl 7 (by decide) (hT _ kw_14_22) (fun _ h9 => h9) rfl (by decide +kernel) rfl rfl (Nat.le_of_ble_eq_true rfl) dX5_advance_103 (fun H locs hP hD hS => ?_)
        obtain ⟨K_15, eK_15, h⟩ := tx_lt h
        rw [sRP_ka_f7, eK_15] at hP hD
        refine lv_aload_n hx hb dX5_advance_106 rfl (lv_at hl 1 rfl) ?_
        refine lv_iload_n hx hb dX5_advance_107 rfl (lv_at hl 0 rfl) ?_
        refine lv_aload_n hx hb dX5_advance_108 rfl (lv_at hl 1 rfl) ?_
        refine lv_aload_n hx hb dX5_advance_109 rfl (lv_at hl 1 rfl) ?_
        refine va_get (D := G) (ci := 5) (v := .int (K_15 0 7)) (C := RX5) (T := TX5) (N := 8) hx hb hT ku_5 hown hK hP 0 rfl rfl 7 (by decide) (hT _ kw_14_22) (fun _ h9 => h9) rfl dX5_advance_110 ?_
        obtain ⟨r16, hc17, h⟩ := tx_bd h
        refine tw_ci tw_all hP hD hS hA (va_runV (As := [.int (K_15 0 7)]) (rest := [.int r3, .ref (ka 0)]) ⟨hx, hb, hml, hown, hT⟩ (c_X5_at l G cA H.size bA ka ra pa K_15 R P L (K_15 0 7)  r16 hc17) (cwV 1 hT (tq_gV kw_15_5 kw_15_6 kw_15_7 kw_2_22 kw_15_8) rfl rfl rfl (by decide +kernel) ⟨Nat.le_of_ble_eq_true rfl, Nat.le_of_ble_eq_true rfl⟩) ⟨(tw_preB tw_all hP hD hK hN hS hA hB).1, va_recv hK hP (ci := 5) (q0 := 0) rfl rfl, (tw_preB tw_all hP hD hK hN hS hA hB).2⟩ rfl rfl hl.1 rfl (lv_room (Nat.le_of_ble_eq_true rfl)) dX5_advance_113 ⟨Nat.le_of_ble_eq_true rfl, Nat.le_of_ble_eq_true rfl⟩) (fun _ _ H locs z18 hP hD hS => ?_)
        subst z18
        rw [List.append_nil] at hP hD
        have hP : va_P G vwCl (wRP cA ka ra pa K_15 R P L) H := hP
        have hD : va_D A (wRP cA ka ra pa K_15 R P L) := hD
        obtain ⟨r19, hc20, h⟩ := tx_bd h
        refine tw_ci (tw_none (ws := wRP cA ka ra pa K_15 R P L)) hP hD hS hA (va_runS (As := [.int r3, .int r16]) (rest := [.ref (ka 0)]) ⟨hx, hb, hml, hown, hT⟩ (c_X5_sign l G cA H.size r3 r16  r19 hc20) (va_cwS 2 hT (tq_gS kw_16_4 kw_16_5 kw_2_22 kw_16_6) rfl rfl rfl (by decide +kernel) ⟨Nat.le_of_ble_eq_true rfl, Nat.le_of_ble_eq_true rfl⟩) (tw_pre (tw_none (ws := wRP cA ka ra pa K_15 R P L)) hP hD hK hN) rfl rfl hl.1 rfl (lv_room (Nat.le_of_ble_eq_true rfl)) dX5_advance_116 ⟨Nat.le_of_ble_eq_true rfl, Nat.le_of_ble_eq_true rfl⟩) (fun _ _ H locs z21 hP hD hS => ?_)
        subst z21
        have hP : va_P G vwCl (wRP cA ka ra pa K_15 R P L) H := hP
        have hD : va_D A (wRP cA ka ra pa K_15 R P L) := hD
        refine va_put (D := G) (ci := 5) (v := .int r19) (ty := .int) (C := RX5) (T := TX5) (N := 8) hx hb hT ku_5 tyX5 tyX5_ok nmX5 hown hK hP hD hS 0 rfl rfl 1 (by decide) (hT _ kw_15_4) (fun _ h9 => h9) rfl (by decide +kernel) rfl rfl (Nat.le_of_ble_eq_true rfl) dX5_advance_119 (fun H locs hP hD hS => ?_)
        obtain ⟨K_22, eK_22, h⟩ := tx_lt h
        rw [sRP_ka_f1, eK_22] at hP hD
        refine lv_aload_n hx hb dX5_advance_122 rfl (lv_at hl 1 rfl) ?_
        refine va_get (D := G) (ci := 5) (v := .int (K_22 0 1)) (C := RX5) (T := TX5) (N := 8) hx hb hT ku_5 hown hK hP 0 rfl rfl 1 (by decide) (hT _ kw_15_4) (fun _ h9 => h9) rfl dX5_advance_123 ?_
        refine lv_bipush (v := 30) hx hb dX5_advance_126 (by decide) ?_
        refine lv_icmp_eq (tgt := 149) hx hb dX5_advance_128 (by decide) (fun c23 => ?_) (fun c23 => ?_)
        · have h := tx_pos c23 h
          exact w_X5_advance_J149 F hB K_22 H locs ls h hP hD hS (lv_sub hl [1] rfl)
        · have h := tx_neg c23 h
          refine lv_aload_n hx hb dX5_advance_131 rfl (lv_at hl 1 rfl) ?_
          refine va_get (D := G) (ci := 5) (v := .int (K_22 0 1)) (C := RX5) (T := TX5) (N := 8) hx hb hT ku_5 hown hK hP 0 rfl rfl 1 (by decide) (hT _ kw_15_4) (fun _ h9 => h9) rfl dX5_advance_132 ?_
          refine lv_bipush (v := 32) hx hb dX5_advance_135 (by decide) ?_
          refine lv_icmp_eq (tgt := 149) hx hb dX5_advance_137 (by decide) (fun c25 => ?_) (fun c25 => ?_)
          · have h := tx_pos c25 h
            exact w_X5_advance_J149 F hB K_22 H locs ls h hP hD hS (lv_sub hl [1] rfl)
          · have h := tx_neg c25 h
            refine lv_aload_n hx hb dX5_advance_140 rfl (lv_at hl 1 rfl) ?_
            refine va_get (D := G) (ci := 5) (v := .int (K_22 0 1)) (C := RX5) (T := TX5) (N := 8) hx hb hT ku_5 hown hK hP 0 rfl rfl 1 (by decide) (hT _ kw_15_4) (fun _ h9 => h9) rfl dX5_advance_141 ?_
            refine lv_bipush (v := 33) hx hb dX5_advance_144 (by decide) ?_
            refine lv_icmp_ne (tgt := 159) hx hb dX5_advance_146 (by decide) (fun c26 => ?_) (fun c26 => ?_)
            · have h := tx_neg c26 h
              obtain rfl := tx_1 h
              exact W.vret hx hb hr (fun t ht hW => ⟨⟨(), rfl, trivial, by rw [ht]; exact hP, hD⟩, hS.F ht⟩) hS.2.2 dX5_advance_159
            · have h := tx_pos c26 h
              exact w_X5_advance_J149 F hB K_22 H locs ls h hP hD hS (lv_sub hl [1] rfl)
      · have h := tx_neg c14 h
        refine lv_aload_n hx hb dX5_advance_89 rfl (lv_at hl 1 rfl) ?_
        obtain ⟨K_27, hc28, h⟩ := tx_bd h
        refine tw_cv tw_all hP hD hS hA (va_runV (As := []) (rest := []) ⟨hx, hb, hml, hown, hT⟩ (c_X5_readNumber l G cA H.size bA ka ra pa K_2 R P L  K_27 hc28) (cwV 0 hT (tq_gV kw_15_23 kw_16_0 kw_16_1 kw_2_22 kw_16_2) rfl rfl rfl (by decide +kernel) ⟨Nat.le_of_ble_eq_true rfl, Nat.le_of_ble_eq_true rfl⟩) ⟨(tw_preB tw_all hP hD hK hN hS hA hB).1, va_recv hK hP (ci := 5) (q0 := 0) rfl rfl, (tw_preB tw_all hP hD hK hN hS hA hB).2⟩ rfl rfl hl.1 rfl (lv_room (Nat.le_of_ble_eq_true rfl)) dX5_advance_90 ⟨Nat.le_of_ble_eq_true rfl, Nat.le_of_ble_eq_true rfl⟩) (fun _ H locs z29 hP hD hS => ?_)
        rw [List.append_nil] at hP hD
        have hP : va_P G vwCl (wRP cA ka ra pa K_27 R P L) H := hP
        have hD : va_D A (wRP cA ka ra pa K_27 R P L) := hD
        refine lv_goto (tgt := 159) hx hb dX5_advance_93 (by decide) ?_
        obtain rfl := tx_1 h
        exact W.vret hx hb hr (fun t ht hW => ⟨⟨(), rfl, trivial, by rw [ht]; exact hP, hD⟩, hS.F ht⟩) hS.2.2 dX5_advance_159
    · have h := tx_neg c10 h
      refine lv_aload_n hx hb dX5_advance_75 rfl (lv_at hl 1 rfl) ?_
      obtain ⟨K_30, hc31, h⟩ := tx_bd h
      refine tw_cv tw_all hP hD hS hA (va_runV (As := []) (rest := []) ⟨hx, hb, hml, hown, hT⟩ (c_X5_readWord l G cA H.size bA ka ra pa K_2 R P L  K_30 hc31) (cwV 0 hT (tq_gV kw_15_15 kw_15_16 kw_15_17 kw_2_22 kw_15_18) rfl rfl rfl (by decide +kernel) ⟨Nat.le_of_ble_eq_true rfl, Nat.le_of_ble_eq_true rfl⟩) ⟨(tw_preB tw_all hP hD hK hN hS hA hB).1, va_recv hK hP (ci := 5) (q0 := 0) rfl rfl, (tw_preB tw_all hP hD hK hN hS hA hB).2⟩ rfl rfl hl.1 rfl (lv_room (Nat.le_of_ble_eq_true rfl)) dX5_advance_76 ⟨Nat.le_of_ble_eq_true rfl, Nat.le_of_ble_eq_true rfl⟩) (fun _ H locs z32 hP hD hS => ?_)
      rw [List.append_nil] at hP hD
      have hP : va_P G vwCl (wRP cA ka ra pa K_30 R P L) H := hP
      have hD : va_D A (wRP cA ka ra pa K_30 R P L) := hD
      refine lv_goto (tgt := 159) hx hb dX5_advance_79 (by decide) ?_
      obtain rfl := tx_1 h
      exact W.vret hx hb hr (fun t ht hW => ⟨⟨(), rfl, trivial, by rw [ht]; exact hP, hD⟩, hS.F ht⟩) hS.2.2 dX5_advance_159
  · have h := tx_neg c6 h
    refine lv_aload_n hx hb dX5_advance_59 rfl (lv_at hl 1 rfl) ?_
    refine lv_bipush (v := 45) hx hb dX5_advance_60 (by decide) ?_
    refine va_put (D := G) (ci := 5) (v := .int 45) (ty := .int) (C := RX5) (T := TX5) (N := 8) hx hb hT ku_5 tyX5 tyX5_ok nmX5 hown hK hP hD hS 0 rfl rfl 1 (by decide) (hT _ kw_15_4) (fun _ h9 => h9) rfl (by decide +kernel) rfl rfl (Nat.le_of_ble_eq_true rfl) dX5_advance_62 (fun H locs hP hD hS => ?_)
    obtain ⟨K_33, eK_33, h⟩ := tx_lt h
    rw [sRP_ka_f1, eK_33] at hP hD
    refine lv_goto (tgt := 159) hx hb dX5_advance_65 (by decide) ?_
    obtain rfl := tx_1 h
    exact W.vret hx hb hr (fun t ht hW => ⟨⟨(), rfl, trivial, by rw [ht]; exact hP, hD⟩, hS.F ht⟩) hS.2.2 dX5_advance_159
set_option maxHeartbeats 4000000 in
set_option maxRecDepth 100000 in
theorem w_X5_advance_L0 {p : Program} {l : Launch} {e : Env} {s : State} {m : MethodId} {below : List Frame} {meth : Method} {c : Code} {G : va_G} {cA : Nat → ClassId} {A : Nat → Prop} {bA : Nat} {ka : Nat → Nat} {ra : Nat → Nat} {pa : Nat → Nat} {R : Tr} {P : Tr} {L : Lo} {K' : Tr} (F : tF p s m ([.ref (ka 0)] : List Value).toArray meth c G cA A RX5 cX5_advance 2 none) (hB : tqB bA A s s.heap)    (N : Nat) : ∀ (K : Tr) (H : Heap) (locs : List Loc) (ls : Array Slot), lpF (fun _ => none) (fB_X5_advance_L0 ) N K = some K' → va_P G vwCl (wRP cA ka ra pa K R P L) H → va_D A (wRP cA ka ra pa K R P L) → va_S A s.heap H locs → lv_has ls 2 [(0, .ref (ka 0))] → G_X5_advance p l e s m below meth c G cA A bA ka ra pa R P L K' H locs (F0 m 0 ls []) := by
  obtain ⟨hx, hb, hr, hml, hT, hown, hlocks, hK, hN, hA⟩ := id F
  induction N with
  | zero =>
    intro K H locs ls h
    have h : (none : Option (Tr)) = some K' := h
    cases h
  | succ N hk0 =>
    intro K H locs ls h hP hD hS hl
    have h : fB_X5_advance_L0  (lpF (fun _ => none) (fB_X5_advance_L0 ) N) K = some K' := h
    generalize hk0e : lpF (fun _ => none) (fB_X5_advance_L0 ) N = k0 at h hk0
    unfold fB_X5_advance_L0 at h
    refine lv_aload_n hx hb dX5_advance_0 rfl (lv_at hl 0 rfl) ?_
    refine va_get (D := G) (ci := 5) (v := .int (K 0 7)) (C := RX5) (T := TX5) (N := 8) hx hb hT ku_5 hown hK hP 0 rfl rfl 7 (by decide) (hT _ kw_14_22) (fun _ h9 => h9) rfl dX5_advance_1 ?_
    refine lv_aload_n hx hb dX5_advance_4 rfl (lv_at hl 0 rfl) ?_
    refine va_get (D := G) (ci := 5) (v := .int (K 0 6)) (C := RX5) (T := TX5) (N := 8) hx hb hT ku_5 hown hK hP 0 rfl rfl 6 (by decide) (hT _ kw_14_21) (fun _ h9 => h9) rfl dX5_advance_5 ?_
    refine lv_icmp_ge (tgt := 38) hx hb dX5_advance_8 (by decide) (fun c1 => ?_) (fun c1 => ?_)
    · have h := tx_pos c1 h
      exact w_X5_advance_J38 F hB K H locs ls h hP hD hS (lv_sub hl [0] rfl)
    · have h := tx_neg c1 h
      refine lv_aload_n hx hb dX5_advance_11 rfl (lv_at hl 0 rfl) ?_
      refine lv_aload_n hx hb dX5_advance_12 rfl (lv_at hl 0 rfl) ?_
      refine va_get (D := G) (ci := 5) (v := .int (K 0 7)) (C := RX5) (T := TX5) (N := 8) hx hb hT ku_5 hown hK hP 0 rfl rfl 7 (by decide) (hT _ kw_14_22) (fun _ h9 => h9) rfl dX5_advance_13 ?_
      obtain ⟨r34, hc35, h⟩ := tx_bd h
      refine tw_ci tw_all hP hD hS hA (va_runV (As := [.int (K 0 7)]) (rest := []) ⟨hx, hb, hml, hown, hT⟩ (c_X5_at l G cA H.size bA ka ra pa K R P L (K 0 7)  r34 hc35) (cwV 1 hT (tq_gV kw_15_5 kw_15_6 kw_15_7 kw_2_22 kw_15_8) rfl rfl rfl (by decide +kernel) ⟨Nat.le_of_ble_eq_true rfl, Nat.le_of_ble_eq_true rfl⟩) ⟨(tw_preB tw_all hP hD hK hN hS hA hB).1, va_recv hK hP (ci := 5) (q0 := 0) rfl rfl, (tw_preB tw_all hP hD hK hN hS hA hB).2⟩ rfl rfl hl.1 rfl (lv_room (Nat.le_of_ble_eq_true rfl)) dX5_advance_16 ⟨Nat.le_of_ble_eq_true rfl, Nat.le_of_ble_eq_true rfl⟩) (fun _ _ H locs z36 hP hD hS => ?_)
      subst z36
      rw [List.append_nil] at hP hD
      have hP : va_P G vwCl (wRP cA ka ra pa K R P L) H := hP
      have hD : va_D A (wRP cA ka ra pa K R P L) := hD
      obtain ⟨r37, hc38, h⟩ := tx_bd h
      refine tw_ci (tw_none (ws := wRP cA ka ra pa K R P L)) hP hD hS hA (va_runS (As := [.int r34]) (rest := []) ⟨hx, hb, hml, hown, hT⟩ (c_X5_isBlank l G cA H.size r34  r37 hc38) (va_cwS 1 hT (tq_gS kw_15_9 kw_15_10 kw_2_22 kw_15_11) rfl rfl rfl (by decide +kernel) ⟨Nat.le_of_ble_eq_true rfl, Nat.le_of_ble_eq_true rfl⟩) (tw_pre (tw_none (ws := wRP cA ka ra pa K R P L)) hP hD hK hN) rfl rfl hl.1 rfl (lv_room (Nat.le_of_ble_eq_true rfl)) dX5_advance_19 ⟨Nat.le_of_ble_eq_true rfl, Nat.le_of_ble_eq_true rfl⟩) (fun _ _ H locs z39 hP hD hS => ?_)
      subst z39
      have hP : va_P G vwCl (wRP cA ka ra pa K R P L) H := hP
      have hD : va_D A (wRP cA ka ra pa K R P L) := hD
      refine lv_if_eq (tgt := 38) hx hb dX5_advance_22 (by decide) (fun c40 => ?_) (fun c40 => ?_)
      · have h := tx_pos c40 h
        exact w_X5_advance_J38 F hB K H locs ls h hP hD hS (lv_sub hl [0] rfl)
      · have h := tx_neg c40 h
        refine lv_aload_n hx hb dX5_advance_25 rfl (lv_at hl 0 rfl) ?_
        refine lv_dup hx hb dX5_advance_26 rfl ?_
        refine va_get (D := G) (ci := 5) (v := .int (K 0 7)) (C := RX5) (T := TX5) (N := 8) hx hb hT ku_5 hown hK hP 0 rfl rfl 7 (by decide) (hT _ kw_14_22) (fun _ h9 => h9) rfl dX5_advance_27 ?_
        refine lv_iconst (v := 1) hx hb dX5_advance_30 (by decide) ?_
        refine lv_iadd hx hb dX5_advance_31 ?_
        refine va_put (D := G) (ci := 5) (v := .int ((K 0 7) + 1)) (ty := .int) (C := RX5) (T := TX5) (N := 8) hx hb hT ku_5 tyX5 tyX5_ok nmX5 hown hK hP hD hS 0 rfl rfl 7 (by decide) (hT _ kw_14_22) (fun _ h9 => h9) rfl (by decide +kernel) rfl rfl (Nat.le_of_ble_eq_true rfl) dX5_advance_32 (fun H locs hP hD hS => ?_)
        obtain ⟨K_41, eK_41, h⟩ := tx_lt h
        rw [sRP_ka_f7, eK_41] at hP hD
        refine lv_goto (tgt := 0) hx hb dX5_advance_35 (by decide) ?_
        exact hk0 K_41 H locs ls h hP hD hS (lv_sub hl [0] rfl)
set_option maxHeartbeats 4000000 in
set_option maxRecDepth 100000 in
theorem c_X5_advance (l : Launch) (G : va_G) (cA : Nat → ClassId) (sz : Nat) (bA : Nat) (ka : Nat → Nat) (ra : Nat → Nat) (pa : Nat → Nat) (K : Tr) (R : Tr) (P : Tr) (L : Lo)  (K' : Tr) (h : f_X5_advance K = some K') : Met l yX5_advance (.code yX5_advance cX5_advance 2 none :: T0) ({ frames := 2, cells := 0, slots := 0, locals := 44 } : Room) (tqPB bA G cA [.ref (ka 0)] (wRP cA ka ra pa K R P L) sz) (tqQv G cA (fun (_ : Unit) => True) (fun (_ : Unit) => wRP cA ka ra pa (K') R P L) (va_A (wRP cA ka ra pa K R P L) sz)) 0 0 (va_A (wRP cA ka ra pa K R P L) sz) := by
  refine Met.ofW (cc := cX5_advance) (maxL := 2) (ret := none) (by decide) rfl ?_
  intro p e s m args below meth c s₁ B hml hv
  obtain ⟨rfl, hsz, hP, hK, hD0, hN, hB⟩ := hv
  have hx := B.exec
  have hb := B.bytes
  have hr := B.returns
  have hts := atoms_spec (ws := .code yX5_advance cX5_advance 2 none :: T0) B.pre
  have hT : ∀ w ∈ T0, w.before _ s = true := fun w h => hts w (List.mem_cons_of_mem _ h)
  have hown : s.vm.findClass RX5 = some m.cls := findClass_of_methodNamed B.named
  have hlocks := B.notSynchronized
  subst hsz
  have hD := hD0.self (sz := s.heap.size)
  generalize hAe : va_A (wRP cA ka ra pa K R P L) s.heap.size = A at hD hB ⊢
  have hA : ∀ q : Nat, s.heap.size ≤ q → A q := fun q h => by rw [← hAe]; exact Or.inr h
  have hS : va_S A s.heap s.heap [] := va_S.rf
  have hl := lv_entry ([.ref (ka 0)]) (n := 2) (Nat.le_of_ble_eq_true rfl)
  rw [lg_entry_eq]
  generalize (lg_sl ([.ref (ka 0)]) ++ List.replicate (2 - (lg_sl ([.ref (ka 0)])).length) Slot.unset).toArray = ls at hl ⊢
  have hl : lv_has ls 2 [(0, .ref (ka 0))] := hl
  have F : tF p s m ([.ref (ka 0)] : List Value).toArray meth c G cA A RX5 cX5_advance 2 none := ⟨hx, hb, hr, hml, hT, hown, hlocks, hK, hN, hA⟩
  obtain ⟨H, hH⟩ : ∃ z, z = s.heap := ⟨_, rfl⟩
  rw [← hH] at hP
  have hS : va_S A s.heap H [] := by rw [hH]; exact hS
  suffices hgo : G_X5_advance p l e s m below meth c G cA A bA ka ra pa R P L K' H [] (F0 m 0 ls []) by rw [hH] at hgo; exact hgo
  generalize ([] : List Loc) = locs at hS ⊢
  unfold f_X5_advance at h
  exact w_X5_advance_L0 F hB 2000 K H locs ls h hP hD hS (lv_sub hl [0] rfl)
abbrev G_X5_begin (p : Program) (l : Launch) (e : Env) (s : State) (m : MethodId) (below : List Frame) (meth : Method) (c : Code) (G : va_G) (cA : Nat → ClassId) (A : Nat → Prop) (bA : Nat) (ka : Nat → Nat) (ra : Nat → Nat) (pa : Nat → Nat) (R : Tr) (P : Tr) (L : Lo) (x1 : Int32) (K' : Tr) (H : Heap) (locs : List Loc) (g : JFrame) : Prop := W p l e (headSpec (.code yX5_begin cX5_begin 2 none :: T0) ({ frames := 3, cells := 0, slots := 0, locals := 65 } : Room)).room s m ([.ref (ka 0), .int x1] : List Value).toArray below meth c H locs 0 0 (MQ below (tqQv G cA (fun (_ : Unit) => True) (fun (_ : Unit) => wRP cA ka ra pa (K') R P L) A) ([.ref (ka 0), .int x1] : List Value).toArray s 0 0 A) g
set_option maxHeartbeats 4000000 in
set_option maxRecDepth 100000 in
theorem c_X5_begin (l : Launch) (G : va_G) (cA : Nat → ClassId) (sz : Nat) (bA : Nat) (ka : Nat → Nat) (ra : Nat → Nat) (pa : Nat → Nat) (K : Tr) (R : Tr) (P : Tr) (L : Lo) (x1 : Int32)  (K' : Tr) (h : f_X5_begin K x1 = some K') : Met l yX5_begin (.code yX5_begin cX5_begin 2 none :: T0) ({ frames := 3, cells := 0, slots := 0, locals := 65 } : Room) (tqPB bA G cA [.ref (ka 0), .int x1] (wRP cA ka ra pa K R P L) sz) (tqQv G cA (fun (_ : Unit) => True) (fun (_ : Unit) => wRP cA ka ra pa (K') R P L) (va_A (wRP cA ka ra pa K R P L) sz)) 0 0 (va_A (wRP cA ka ra pa K R P L) sz) := by
  refine Met.ofW (cc := cX5_begin) (maxL := 2) (ret := none) (by decide) rfl ?_
  intro p e s m args below meth c s₁ B hml hv
  obtain ⟨rfl, hsz, hP, hK, hD0, hN, hB⟩ := hv
  have hx := B.exec
  have hb := B.bytes
  have hr := B.returns
  have hts := atoms_spec (ws := .code yX5_begin cX5_begin 2 none :: T0) B.pre
  have hT : ∀ w ∈ T0, w.before _ s = true := fun w h => hts w (List.mem_cons_of_mem _ h)
  have hown : s.vm.findClass RX5 = some m.cls := findClass_of_methodNamed B.named
  have hlocks := B.notSynchronized
  subst hsz
  have hD := hD0.self (sz := s.heap.size)
  generalize hAe : va_A (wRP cA ka ra pa K R P L) s.heap.size = A at hD hB ⊢
  have hA : ∀ q : Nat, s.heap.size ≤ q → A q := fun q h => by rw [← hAe]; exact Or.inr h
  have hS : va_S A s.heap s.heap [] := va_S.rf
  have hl := lv_entry ([.ref (ka 0), .int x1]) (n := 2) (Nat.le_of_ble_eq_true rfl)
  rw [lg_entry_eq]
  generalize (lg_sl ([.ref (ka 0), .int x1]) ++ List.replicate (2 - (lg_sl ([.ref (ka 0), .int x1])).length) Slot.unset).toArray = ls at hl ⊢
  have hl : lv_has ls 2 [(0, .ref (ka 0)), (1, .int x1)] := hl
  have F : tF p s m ([.ref (ka 0), .int x1] : List Value).toArray meth c G cA A RX5 cX5_begin 2 none := ⟨hx, hb, hr, hml, hT, hown, hlocks, hK, hN, hA⟩
  obtain ⟨H, hH⟩ : ∃ z, z = s.heap := ⟨_, rfl⟩
  rw [← hH] at hP
  have hS : va_S A s.heap H [] := by rw [hH]; exact hS
  suffices hgo : G_X5_begin p l e s m below meth c G cA A bA ka ra pa R P L x1 K' H [] (F0 m 0 ls []) by rw [hH] at hgo; exact hgo
  generalize ([] : List Loc) = locs at hS ⊢
  unfold f_X5_begin at h
  refine lv_aload_n hx hb dX5_begin_0 rfl (lv_at hl 0 rfl) ?_
  refine lv_iload_n hx hb dX5_begin_1 rfl (lv_at hl 1 rfl) ?_
  refine va_put (D := G) (ci := 5) (v := .int x1) (ty := .int) (C := RX5) (T := TX5) (N := 8) hx hb hT ku_5 tyX5 tyX5_ok nmX5 hown hK hP hD hS 0 rfl rfl 6 (by decide) (hT _ kw_14_21) (fun _ h9 => h9) rfl (by decide +kernel) rfl rfl (Nat.le_of_ble_eq_true rfl) dX5_begin_2 (fun H locs hP hD hS => ?_)
  obtain ⟨K_1, eK_1, h⟩ := tx_lt h
  rw [sRP_ka_f6, eK_1] at hP hD
  refine lv_aload_n hx hb dX5_begin_5 rfl (lv_at hl 0 rfl) ?_
  refine lv_iconst (v := 0) hx hb dX5_begin_6 (by decide) ?_
  refine va_put (D := G) (ci := 5) (v := .int 0) (ty := .int) (C := RX5) (T := TX5) (N := 8) hx hb hT ku_5 tyX5 tyX5_ok nmX5 hown hK hP hD hS 0 rfl rfl 7 (by decide) (hT _ kw_14_22) (fun _ h9 => h9) rfl (by decide +kernel) rfl rfl (Nat.le_of_ble_eq_true rfl) dX5_begin_7 (fun H locs hP hD hS => ?_)
  obtain ⟨K_2, eK_2, h⟩ := tx_lt h
  rw [sRP_ka_f7, eK_2] at hP hD
  refine lv_aload_n hx hb dX5_begin_10 rfl (lv_at hl 0 rfl) ?_
  obtain ⟨K_3, hc4, h⟩ := tx_bd h
  refine tw_cv tw_all hP hD hS hA (va_runV (As := []) (rest := []) ⟨hx, hb, hml, hown, hT⟩ (c_X5_advance l G cA H.size bA ka ra pa K_2 R P L  K_3 hc4) (cwV 0 hT (tq_gV kw_14_23 kw_15_0 kw_15_1 kw_2_22 kw_15_2) rfl rfl rfl (by decide +kernel) ⟨Nat.le_of_ble_eq_true rfl, Nat.le_of_ble_eq_true rfl⟩) ⟨(tw_preB tw_all hP hD hK hN hS hA hB).1, va_recv hK hP (ci := 5) (q0 := 0) rfl rfl, (tw_preB tw_all hP hD hK hN hS hA hB).2⟩ rfl rfl hl.1 rfl (lv_room (Nat.le_of_ble_eq_true rfl)) dX5_begin_11 ⟨Nat.le_of_ble_eq_true rfl, Nat.le_of_ble_eq_true rfl⟩) (fun _ H locs z5 hP hD hS => ?_)
  rw [List.append_nil] at hP hD
  have hP : va_P G vwCl (wRP cA ka ra pa K_3 R P L) H := hP
  have hD : va_D A (wRP cA ka ra pa K_3 R P L) := hD
  obtain rfl := tx_1 h
  exact W.vret hx hb hr (fun t ht hW => ⟨⟨(), rfl, trivial, by rw [ht]; exact hP, hD⟩, hS.F ht⟩) hS.2.2 dX5_begin_14
abbrev G_X3_expect (p : Program) (l : Launch) (e : Env) (s : State) (m : MethodId) (below : List Frame) (meth : Method) (c : Code) (G : va_G) (cA : Nat → ClassId) (A : Nat → Prop) (bA : Nat) (ka : Nat → Nat) (ra : Nat → Nat) (pa : Nat → Nat) (K : Tr) (P : Tr) (L : Lo) (x1 : Int32) (x2 : Int32) (r0 : Int32) (R' : Tr) (H : Heap) (locs : List Loc) (g : JFrame) : Prop := W p l e (headSpec (.code yX3_expect cX3_expect 3 (some .boolean) :: T0) ({ frames := 0, cells := 0, slots := 0, locals := 0 } : Room)).room s m ([.ref (ra 0), .int x1, .int x2] : List Value).toArray below meth c H locs 0 0 (MQ below (tqQi G cA (fun (r : Int32) (_ : Unit) => r = r0) (fun (_ : Unit) => wRP cA ka ra pa K (R') P L) A) ([.ref (ra 0), .int x1, .int x2] : List Value).toArray s 0 0 A) g
set_option maxHeartbeats 4000000 in
set_option maxRecDepth 100000 in
theorem c_X3_expect (l : Launch) (G : va_G) (cA : Nat → ClassId) (sz : Nat) (bA : Nat) (ka : Nat → Nat) (ra : Nat → Nat) (pa : Nat → Nat) (K : Tr) (R : Tr) (P : Tr) (L : Lo) (x1 : Int32) (x2 : Int32)  (r0 : Int32) (R' : Tr) (h : f_X3_expect K R x1 x2 = some (r0, R')) : Met l yX3_expect (.code yX3_expect cX3_expect 3 (some .boolean) :: T0) ({ frames := 0, cells := 0, slots := 0, locals := 0 } : Room) (tqPB bA G cA [.ref (ra 0), .int x1, .int x2] (wRP cA ka ra pa K R P L) sz) (tqQi G cA (fun (r : Int32) (_ : Unit) => r = r0) (fun (_ : Unit) => wRP cA ka ra pa K (R') P L) (va_A (wRP cA ka ra pa K R P L) sz)) 0 0 (va_A (wRP cA ka ra pa K R P L) sz) := by
  refine Met.ofW (cc := cX3_expect) (maxL := 3) (ret := (some .boolean)) (by decide) rfl ?_
  intro p e s m args below meth c s₁ B hml hv
  obtain ⟨rfl, hsz, hP, hK, hD0, hN, hB⟩ := hv
  have hx := B.exec
  have hb := B.bytes
  have hr := B.returns
  have hts := atoms_spec (ws := .code yX3_expect cX3_expect 3 (some .boolean) :: T0) B.pre
  have hT : ∀ w ∈ T0, w.before _ s = true := fun w h => hts w (List.mem_cons_of_mem _ h)
  have hown : s.vm.findClass RX3 = some m.cls := findClass_of_methodNamed B.named
  have hlocks := B.notSynchronized
  subst hsz
  have hD := hD0.self (sz := s.heap.size)
  generalize hAe : va_A (wRP cA ka ra pa K R P L) s.heap.size = A at hD hB ⊢
  have hA : ∀ q : Nat, s.heap.size ≤ q → A q := fun q h => by rw [← hAe]; exact Or.inr h
  have hS : va_S A s.heap s.heap [] := va_S.rf
  have hl := lv_entry ([.ref (ra 0), .int x1, .int x2]) (n := 3) (Nat.le_of_ble_eq_true rfl)
  rw [lg_entry_eq]
  generalize (lg_sl ([.ref (ra 0), .int x1, .int x2]) ++ List.replicate (3 - (lg_sl ([.ref (ra 0), .int x1, .int x2])).length) Slot.unset).toArray = ls at hl ⊢
  have hl : lv_has ls 3 [(0, .ref (ra 0)), (1, .int x1), (2, .int x2)] := hl
  have F : tF p s m ([.ref (ra 0), .int x1, .int x2] : List Value).toArray meth c G cA A RX3 cX3_expect 3 (some .boolean) := ⟨hx, hb, hr, hml, hT, hown, hlocks, hK, hN, hA⟩
  obtain ⟨H, hH⟩ : ∃ z, z = s.heap := ⟨_, rfl⟩
  rw [← hH] at hP
  have hS : va_S A s.heap H [] := by rw [hH]; exact hS
  suffices hgo : G_X3_expect p l e s m below meth c G cA A bA ka ra pa K P L x1 x2 r0 R' H [] (F0 m 0 ls []) by rw [hH] at hgo; exact hgo
  generalize ([] : List Loc) = locs at hS ⊢
  unfold f_X3_expect at h
  refine lv_iload_n hx hb dX3_expect_0 rfl (lv_at hl 1 rfl) ?_
  refine lv_if_ne (tgt := 20) hx hb dX3_expect_1 (by decide) (fun c1 => ?_) (fun c1 => ?_)
  · have h := tx_neg c1 h
    refine lv_iload_n hx hb dX3_expect_20 rfl (lv_at hl 1 rfl) ?_
    obtain ⟨g2, h⟩ := tx_ck h
    obtain ⟨rfl, rfl⟩ := tx_2 h
    exact W.zret (ty := .boolean) hx hb hr (tx_z g2) (fun t ht hW => ⟨⟨_, (), rfl, rfl, by rw [ht]; exact hP, hD⟩, hS.F ht⟩) hS.2.2 dX3_expect_21
  · have h := tx_pos c1 h
    refine lv_aload_n hx hb dX3_expect_4 rfl (lv_at hl 0 rfl) ?_
    refine lv_iload_n hx hb dX3_expect_5 rfl (lv_at hl 2 rfl) ?_
    refine va_put (D := G) (ci := 3) (v := .int x2) (ty := .int) (C := RX3) (T := TX3) (N := 10) hx hb hT ku_3 tyX3 tyX3_ok nmX3 hown hK hP hD hS 3 rfl rfl 1 (by decide) (hT _ kw_3_0) (fun _ h9 => h9) rfl (by decide +kernel) rfl rfl (Nat.le_of_ble_eq_true rfl) dX3_expect_6 (fun H locs hP hD hS => ?_)
    obtain ⟨R_3, eR_3, h⟩ := tx_lt h
    rw [sRP_ra_f1, eR_3] at hP hD
    refine lv_aload_n hx hb dX3_expect_9 rfl (lv_at hl 0 rfl) ?_
    refine lv_aload_n hx hb dX3_expect_10 rfl (lv_at hl 0 rfl) ?_
    refine va_get (D := G) (ci := 3) (v := .ref (ka 0)) (C := RX3) (T := TX3) (N := 10) hx hb hT ku_3 hown hK hP 3 rfl rfl 0 (by decide) (hT _ kw_2_23) (fun _ h9 => h9) rfl dX3_expect_11 ?_
    refine va_get (D := G) (ci := 5) (v := .int (K 0 2)) (C := RX5) (T := TX5) (N := 8) hx hb hT ku_5 hown hK hP 0 rfl rfl 2 (by decide) (hT _ kw_16_22) (fun _ h9 => h9) rfl dX3_expect_14 ?_
    refine va_put (D := G) (ci := 3) (v := .int (K 0 2)) (ty := .int) (C := RX3) (T := TX3) (N := 10) hx hb hT ku_3 tyX3 tyX3_ok nmX3 hown hK hP hD hS 3 rfl rfl 2 (by decide) (hT _ kw_3_1) (fun _ h9 => h9) rfl (by decide +kernel) rfl rfl (Nat.le_of_ble_eq_true rfl) dX3_expect_17 (fun H locs hP hD hS => ?_)
    obtain ⟨R_4, eR_4, h⟩ := tx_lt h
    rw [sRP_ra_f2, eR_4] at hP hD
    refine lv_iload_n hx hb dX3_expect_20 rfl (lv_at hl 1 rfl) ?_
    obtain ⟨g5, h⟩ := tx_ck h
    obtain ⟨rfl, rfl⟩ := tx_2 h
    exact W.zret (ty := .boolean) hx hb hr (tx_z g5) (fun t ht hW => ⟨⟨_, (), rfl, rfl, by rw [ht]; exact hP, hD⟩, hS.F ht⟩) hS.2.2 dX3_expect_21
abbrev G_X3_openSign (p : Program) (l : Launch) (e : Env) (s : State) (m : MethodId) (below : List Frame) (meth : Method) (c : Code) (G : va_G) (cA : Nat → ClassId) (A : Nat → Prop) (bA : Nat) (ka : Nat → Nat) (ra : Nat → Nat) (pa : Nat → Nat) (K : Tr) (P : Tr) (L : Lo) (x1 : Int32) (r0 : Int32) (R' : Tr) (H : Heap) (locs : List Loc) (g : JFrame) : Prop := W p l e (headSpec (.code yX3_openSign cX3_openSign 2 (some .boolean) :: T0) ({ frames := 0, cells := 0, slots := 0, locals := 0 } : Room)).room s m ([.ref (ra 0), .int x1] : List Value).toArray below meth c H locs 0 0 (MQ below (tqQi G cA (fun (r : Int32) (_ : Unit) => r = r0) (fun (_ : Unit) => wRP cA ka ra pa K (R') P L) A) ([.ref (ra 0), .int x1] : List Value).toArray s 0 0 A) g
set_option maxHeartbeats 4000000 in
set_option maxRecDepth 100000 in
theorem c_X3_openSign (l : Launch) (G : va_G) (cA : Nat → ClassId) (sz : Nat) (bA : Nat) (ka : Nat → Nat) (ra : Nat → Nat) (pa : Nat → Nat) (K : Tr) (R : Tr) (P : Tr) (L : Lo) (x1 : Int32)  (r0 : Int32) (R' : Tr) (h : f_X3_openSign R x1 = some (r0, R')) : Met l yX3_openSign (.code yX3_openSign cX3_openSign 2 (some .boolean) :: T0) ({ frames := 0, cells := 0, slots := 0, locals := 0 } : Room) (tqPB bA G cA [.ref (ra 0), .int x1] (wRP cA ka ra pa K R P L) sz) (tqQi G cA (fun (r : Int32) (_ : Unit) => r = r0) (fun (_ : Unit) => wRP cA ka ra pa K (R') P L) (va_A (wRP cA ka ra pa K R P L) sz)) 0 0 (va_A (wRP cA ka ra pa K R P L) sz) := by
  refine Met.ofW (cc := cX3_openSign) (maxL := 2) (ret := (some .boolean)) (by decide) rfl ?_
  intro p e s m args below meth c s₁ B hml hv
  obtain ⟨rfl, hsz, hP, hK, hD0, hN, hB⟩ := hv
  have hx := B.exec
  have hb := B.bytes
  have hr := B.returns
  have hts := atoms_spec (ws := .code yX3_openSign cX3_openSign 2 (some .boolean) :: T0) B.pre
  have hT : ∀ w ∈ T0, w.before _ s = true := fun w h => hts w (List.mem_cons_of_mem _ h)
  have hown : s.vm.findClass RX3 = some m.cls := findClass_of_methodNamed B.named
  have hlocks := B.notSynchronized
  subst hsz
  have hD := hD0.self (sz := s.heap.size)
  generalize hAe : va_A (wRP cA ka ra pa K R P L) s.heap.size = A at hD hB ⊢
  have hA : ∀ q : Nat, s.heap.size ≤ q → A q := fun q h => by rw [← hAe]; exact Or.inr h
  have hS : va_S A s.heap s.heap [] := va_S.rf
  have hl := lv_entry ([.ref (ra 0), .int x1]) (n := 2) (Nat.le_of_ble_eq_true rfl)
  rw [lg_entry_eq]
  generalize (lg_sl ([.ref (ra 0), .int x1]) ++ List.replicate (2 - (lg_sl ([.ref (ra 0), .int x1])).length) Slot.unset).toArray = ls at hl ⊢
  have hl : lv_has ls 2 [(0, .ref (ra 0)), (1, .int x1)] := hl
  have F : tF p s m ([.ref (ra 0), .int x1] : List Value).toArray meth c G cA A RX3 cX3_openSign 2 (some .boolean) := ⟨hx, hb, hr, hml, hT, hown, hlocks, hK, hN, hA⟩
  obtain ⟨H, hH⟩ : ∃ z, z = s.heap := ⟨_, rfl⟩
  rw [← hH] at hP
  have hS : va_S A s.heap H [] := by rw [hH]; exact hS
  suffices hgo : G_X3_openSign p l e s m below meth c G cA A bA ka ra pa K P L x1 r0 R' H [] (F0 m 0 ls []) by rw [hH] at hgo; exact hgo
  generalize ([] : List Loc) = locs at hS ⊢
  unfold f_X3_openSign at h
  refine lv_aload_n hx hb dX3_openSign_0 rfl (lv_at hl 0 rfl) ?_
  refine va_get (D := G) (ci := 3) (v := .int (R 0 8)) (C := RX3) (T := TX3) (N := 10) hx hb hT ku_3 hown hK hP 3 rfl rfl 8 (by decide) (hT _ kw_20_1) (fun _ h9 => h9) rfl dX3_openSign_1 ?_
  refine lv_aload_n hx hb dX3_openSign_4 rfl (lv_at hl 0 rfl) ?_
  refine va_get (D := G) (ci := 3) (v := .ref (ra 8)) (C := RX3) (T := TX3) (N := 10) hx hb hT ku_3 hown hK hP 3 rfl rfl 7 (by decide) (hT _ kw_3_5) (fun _ h9 => h9) rfl dX3_openSign_5 ?_
  refine va_alen (v := 72) hx hb hK hP 4 0 rfl rfl (by decide) dX3_openSign_8 ?_
  refine lv_icmp_ge (tgt := 32) hx hb dX3_openSign_9 (by decide) (fun c1 => ?_) (fun c1 => ?_)
  · have h := tx_pos c1 h
    refine lv_iconst (v := 1) hx hb dX3_openSign_32 (by decide) ?_
    obtain ⟨rfl, rfl⟩ := tx_2 h
    exact W.zret (ty := .boolean) hx hb hr rfl (fun t ht hW => ⟨⟨_, (), rfl, rfl, by rw [ht]; exact hP, hD⟩, hS.F ht⟩) hS.2.2 dX3_openSign_33
  · have h := tx_neg c1 h
    refine lv_aload_n hx hb dX3_openSign_12 rfl (lv_at hl 0 rfl) ?_
    refine va_get (D := G) (ci := 3) (v := .ref (ra 8)) (C := RX3) (T := TX3) (N := 10) hx hb hT ku_3 hown hK hP 3 rfl rfl 7 (by decide) (hT _ kw_3_5) (fun _ h9 => h9) rfl dX3_openSign_13 ?_
    refine lv_aload_n hx hb dX3_openSign_16 rfl (lv_at hl 0 rfl) ?_
    refine va_get (D := G) (ci := 3) (v := .int (R 0 8)) (C := RX3) (T := TX3) (N := 10) hx hb hT ku_3 hown hK hP 3 rfl rfl 8 (by decide) (hT _ kw_20_1) (fun _ h9 => h9) rfl dX3_openSign_17 ?_
    refine lv_iload_n hx hb dX3_openSign_20 rfl (lv_at hl 1 rfl) ?_
    obtain ⟨g2, h⟩ := tx_ck h
    refine va_iast (i := (R 0 8)) hx hb hK hP hD hS 4 0 rfl rfl (tx_in g2) dX3_openSign_21 (fun H locs hP hD hS => ?_)
    obtain ⟨R_3, eR_3, h⟩ := tx_lt h
    rw [sRP_ra_a7, eR_3] at hP hD
    refine lv_aload_n hx hb dX3_openSign_22 rfl (lv_at hl 0 rfl) ?_
    refine lv_dup hx hb dX3_openSign_23 rfl ?_
    refine va_get (D := G) (ci := 3) (v := .int (R_3 0 8)) (C := RX3) (T := TX3) (N := 10) hx hb hT ku_3 hown hK hP 3 rfl rfl 8 (by decide) (hT _ kw_20_1) (fun _ h9 => h9) rfl dX3_openSign_24 ?_
    refine lv_iconst (v := 1) hx hb dX3_openSign_27 (by decide) ?_
    refine lv_iadd hx hb dX3_openSign_28 ?_
    refine va_put (D := G) (ci := 3) (v := .int ((R_3 0 8) + 1)) (ty := .int) (C := RX3) (T := TX3) (N := 10) hx hb hT ku_3 tyX3 tyX3_ok nmX3 hown hK hP hD hS 3 rfl rfl 8 (by decide) (hT _ kw_20_1) (fun _ h9 => h9) rfl (by decide +kernel) rfl rfl (Nat.le_of_ble_eq_true rfl) dX3_openSign_29 (fun H locs hP hD hS => ?_)
    obtain ⟨R_4, eR_4, h⟩ := tx_lt h
    rw [sRP_ra_f8, eR_4] at hP hD
    refine lv_iconst (v := 1) hx hb dX3_openSign_32 (by decide) ?_
    obtain ⟨rfl, rfl⟩ := tx_2 h
    exact W.zret (ty := .boolean) hx hb hr rfl (fun t ht hW => ⟨⟨_, (), rfl, rfl, by rw [ht]; exact hP, hD⟩, hS.F ht⟩) hS.2.2 dX3_openSign_33
abbrev G_X3_openBracket (p : Program) (l : Launch) (e : Env) (s : State) (m : MethodId) (below : List Frame) (meth : Method) (c : Code) (G : va_G) (cA : Nat → ClassId) (A : Nat → Prop) (bA : Nat) (ka : Nat → Nat) (ra : Nat → Nat) (pa : Nat → Nat) (K : Tr) (P : Tr) (L : Lo) (r0 : Int32) (R' : Tr) (H : Heap) (locs : List Loc) (g : JFrame) : Prop := W p l e (headSpec (.code yX3_openBracket cX3_openBracket 1 (some .boolean) :: T0) ({ frames := 1, cells := 0, slots := 0, locals := 21 } : Room)).room s m ([.ref (ra 0)] : List Value).toArray below meth c H locs 0 0 (MQ below (tqQi G cA (fun (r : Int32) (_ : Unit) => r = r0) (fun (_ : Unit) => wRP cA ka ra pa K (R') P L) A) ([.ref (ra 0)] : List Value).toArray s 0 0 A) g
set_option maxHeartbeats 4000000 in
set_option maxRecDepth 100000 in
theorem c_X3_openBracket (l : Launch) (G : va_G) (cA : Nat → ClassId) (sz : Nat) (bA : Nat) (ka : Nat → Nat) (ra : Nat → Nat) (pa : Nat → Nat) (K : Tr) (R : Tr) (P : Tr) (L : Lo)  (r0 : Int32) (R' : Tr) (h : f_X3_openBracket R = some (r0, R')) : Met l yX3_openBracket (.code yX3_openBracket cX3_openBracket 1 (some .boolean) :: T0) ({ frames := 1, cells := 0, slots := 0, locals := 21 } : Room) (tqPB bA G cA [.ref (ra 0)] (wRP cA ka ra pa K R P L) sz) (tqQi G cA (fun (r : Int32) (_ : Unit) => r = r0) (fun (_ : Unit) => wRP cA ka ra pa K (R') P L) (va_A (wRP cA ka ra pa K R P L) sz)) 0 0 (va_A (wRP cA ka ra pa K R P L) sz) := by
  refine Met.ofW (cc := cX3_openBracket) (maxL := 1) (ret := (some .boolean)) (by decide) rfl ?_
  intro p e s m args below meth c s₁ B hml hv
  obtain ⟨rfl, hsz, hP, hK, hD0, hN, hB⟩ := hv
  have hx := B.exec
  have hb := B.bytes
  have hr := B.returns
  have hts := atoms_spec (ws := .code yX3_openBracket cX3_openBracket 1 (some .boolean) :: T0) B.pre
  have hT : ∀ w ∈ T0, w.before _ s = true := fun w h => hts w (List.mem_cons_of_mem _ h)
  have hown : s.vm.findClass RX3 = some m.cls := findClass_of_methodNamed B.named
  have hlocks := B.notSynchronized
  subst hsz
  have hD := hD0.self (sz := s.heap.size)
  generalize hAe : va_A (wRP cA ka ra pa K R P L) s.heap.size = A at hD hB ⊢
  have hA : ∀ q : Nat, s.heap.size ≤ q → A q := fun q h => by rw [← hAe]; exact Or.inr h
  have hS : va_S A s.heap s.heap [] := va_S.rf
  have hl := lv_entry ([.ref (ra 0)]) (n := 1) (Nat.le_of_ble_eq_true rfl)
  rw [lg_entry_eq]
  generalize (lg_sl ([.ref (ra 0)]) ++ List.replicate (1 - (lg_sl ([.ref (ra 0)])).length) Slot.unset).toArray = ls at hl ⊢
  have hl : lv_has ls 1 [(0, .ref (ra 0))] := hl
  have F : tF p s m ([.ref (ra 0)] : List Value).toArray meth c G cA A RX3 cX3_openBracket 1 (some .boolean) := ⟨hx, hb, hr, hml, hT, hown, hlocks, hK, hN, hA⟩
  obtain ⟨H, hH⟩ : ∃ z, z = s.heap := ⟨_, rfl⟩
  rw [← hH] at hP
  have hS : va_S A s.heap H [] := by rw [hH]; exact hS
  suffices hgo : G_X3_openBracket p l e s m below meth c G cA A bA ka ra pa K P L r0 R' H [] (F0 m 0 ls []) by rw [hH] at hgo; exact hgo
  generalize ([] : List Loc) = locs at hS ⊢
  unfold f_X3_openBracket at h
  refine lv_aload_n hx hb dX3_openBracket_0 rfl (lv_at hl 0 rfl) ?_
  refine lv_dup hx hb dX3_openBracket_1 rfl ?_
  refine va_get (D := G) (ci := 3) (v := .int (R 0 9)) (C := RX3) (T := TX3) (N := 10) hx hb hT ku_3 hown hK hP 3 rfl rfl 9 (by decide) (hT _ kw_20_2) (fun _ h9 => h9) rfl dX3_openBracket_2 ?_
  refine lv_iconst (v := 1) hx hb dX3_openBracket_5 (by decide) ?_
  refine lv_iadd hx hb dX3_openBracket_6 ?_
  refine va_put (D := G) (ci := 3) (v := .int ((R 0 9) + 1)) (ty := .int) (C := RX3) (T := TX3) (N := 10) hx hb hT ku_3 tyX3 tyX3_ok nmX3 hown hK hP hD hS 3 rfl rfl 9 (by decide) (hT _ kw_20_2) (fun _ h9 => h9) rfl (by decide +kernel) rfl rfl (Nat.le_of_ble_eq_true rfl) dX3_openBracket_7 (fun H locs hP hD hS => ?_)
  obtain ⟨R_1, eR_1, h⟩ := tx_lt h
  rw [sRP_ra_f9, eR_1] at hP hD
  refine lv_aload_n hx hb dX3_openBracket_10 rfl (lv_at hl 0 rfl) ?_
  refine lv_bipush (v := 39) hx hb dX3_openBracket_11 (by decide) ?_
  obtain ⟨⟨r2, R_3⟩, hc4, h⟩ := tx_bd h
  replace h := tx_let (y := r2) rfl h
  replace h := tx_let (y := R_3) rfl h
  refine tw_ci tw_all hP hD hS hA (va_runV (As := [.int 39]) (rest := []) ⟨hx, hb, hml, hown, hT⟩ (c_X3_openSign l G cA H.size bA ka ra pa K R_1 P L (39 : Int32)  r2 R_3 hc4) (cwV 1 hT (tq_gV kw_20_11 kw_20_12 kw_20_13 kw_1_15 kw_20_14) rfl rfl rfl (by decide +kernel) ⟨Nat.le_of_ble_eq_true rfl, Nat.le_of_ble_eq_true rfl⟩) ⟨(tw_preB tw_all hP hD hK hN hS hA hB).1, va_recv hK hP (ci := 3) (q0 := 3) rfl rfl, (tw_preB tw_all hP hD hK hN hS hA hB).2⟩ rfl rfl hl.1 rfl (lv_room (Nat.le_of_ble_eq_true rfl)) dX3_openBracket_13 ⟨Nat.le_of_ble_eq_true rfl, Nat.le_of_ble_eq_true rfl⟩) (fun _ _ H locs z5 hP hD hS => ?_)
  subst z5
  rw [List.append_nil] at hP hD
  have hP : va_P G vwCl (wRP cA ka ra pa K R_3 P L) H := hP
  have hD : va_D A (wRP cA ka ra pa K R_3 P L) := hD
  obtain ⟨g6, h⟩ := tx_ck h
  obtain ⟨rfl, rfl⟩ := tx_2 h
  exact W.zret (ty := .boolean) hx hb hr (tx_z g6) (fun t ht hW => ⟨⟨_, (), rfl, rfl, by rw [ht]; exact hP, hD⟩, hS.F ht⟩) hS.2.2 dX3_openBracket_16
abbrev G_X3_latestBinds (p : Program) (l : Launch) (e : Env) (s : State) (m : MethodId) (below : List Frame) (meth : Method) (c : Code) (G : va_G) (cA : Nat → ClassId) (A : Nat → Prop) (bA : Nat) (ka : Nat → Nat) (ra : Nat → Nat) (pa : Nat → Nat) (K : Tr) (R : Tr) (P : Tr) (L : Lo) (r0 : Int32) (H : Heap) (locs : List Loc) (g : JFrame) : Prop := W p l e (headSpec (.code yX3_latestBinds cX3_latestBinds 1 (some .int) :: T0) ({ frames := 0, cells := 0, slots := 0, locals := 0 } : Room)).room s m ([.ref (ra 0)] : List Value).toArray below meth c H locs 0 0 (MQ below (tqQi G cA (fun (r : Int32) (_ : Unit) => r = r0) (fun (_ : Unit) => wRP cA ka ra pa K R P L) A) ([.ref (ra 0)] : List Value).toArray s 0 0 A) g
set_option maxHeartbeats 4000000 in
set_option maxRecDepth 100000 in
theorem c_X3_latestBinds (l : Launch) (G : va_G) (cA : Nat → ClassId) (sz : Nat) (bA : Nat) (ka : Nat → Nat) (ra : Nat → Nat) (pa : Nat → Nat) (K : Tr) (R : Tr) (P : Tr) (L : Lo)  (r0 : Int32) (h : f_X3_latestBinds R = some r0) : Met l yX3_latestBinds (.code yX3_latestBinds cX3_latestBinds 1 (some .int) :: T0) ({ frames := 0, cells := 0, slots := 0, locals := 0 } : Room) (tqPB bA G cA [.ref (ra 0)] (wRP cA ka ra pa K R P L) sz) (tqQi G cA (fun (r : Int32) (_ : Unit) => r = r0) (fun (_ : Unit) => wRP cA ka ra pa K R P L) (va_A (wRP cA ka ra pa K R P L) sz)) 0 0 (va_A (wRP cA ka ra pa K R P L) sz) := by
  refine Met.ofW (cc := cX3_latestBinds) (maxL := 1) (ret := (some .int)) (by decide) rfl ?_
  intro p e s m args below meth c s₁ B hml hv
  obtain ⟨rfl, hsz, hP, hK, hD0, hN, hB⟩ := hv
  have hx := B.exec
  have hb := B.bytes
  have hr := B.returns
  have hts := atoms_spec (ws := .code yX3_latestBinds cX3_latestBinds 1 (some .int) :: T0) B.pre
  have hT : ∀ w ∈ T0, w.before _ s = true := fun w h => hts w (List.mem_cons_of_mem _ h)
  have hown : s.vm.findClass RX3 = some m.cls := findClass_of_methodNamed B.named
  have hlocks := B.notSynchronized
  subst hsz
  have hD := hD0.self (sz := s.heap.size)
  generalize hAe : va_A (wRP cA ka ra pa K R P L) s.heap.size = A at hD hB ⊢
  have hA : ∀ q : Nat, s.heap.size ≤ q → A q := fun q h => by rw [← hAe]; exact Or.inr h
  have hS : va_S A s.heap s.heap [] := va_S.rf
  have hl := lv_entry ([.ref (ra 0)]) (n := 1) (Nat.le_of_ble_eq_true rfl)
  rw [lg_entry_eq]
  generalize (lg_sl ([.ref (ra 0)]) ++ List.replicate (1 - (lg_sl ([.ref (ra 0)])).length) Slot.unset).toArray = ls at hl ⊢
  have hl : lv_has ls 1 [(0, .ref (ra 0))] := hl
  have F : tF p s m ([.ref (ra 0)] : List Value).toArray meth c G cA A RX3 cX3_latestBinds 1 (some .int) := ⟨hx, hb, hr, hml, hT, hown, hlocks, hK, hN, hA⟩
  obtain ⟨H, hH⟩ : ∃ z, z = s.heap := ⟨_, rfl⟩
  rw [← hH] at hP
  have hS : va_S A s.heap H [] := by rw [hH]; exact hS
  suffices hgo : G_X3_latestBinds p l e s m below meth c G cA A bA ka ra pa K R P L r0 H [] (F0 m 0 ls []) by rw [hH] at hgo; exact hgo
  generalize ([] : List Loc) = locs at hS ⊢
  unfold f_X3_latestBinds at h
  refine lv_aload_n hx hb dX3_latestBinds_0 rfl (lv_at hl 0 rfl) ?_
  refine va_get (D := G) (ci := 3) (v := .int (R 0 8)) (C := RX3) (T := TX3) (N := 10) hx hb hT ku_3 hown hK hP 3 rfl rfl 8 (by decide) (hT _ kw_20_1) (fun _ h9 => h9) rfl dX3_latestBinds_1 ?_
  refine lv_if_ne (tgt := 11) hx hb dX3_latestBinds_4 (by decide) (fun c1 => ?_) (fun c1 => ?_)
  · have h := tx_neg c1 h
    refine va_getsN hx hb hB.2.1 hS hown (va_tabs rfl rfl hB.2.2) (fun _ h9 => h9) dX3_latestBinds_11 ?_
    refine lv_aload_n hx hb dX3_latestBinds_14 rfl (lv_at hl 0 rfl) ?_
    refine va_get (D := G) (ci := 3) (v := .ref (ra 8)) (C := RX3) (T := TX3) (N := 10) hx hb hT ku_3 hown hK hP 3 rfl rfl 7 (by decide) (hT _ kw_3_5) (fun _ h9 => h9) rfl dX3_latestBinds_15 ?_
    refine lv_aload_n hx hb dX3_latestBinds_18 rfl (lv_at hl 0 rfl) ?_
    refine va_get (D := G) (ci := 3) (v := .int (R 0 8)) (C := RX3) (T := TX3) (N := 10) hx hb hT ku_3 hown hK hP 3 rfl rfl 8 (by decide) (hT _ kw_20_1) (fun _ h9 => h9) rfl dX3_latestBinds_19 ?_
    refine lv_iconst (v := 1) hx hb dX3_latestBinds_22 (by decide) ?_
    refine lv_isub hx hb dX3_latestBinds_23 ?_
    obtain ⟨g2, h⟩ := tx_ck h
    refine va_iald (i := ((R 0 8) - 1)) hx hb hK hP 4 0 rfl rfl (tx_in g2) dX3_latestBinds_24 ?_
    obtain ⟨g3, h⟩ := tx_ck h
    refine va_ti hx hb hB.1 hS (tx_in g3) rfl dX3_latestBinds_25 ?_
    obtain rfl := tx_1 h
    exact W.iret hx hb hr (fun t ht hW => ⟨⟨_, (), rfl, rfl, by rw [ht]; exact hP, hD⟩, hS.F ht⟩) hS.2.2 dX3_latestBinds_26
  · have h := tx_pos c1 h
    refine lv_iconst (v := (-1)) hx hb dX3_latestBinds_7 (by decide) ?_
    refine lv_goto (tgt := 26) hx hb dX3_latestBinds_8 (by decide) ?_
    obtain rfl := tx_1 h
    exact W.iret hx hb hr (fun t ht hW => ⟨⟨_, (), rfl, rfl, by rw [ht]; exact hP, hD⟩, hS.F ht⟩) hS.2.2 dX3_latestBinds_26
abbrev G_X3_countKnot (p : Program) (l : Launch) (e : Env) (s : State) (m : MethodId) (below : List Frame) (meth : Method) (c : Code) (G : va_G) (cA : Nat → ClassId) (A : Nat → Prop) (bA : Nat) (ka : Nat → Nat) (ra : Nat → Nat) (pa : Nat → Nat) (K : Tr) (L : Lo) (r0 : Int32) (R' : Tr) (P' : Tr) (H : Heap) (locs : List Loc) (g : JFrame) : Prop := W p l e (headSpec (.code yX3_countKnot cX3_countKnot 1 (some .boolean) :: T0) ({ frames := 1, cells := 0, slots := 0, locals := 22 } : Room)).room s m ([.ref (ra 0)] : List Value).toArray below meth c H locs 0 0 (MQ below (tqQi G cA (fun (r : Int32) (_ : Unit) => r = r0) (fun (_ : Unit) => wRP cA ka ra pa K (R') (P') L) A) ([.ref (ra 0)] : List Value).toArray s 0 0 A) g
set_option maxHeartbeats 4000000 in
set_option maxRecDepth 100000 in
theorem w_X3_countKnot_J18 {p : Program} {l : Launch} {e : Env} {s : State} {m : MethodId} {below : List Frame} {meth : Method} {c : Code} {G : va_G} {cA : Nat → ClassId} {A : Nat → Prop} {bA : Nat} {ka : Nat → Nat} {ra : Nat → Nat} {pa : Nat → Nat} {K : Tr} {L : Lo} {r0 : Int32} {R' : Tr} {P' : Tr} (F : tF p s m ([.ref (ra 0)] : List Value).toArray meth c G cA A RX3 cX3_countKnot 1 (some .boolean)) (hB : tqB bA A s s.heap)    (s0 : Int32) (R : Tr) (P : Tr) (H : Heap) (locs : List Loc) (ls : Array Slot) (h : fJ_X3_countKnot_J18 K s0 R P = some (r0, R', P')) (hP : va_P G vwCl (wRP cA ka ra pa K R_3 P L) H) (hD : va_D A (wRP cA ka ra pa K R_3 P L)) (hS : va_S A s.heap H locs) (hl : lv_has ls 1 [(0, .ref (ra 0))]) : G_X3_countKnot p l e s m below meth c G cA A bA ka ra pa K L r0 R' P' H locs (F0 m 18 ls []) := by
  obtain ⟨hx, hb, hr, hml, hT, hown, hlocks, hK, hN, hA⟩ := id F
  unfold fJ_X3_countKnot_J18 at h
  refine lv_iconst (v := 2) hx hb dX3_countKnot_18 (by decide) ?_
  obtain ⟨⟨r2, R_3⟩, hc4, h⟩ := tx_bd h
  replace h := tx_let (y := r2) rfl h
  replace h := tx_let (y := R_3) rfl h
  refine tw_ci tw_all hP hD hS hA (va_runV (As := [.int s0, .int 2]) (rest := []) ⟨hx, hb, hml, hown, hT⟩ (c_X3_expect l G cA H.size bA ka ra pa K R P L s0 (2 : Int32)  r2 R_3 hc4) (cwV 2 hT (tq_gV kw_16_18 kw_16_19 kw_16_20 kw_1_15 kw_16_21) rfl rfl rfl (by decide +kernel) ⟨Nat.le_of_ble_eq_true rfl, Nat.le_of_ble_eq_true rfl⟩) ⟨(tw_preB tw_all hP hD hK hN hS hA hB).1, va_recv hK hP (ci := 3) (q0 := 3) rfl rfl, (tw_preB tw_all hP hD hK hN hS hA hB).2⟩ rfl rfl hl.1 rfl (lv_room (Nat.le_of_ble_eq_true rfl)) dX3_countKnot_19 ⟨Nat.le_of_ble_eq_true rfl, Nat.le_of_ble_eq_true rfl⟩) (fun _ _ H locs z5 hP hD hS => ?_)
  subst z5
  rw [List.append_nil] at hP hD
  have hP : va_P G vwCl (wRP cA ka ra pa K R_3 P L) H := hP
  have hD : va_D A (wRP cA ka ra pa K R_3 P L) := hD
  refine lv_if_ne (tgt := 27) hx hb dX3_countKnot_22 (by decide) (fun c6 => ?_) (fun c6 => ?_)
  · have h := tx_neg c6 h
    refine lv_aload_n hx hb dX3_countKnot_27 rfl (lv_at hl 0 rfl) ?_
    refine va_get (D := G) (ci := 3) (v := .ref (pa 0)) (C := RX3) (T := TX3) (N := 10) hx hb hT ku_3 hown hK hP 3 rfl rfl 4 (by decide) (hT _ kw_3_4) (fun _ h9 => h9) rfl dX3_countKnot_28 ?_
    refine lv_dup hx hb dX3_countKnot_31 rfl ?_
    refine va_get (D := G) (ci := 2) (v := .int (P 0 3)) (C := RX2) (T := TX2) (N := 19) hx hb hT ku_2 hown hK hP 5 rfl rfl 3 (by decide) (hT _ kw_20_23) (fun _ h9 => h9) rfl dX3_countKnot_32 ?_
    refine lv_iconst (v := 1) hx hb dX3_countKnot_35 (by decide) ?_
    refine lv_iadd hx hb dX3_countKnot_36 ?_
    refine va_put (D := G) (ci := 2) (v := .int ((P 0 3) + 1)) (ty := .int) (C := RX2) (T := TX2) (N := 19) hx hb hT ku_2 tyX2 tyX2_ok nmX2 hown hK hP hD hS 5 rfl rfl 3 (by decide) (hT _ kw_20_23) (fun _ h9 => h9) rfl (by decide +kernel) rfl rfl (Nat.le_of_ble_eq_true rfl) dX3_countKnot_37 (fun H locs hP hD hS => ?_)
    obtain ⟨P_7, eP_7, h⟩ := tx_lt h
    rw [sRP_pa_f3, eP_7] at hP hD
    refine lv_iconst (v := 1) hx hb dX3_countKnot_40 (by decide) ?_
    obtain ⟨rfl, rfl, rfl⟩ := tx_3 h
    exact W.zret (ty := .boolean) hx hb hr rfl (fun t ht hW => ⟨⟨_, (), rfl, rfl, by rw [ht]; exact hP, hD⟩, hS.F ht⟩) hS.2.2 dX3_countKnot_41
  · have h := tx_pos c6 h
    refine lv_iconst (v := 0) hx hb dX3_countKnot_25 (by decide) ?_
    obtain ⟨rfl, rfl, rfl⟩ := tx_3 h
    exact W.zret (ty := .boolean) hx hb hr rfl (fun t ht hW => ⟨⟨_, (), rfl, rfl, by rw [ht]; exact hP, hD⟩, hS.F ht⟩) hS.2.2 dX3_countKnot_26
set_option maxHeartbeats 4000000 in
set_option maxRecDepth 100000 in
theorem c_X3_countKnot (l : Launch) (G : va_G) (cA : Nat → ClassId) (sz : Nat) (bA : Nat) (ka : Nat → Nat) (ra : Nat → Nat) (pa : Nat → Nat) (K : Tr) (R : Tr) (P : Tr) (L : Lo)  (r0 : Int32) (R' : Tr) (P' : Tr) (h : f_X3_countKnot K R P = some (r0, R', P')) : Met l yX3_countKnot (.code yX3_countKnot cX3_countKnot 1 (some .boolean) :: T0) ({ frames := 1, cells := 0, slots := 0, locals := 22 } : Room) (tqPB bA G cA [.ref (ra 0)] (wRP cA ka ra pa K R P L) sz) (tqQi G cA (fun (r : Int32) (_ : Unit) => r = r0) (fun (_ : Unit) => wRP cA ka ra pa K (R') (P') L) (va_A (wRP cA ka ra pa K R P L) sz)) 0 0 (va_A (wRP cA ka ra pa K R P L) sz) := by
  refine Met.ofW (cc := cX3_countKnot) (maxL := 1) (ret := (some .boolean)) (by decide) rfl ?_
  intro p e s m args below meth c s₁ B hml hv
  obtain ⟨rfl, hsz, hP, hK, hD0, hN, hB⟩ := hv
  have hx := B.exec
  have hb := B.bytes
  have hr := B.returns
  have hts := atoms_spec (ws := .code yX3_countKnot cX3_countKnot 1 (some .boolean) :: T0) B.pre
  have hT : ∀ w ∈ T0, w.before _ s = true := fun w h => hts w (List.mem_cons_of_mem _ h)
  have hown : s.vm.findClass RX3 = some m.cls := findClass_of_methodNamed B.named
  have hlocks := B.notSynchronized
  subst hsz
  have hD := hD0.self (sz := s.heap.size)
  generalize hAe : va_A (wRP cA ka ra pa K R P L) s.heap.size = A at hD hB ⊢
  have hA : ∀ q : Nat, s.heap.size ≤ q → A q := fun q h => by rw [← hAe]; exact Or.inr h
  have hS : va_S A s.heap s.heap [] := va_S.rf
  have hl := lv_entry ([.ref (ra 0)]) (n := 1) (Nat.le_of_ble_eq_true rfl)
  rw [lg_entry_eq]
  generalize (lg_sl ([.ref (ra 0)]) ++ List.replicate (1 - (lg_sl ([.ref (ra 0)])).length) Slot.unset).toArray = ls at hl ⊢
  have hl : lv_has ls 1 [(0, .ref (ra 0))] := hl
  have F : tF p s m ([.ref (ra 0)] : List Value).toArray meth c G cA A RX3 cX3_countKnot 1 (some .boolean) := ⟨hx, hb, hr, hml, hT, hown, hlocks, hK, hN, hA⟩
  obtain ⟨H, hH⟩ : ∃ z, z = s.heap := ⟨_, rfl⟩
  rw [← hH] at hP
  have hS : va_S A s.heap H [] := by rw [hH]; exact hS
  suffices hgo : G_X3_countKnot p l e s m below meth c G cA A bA ka ra pa K L r0 R' P' H [] (F0 m 0 ls []) by rw [hH] at hgo; exact hgo
  generalize ([] : List Loc) = locs at hS ⊢
  unfold f_X3_countKnot at h
  refine lv_aload_n hx hb dX3_countKnot_0 rfl (lv_at hl 0 rfl) ?_
  refine lv_aload_n hx hb dX3_countKnot_1 rfl (lv_at hl 0 rfl) ?_
  refine va_get (D := G) (ci := 3) (v := .ref (pa 0)) (C := RX3) (T := TX3) (N := 10) hx hb hT ku_3 hown hK hP 3 rfl rfl 4 (by decide) (hT _ kw_3_4) (fun _ h9 => h9) rfl dX3_countKnot_2 ?_
  refine va_get (D := G) (ci := 2) (v := .int (P 0 3)) (C := RX2) (T := TX2) (N := 19) hx hb hT ku_2 hown hK hP 5 rfl rfl 3 (by decide) (hT _ kw_20_23) (fun _ h9 => h9) rfl dX3_countKnot_5 ?_
  refine lv_bipush (v := 64) hx hb dX3_countKnot_8 (by decide) ?_
  refine lv_icmp_ge (tgt := 17) hx hb dX3_countKnot_10 (by decide) (fun c1 => ?_) (fun c1 => ?_)
  · have h := tx_pos c1 h
    refine lv_iconst (v := 0) hx hb dX3_countKnot_17 (by decide) ?_
    exact w_X3_countKnot_J18 F hB 0 R P H locs ls h hP hD hS (lv_sub hl [0] rfl)
  · have h := tx_neg c1 h
    refine lv_iconst (v := 1) hx hb dX3_countKnot_13 (by decide) ?_
    refine lv_goto (tgt := 18) hx hb dX3_countKnot_14 (by decide) ?_
    exact w_X3_countKnot_J18 F hB 1 R P H locs ls h hP hD hS (lv_sub hl [0] rfl)
abbrev G_X1_append (p : Program) (l : Launch) (e : Env) (s : State) (m : MethodId) (below : List Frame) (meth : Method) (c : Code) (G : va_G) (cA : Nat → ClassId) (A : Nat → Prop) (bA : Nat) (ka : Nat → Nat) (ra : Nat → Nat) (pa : Nat → Nat) (j : Nat) (K : Tr) (R : Tr) (L : Lo) (x1 : Int32) (P' : Tr) (H : Heap) (locs : List Loc) (g : JFrame) : Prop := W p l e (headSpec (.code yX1_append cX1_append 2 none :: T0) ({ frames := 0, cells := 0, slots := 0, locals := 0 } : Room)).room s m ([.ref (pa (30 + 3 * j)), .int x1] : List Value).toArray below meth c H locs 0 0 (MQ below (tqQv G cA (fun (_ : Unit) => True) (fun (_ : Unit) => wRP cA ka ra pa K R (P') L) A) ([.ref (pa (30 + 3 * j)), .int x1] : List Value).toArray s 0 0 A) g
set_option maxHeartbeats 4000000 in
set_option maxRecDepth 100000 in
theorem c_X1_append (l : Launch) (G : va_G) (cA : Nat → ClassId) (sz : Nat) (bA : Nat) (ka : Nat → Nat) (ra : Nat → Nat) (pa : Nat → Nat) (j : Nat) (K : Tr) (R : Tr) (P : Tr) (L : Lo) (x1 : Int32) (hj : j < 3) (P' : Tr) (h : f_X1_append j P x1 = some P') : Met l yX1_append (.code yX1_append cX1_append 2 none :: T0) ({ frames := 0, cells := 0, slots := 0, locals := 0 } : Room) (tqPB bA G cA [.ref (pa (30 + 3 * j)), .int x1] (wRP cA ka ra pa K R P L) sz) (tqQv G cA (fun (_ : Unit) => True) (fun (_ : Unit) => wRP cA ka ra pa K R (P') L) (va_A (wRP cA ka ra pa K R P L) sz)) 0 0 (va_A (wRP cA ka ra pa K R P L) sz) := by
  refine Met.ofW (cc := cX1_append) (maxL := 2) (ret := none) (by decide) rfl ?_
  intro p e s m args below meth c s₁ B hml hv
  obtain ⟨rfl, hsz, hP, hK, hD0, hN, hB⟩ := hv
  have hx := B.exec
  have hb := B.bytes
  have hr := B.returns
  have hts := atoms_spec (ws := .code yX1_append cX1_append 2 none :: T0) B.pre
  have hT : ∀ w ∈ T0, w.before _ s = true := fun w h => hts w (List.mem_cons_of_mem _ h)
  have hown : s.vm.findClass RX1 = some m.cls := findClass_of_methodNamed B.named
  have hlocks := B.notSynchronized
  subst hsz
  have hD := hD0.self (sz := s.heap.size)
  generalize hAe : va_A (wRP cA ka ra pa K R P L) s.heap.size = A at hD hB ⊢
  have hA : ∀ q : Nat, s.heap.size ≤ q → A q := fun q h => by rw [← hAe]; exact Or.inr h
  have hS : va_S A s.heap s.heap [] := va_S.rf
  have hl := lv_entry ([.ref (pa (30 + 3 * j)), .int x1]) (n := 2) (Nat.le_of_ble_eq_true rfl)
  rw [lg_entry_eq]
  generalize (lg_sl ([.ref (pa (30 + 3 * j)), .int x1]) ++ List.replicate (2 - (lg_sl ([.ref (pa (30 + 3 * j)), .int x1])).length) Slot.unset).toArray = ls at hl ⊢
  have hl : lv_has ls 2 [(0, .ref (pa (30 + 3 * j))), (1, .int x1)] := hl
  have F : tF p s m ([.ref (pa (30 + 3 * j)), .int x1] : List Value).toArray meth c G cA A RX1 cX1_append 2 none := ⟨hx, hb, hr, hml, hT, hown, hlocks, hK, hN, hA⟩
  obtain ⟨H, hH⟩ : ∃ z, z = s.heap := ⟨_, rfl⟩
  rw [← hH] at hP
  have hS : va_S A s.heap H [] := by rw [hH]; exact hS
  suffices hgo : G_X1_append p l e s m below meth c G cA A bA ka ra pa j K R L x1 P' H [] (F0 m 0 ls []) by rw [hH] at hgo; exact hgo
  generalize ([] : List Loc) = locs at hS ⊢
  unfold f_X1_append at h
  refine lv_aload_n hx hb dX1_append_0 rfl (lv_at hl 0 rfl) ?_
  refine va_get (D := G) (ci := 1) (v := .int (P (30 + 3 * j) 1)) (C := RX1) (T := TX1) (N := 3) hx hb hT ku_1 hown hK hP (18 + 3 * j) (aLRP_0 hj) rfl 1 (by decide) (hT _ kw_21_7) (fun _ h9 => h9) rfl dX1_append_1 ?_
  refine lv_bipush (v := 64) hx hb dX1_append_4 (by decide) ?_
  refine lv_icmp_ge (tgt := 29) hx hb dX1_append_6 (by decide) (fun c1 => ?_) (fun c1 => ?_)
  · have h := tx_pos c1 h
    obtain rfl := tx_1 h
    exact W.vret hx hb hr (fun t ht hW => ⟨⟨(), rfl, trivial, by rw [ht]; exact hP, hD⟩, hS.F ht⟩) hS.2.2 dX1_append_29
  · have h := tx_neg c1 h
    refine lv_aload_n hx hb dX1_append_9 rfl (lv_at hl 0 rfl) ?_
    refine va_get (D := G) (ci := 1) (v := .ref (pa (31 + 3 * j))) (C := RX1) (T := TX1) (N := 3) hx hb hT ku_1 hown hK hP (18 + 3 * j) (aLRP_0 hj) rfl 0 (by decide) (hT _ kw_6_12) (fun _ h9 => h9) rfl dX1_append_10 ?_
    refine lv_aload_n hx hb dX1_append_13 rfl (lv_at hl 0 rfl) ?_
    refine va_get (D := G) (ci := 1) (v := .int (P (30 + 3 * j) 1)) (C := RX1) (T := TX1) (N := 3) hx hb hT ku_1 hown hK hP (18 + 3 * j) (aLRP_0 hj) rfl 1 (by decide) (hT _ kw_21_7) (fun _ h9 => h9) rfl dX1_append_14 ?_
    refine lv_iload_n hx hb dX1_append_17 rfl (lv_at hl 1 rfl) ?_
    obtain ⟨g2, h⟩ := tx_ck h
    refine va_iast (i := (P (30 + 3 * j) 1)) hx hb hK hP hD hS (19 + 3 * j) 0 (aLRP_1 hj) rfl (tx_in g2) dX1_append_18 (fun H locs hP hD hS => ?_)
    obtain ⟨P_3, eP_3, h⟩ := tx_lt h
    rw [(sLRP_a0 hj), eP_3] at hP hD
    refine lv_aload_n hx hb dX1_append_19 rfl (lv_at hl 0 rfl) ?_
    refine lv_dup hx hb dX1_append_20 rfl ?_
    refine va_get (D := G) (ci := 1) (v := .int (P_3 (30 + 3 * j) 1)) (C := RX1) (T := TX1) (N := 3) hx hb hT ku_1 hown hK hP (18 + 3 * j) (aLRP_0 hj) rfl 1 (by decide) (hT _ kw_21_7) (fun _ h9 => h9) rfl dX1_append_21 ?_
    refine lv_iconst (v := 1) hx hb dX1_append_24 (by decide) ?_
    refine lv_iadd hx hb dX1_append_25 ?_
    refine va_put (D := G) (ci := 1) (v := .int ((P_3 (30 + 3 * j) 1) + 1)) (ty := .int) (C := RX1) (T := TX1) (N := 3) hx hb hT ku_1 tyX1 tyX1_ok nmX1 hown hK hP hD hS (18 + 3 * j) (aLRP_0 hj) rfl 1 (by decide) (hT _ kw_21_7) (fun _ h9 => h9) rfl (by decide +kernel) rfl rfl (Nat.le_of_ble_eq_true rfl) dX1_append_26 (fun H locs hP hD hS => ?_)
    obtain ⟨P_4, eP_4, h⟩ := tx_lt h
    rw [(sLRP_f1 hj), eP_4] at hP hD
    obtain rfl := tx_1 h
    exact W.vret hx hb hr (fun t ht hW => ⟨⟨(), rfl, trivial, by rw [ht]; exact hP, hD⟩, hS.F ht⟩) hS.2.2 dX1_append_29
abbrev G_X3_put (p : Program) (l : Launch) (e : Env) (s : State) (m : MethodId) (below : List Frame) (meth : Method) (c : Code) (G : va_G) (cA : Nat → ClassId) (A : Nat → Prop) (bA : Nat) (ka : Nat → Nat) (ra : Nat → Nat) (pa : Nat → Nat) (j : Nat) (K : Tr) (R : Tr) (L : Lo) (x1 : Int32) (r0 : Int32) (P' : Tr) (H : Heap) (locs : List Loc) (g : JFrame) : Prop := W p l e (headSpec (.code yX3_put cX3_put 2 (some .boolean) :: T0) ({ frames := 1, cells := 0, slots := 0, locals := 21 } : Room)).room s m ([.ref (pa (30 + 3 * j)), .int x1] : List Value).toArray below meth c H locs 0 0 (MQ below (tqQi G cA (fun (r : Int32) (_ : Unit) => r = r0) (fun (_ : Unit) => wRP cA ka ra pa K R (P') L) A) ([.ref (pa (30 + 3 * j)), .int x1] : List Value).toArray s 0 0 A) g
set_option maxHeartbeats 4000000 in
set_option maxRecDepth 100000 in
theorem c_X3_put (l : Launch) (G : va_G) (cA : Nat → ClassId) (sz : Nat) (bA : Nat) (ka : Nat → Nat) (ra : Nat → Nat) (pa : Nat → Nat) (j : Nat) (K : Tr) (R : Tr) (P : Tr) (L : Lo) (x1 : Int32) (hj : j < 3) (r0 : Int32) (P' : Tr) (h : f_X3_put j P x1 = some (r0, P')) : Met l yX3_put (.code yX3_put cX3_put 2 (some .boolean) :: T0) ({ frames := 1, cells := 0, slots := 0, locals := 21 } : Room) (tqPB bA G cA [.ref (pa (30 + 3 * j)), .int x1] (wRP cA ka ra pa K R P L) sz) (tqQi G cA (fun (r : Int32) (_ : Unit) => r = r0) (fun (_ : Unit) => wRP cA ka ra pa K R (P') L) (va_A (wRP cA ka ra pa K R P L) sz)) 0 0 (va_A (wRP cA ka ra pa K R P L) sz) := by
  refine Met.ofW (cc := cX3_put) (maxL := 2) (ret := (some .boolean)) (by decide) rfl ?_
  intro p e s m args below meth c s₁ B hml hv
  obtain ⟨rfl, hsz, hP, hK, hD0, hN, hB⟩ := hv
  have hx := B.exec
  have hb := B.bytes
  have hr := B.returns
  have hts := atoms_spec (ws := .code yX3_put cX3_put 2 (some .boolean) :: T0) B.pre
  have hT : ∀ w ∈ T0, w.before _ s = true := fun w h => hts w (List.mem_cons_of_mem _ h)
  have hown : s.vm.findClass RX3 = some m.cls := findClass_of_methodNamed B.named
  have hlocks := B.notSynchronized
  subst hsz
  have hD := hD0.self (sz := s.heap.size)
  generalize hAe : va_A (wRP cA ka ra pa K R P L) s.heap.size = A at hD hB ⊢
  have hA : ∀ q : Nat, s.heap.size ≤ q → A q := fun q h => by rw [← hAe]; exact Or.inr h
  have hS : va_S A s.heap s.heap [] := va_S.rf
  have hl := lv_entry ([.ref (pa (30 + 3 * j)), .int x1]) (n := 2) (Nat.le_of_ble_eq_true rfl)
  rw [lg_entry_eq]
  generalize (lg_sl ([.ref (pa (30 + 3 * j)), .int x1]) ++ List.replicate (2 - (lg_sl ([.ref (pa (30 + 3 * j)), .int x1])).length) Slot.unset).toArray = ls at hl ⊢
  have hl : lv_has ls 2 [(0, .ref (pa (30 + 3 * j))), (1, .int x1)] := hl
  have F : tF p s m ([.ref (pa (30 + 3 * j)), .int x1] : List Value).toArray meth c G cA A RX3 cX3_put 2 (some .boolean) := ⟨hx, hb, hr, hml, hT, hown, hlocks, hK, hN, hA⟩
  obtain ⟨H, hH⟩ : ∃ z, z = s.heap := ⟨_, rfl⟩
  rw [← hH] at hP
  have hS : va_S A s.heap H [] := by rw [hH]; exact hS
  suffices hgo : G_X3_put p l e s m below meth c G cA A bA ka ra pa j K R L x1 r0 P' H [] (F0 m 0 ls []) by rw [hH] at hgo; exact hgo
  generalize ([] : List Loc) = locs at hS ⊢
  unfold f_X3_put at h
  refine lv_aload_n hx hb dX3_put_0 rfl (lv_at hl 0 rfl) ?_
  refine lv_iload_n hx hb dX3_put_1 rfl (lv_at hl 1 rfl) ?_
  obtain ⟨P_1, hc2, h⟩ := tx_bd h
  refine tw_cv tw_all hP hD hS hA (va_runV (As := [.int x1]) (rest := []) ⟨hx, hb, hml, hown, hT⟩ (c_X1_append l G cA H.size bA ka ra pa j K R P L x1 hj P_1 hc2) (cwV 1 hT (tq_gV kw_21_3 kw_21_4 kw_21_5 kw_6_8 kw_21_6) rfl rfl rfl (by decide +kernel) ⟨Nat.le_of_ble_eq_true rfl, Nat.le_of_ble_eq_true rfl⟩) ⟨(tw_preB tw_all hP hD hK hN hS hA hB).1, va_recv hK hP (ci := 1) (q0 := (18 + 3 * j)) rfl (aLRP_0 hj), (tw_preB tw_all hP hD hK hN hS hA hB).2⟩ rfl rfl hl.1 rfl (lv_room (Nat.le_of_ble_eq_true rfl)) dX3_put_2 ⟨Nat.le_of_ble_eq_true rfl, Nat.le_of_ble_eq_true rfl⟩) (fun _ H locs z3 hP hD hS => ?_)
  rw [List.append_nil] at hP hD
  have hP : va_P G vwCl (wRP cA ka ra pa K R P_1 L) H := hP
  have hD : va_D A (wRP cA ka ra pa K R P_1 L) := hD
  refine lv_iconst (v := 1) hx hb dX3_put_5 (by decide) ?_
  obtain ⟨rfl, rfl⟩ := tx_2 h
  exact W.zret (ty := .boolean) hx hb hr rfl (fun t ht hW => ⟨⟨_, (), rfl, rfl, by rw [ht]; exact hP, hD⟩, hS.F ht⟩) hS.2.2 dX3_put_6
