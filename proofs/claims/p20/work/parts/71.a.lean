-- 71.a
def wPL (cA : Nat → ClassId) (pa : Nat → Nat) (P : Tr) (L : Lo) : va_W := List.flatten [gP cA pa  P, gL cA pa P L]
theorem sPL_pa_f0 {cA : Nat → ClassId} {pa : Nat → Nat} {P : Tr} {L : Lo} {v : Int32} : (wPL cA pa P L).set 0 (pa 0, .inr (2, (fP pa  P).set 0 (.int v))) = wPL cA pa (st P 0 0 v) L := rfl
theorem sPL_pa_f1 {cA : Nat → ClassId} {pa : Nat → Nat} {P : Tr} {L : Lo} {v : Int32} : (wPL cA pa P L).set 0 (pa 0, .inr (2, (fP pa  P).set 1 (.int v))) = wPL cA pa (st P 0 1 v) L := rfl
theorem sPL_pa_f2 {cA : Nat → ClassId} {pa : Nat → Nat} {P : Tr} {L : Lo} {v : Int32} : (wPL cA pa P L).set 0 (pa 0, .inr (2, (fP pa  P).set 2 (.int v))) = wPL cA pa (st P 0 2 v) L := rfl
theorem sPL_pa_f3 {cA : Nat → ClassId} {pa : Nat → Nat} {P : Tr} {L : Lo} {v : Int32} : (wPL cA pa P L).set 0 (pa 0, .inr (2, (fP pa  P).set 3 (.int v))) = wPL cA pa (st P 0 3 v) L := rfl
theorem sPL_pa_f4 {cA : Nat → ClassId} {pa : Nat → Nat} {P : Tr} {L : Lo} {v : Int32} : (wPL cA pa P L).set 0 (pa 0, .inr (2, (fP pa  P).set 4 (.int v))) = wPL cA pa (st P 0 4 v) L := rfl
theorem sPL_pa_f5 {cA : Nat → ClassId} {pa : Nat → Nat} {P : Tr} {L : Lo} {v : Int32} : (wPL cA pa P L).set 0 (pa 0, .inr (2, (fP pa  P).set 5 (.int v))) = wPL cA pa (st P 0 5 v) L := rfl
theorem sPL_pa_f6 {cA : Nat → ClassId} {pa : Nat → Nat} {P : Tr} {L : Lo} {v : Int32} : (wPL cA pa P L).set 0 (pa 0, .inr (2, (fP pa  P).set 6 (.int v))) = wPL cA pa (st P 0 6 v) L := rfl
theorem sPL_pa_a7 {cA : Nat → ClassId} {pa : Nat → Nat} {P : Tr} {L : Lo} {i : Nat} {v : Int32} : (wPL cA pa P L).set 1 (pa 8, .inl (cA 0, 5, .inl (upd (P 8) i v))) = wPL cA pa (st P 8 i v) L := rfl
theorem sPL_pa_a8 {cA : Nat → ClassId} {pa : Nat → Nat} {P : Tr} {L : Lo} {i : Nat} {v : Int32} : (wPL cA pa P L).set 2 (pa 9, .inl (cA 0, 5, .inl (upd (P 9) i v))) = wPL cA pa (st P 9 i v) L := rfl
theorem sPL_pa_a9 {cA : Nat → ClassId} {pa : Nat → Nat} {P : Tr} {L : Lo} {i : Nat} {v : Int32} : (wPL cA pa P L).set 3 (pa 10, .inl (cA 0, 6, .inl (upd (P 10) i v))) = wPL cA pa (st P 10 i v) L := rfl
theorem sPL_pa_a10 {cA : Nat → ClassId} {pa : Nat → Nat} {P : Tr} {L : Lo} {i : Nat} {v : Int32} : (wPL cA pa P L).set 4 (pa 11, .inl (cA 0, 6, .inl (upd (P 11) i v))) = wPL cA pa (st P 11 i v) L := rfl
theorem sPL_pa_a11 {cA : Nat → ClassId} {pa : Nat → Nat} {P : Tr} {L : Lo} {i : Nat} {v : Int32} : (wPL cA pa P L).set 5 (pa 12, .inl (cA 0, 6, .inl (upd (P 12) i v))) = wPL cA pa (st P 12 i v) L := rfl
theorem sPL_pa_a12 {cA : Nat → ClassId} {pa : Nat → Nat} {P : Tr} {L : Lo} {i : Nat} {v : Int32} : (wPL cA pa P L).set 6 (pa 13, .inl (cA 0, 6, .inl (upd (P 13) i v))) = wPL cA pa (st P 13 i v) L := rfl
theorem sPL_pa_a13 {cA : Nat → ClassId} {pa : Nat → Nat} {P : Tr} {L : Lo} {i : Nat} {v : Int32} : (wPL cA pa P L).set 7 (pa 14, .inl (cA 0, 10, .inl (upd (P 14) i v))) = wPL cA pa (st P 14 i v) L := rfl
theorem sPL_pa_a14 {cA : Nat → ClassId} {pa : Nat → Nat} {P : Tr} {L : Lo} {i : Nat} {v : Int32} : (wPL cA pa P L).set 8 (pa 15, .inl (cA 0, 10, .inl (upd (P 15) i v))) = wPL cA pa (st P 15 i v) L := rfl
theorem sPL_pa_a15 {cA : Nat → ClassId} {pa : Nat → Nat} {P : Tr} {L : Lo} {i : Nat} {v : Int32} : (wPL cA pa P L).set 9 (pa 16, .inl (cA 0, 10, .inl (upd (P 16) i v))) = wPL cA pa (st P 16 i v) L := rfl
theorem sPL_pa_a16 {cA : Nat → ClassId} {pa : Nat → Nat} {P : Tr} {L : Lo} {i : Nat} {v : Int32} : (wPL cA pa P L).set 10 (pa 17, .inl (cA 0, 10, .inl (upd (P 17) i v))) = wPL cA pa (st P 17 i v) L := rfl
theorem sPL_pa_a17 {cA : Nat → ClassId} {pa : Nat → Nat} {P : Tr} {L : Lo} {i : Nat} {v : Int32} : (wPL cA pa P L).set 11 (pa 18, .inl (cA 0, 21, .inl (upd (P 18) i v))) = wPL cA pa (st P 18 i v) L := rfl
theorem aLPL_0 {cA : Nat → ClassId} {pa : Nat → Nat} {P : Tr} {L : Lo} {j : Nat} (hj : j < 3) : (wPL cA pa P L)[13 + 3 * j]? = some (pa (30 + 3 * j), .inr (1, fL pa P j)) := by
  rcases (show j = 0 ∨ j = 1 ∨ j = 2 by omega) with rfl | rfl | rfl <;> rfl
theorem aLPL_1 {cA : Nat → ClassId} {pa : Nat → Nat} {P : Tr} {L : Lo} {j : Nat} (hj : j < 3) : (wPL cA pa P L)[14 + 3 * j]? = some (pa (31 + 3 * j), .inl (cA 0, 64, .inl (P (31 + 3 * j)))) := by
  rcases (show j = 0 ∨ j = 1 ∨ j = 2 by omega) with rfl | rfl | rfl <;> rfl
theorem aLPL_2 {cA : Nat → ClassId} {pa : Nat → Nat} {P : Tr} {L : Lo} {j : Nat} (hj : j < 3) : (wPL cA pa P L)[15 + 3 * j]? = some (pa (32 + 3 * j), .inl (cA 2, 64, .inr (.inl (L (32 + 3 * j))))) := by
  rcases (show j = 0 ∨ j = 1 ∨ j = 2 by omega) with rfl | rfl | rfl <;> rfl
theorem sLPL_f1 {cA : Nat → ClassId} {pa : Nat → Nat} {P : Tr} {L : Lo} {j : Nat} (hj : j < 3) {v : Int32} : (wPL cA pa P L).set (13 + 3 * j) (pa (30 + 3 * j), .inr (1, (fL pa P j).set 1 (.int v))) = wPL cA pa (st P (30 + 3 * j) 1 v) L := by
  rcases (show j = 0 ∨ j = 1 ∨ j = 2 by omega) with rfl | rfl | rfl <;> rfl
theorem sLPL_a0 {cA : Nat → ClassId} {pa : Nat → Nat} {P : Tr} {L : Lo} {j : Nat} (hj : j < 3) {i : Nat} {v : Int32} : (wPL cA pa P L).set (14 + 3 * j) (pa (31 + 3 * j), .inl (cA 0, 64, .inl (upd (P (31 + 3 * j)) i v))) = wPL cA pa (st P (31 + 3 * j) i v) L := by
  rcases (show j = 0 ∨ j = 1 ∨ j = 2 by omega) with rfl | rfl | rfl <;> rfl
theorem sLPL_a2 {cA : Nat → ClassId} {pa : Nat → Nat} {P : Tr} {L : Lo} {j : Nat} (hj : j < 3) {i : Nat} {v : Int64} : (wPL cA pa P L).set (15 + 3 * j) (pa (32 + 3 * j), .inl (cA 2, 64, .inr (.inl (vp_updL (L (32 + 3 * j)) i v)))) = wPL cA pa P (stL L (32 + 3 * j) i v) := by
  rcases (show j = 0 ∨ j = 1 ∨ j = 2 by omega) with rfl | rfl | rfl <;> rfl
-- 71.b
def fB_X2_clear_p_L59  (k59 : Int32 → Tr → Option (Tr)) (x1 : Int32) (P : Tr) : Option (Tr) :=
  if 3 ≤ x1 then (some P) else (ck (okI x1 3) (lt (st P (30 + 3 * x1.toNatClampNeg) 1 0) fun P_11 => lt (x1 + 1) fun y12 => k59 y12 P_11))
def fL_X2_clear_p_L59  : Int32 → Tr → Option (Tr) := lpF (fun _ _ => none) (fB_X2_clear_p_L59 ) 2000
def fB_X2_clear_p_L37  (k37 : Int32 → Tr → Option (Tr)) (x1 : Int32) (P : Tr) : Option (Tr) :=
  if 20 < x1 then (fL_X2_clear_p_L59  0 P) else (ck (okI x1 21) (lt (st P 18 x1.toNatClampNeg 60) fun P_14 => lt (x1 + 1) fun y15 => k37 y15 P_14))
def fL_X2_clear_p_L37  : Int32 → Tr → Option (Tr) := lpF (fun _ _ => none) (fB_X2_clear_p_L37 ) 2000
def f_X2_clear_p (P : Tr) : Option (Tr) :=
  lt (st P 0 0 0) fun P_1 => lt (st P_1 0 1 0) fun P_2 => lt (st P_2 0 2 0) fun P_3 => lt (st P_3 0 3 0) fun P_4 => lt (st P_4 0 4 0) fun P_5 => lt (st P_5 0 5 0) fun P_6 => lt (st P_6 0 6 0) fun P_7 => fL_X2_clear_p_L37  0 P_7
abbrev G_X2_clear_p (p : Program) (l : Launch) (e : Env) (s : State) (m : MethodId) (below : List Frame) (meth : Method) (c : Code) (G : va_G) (cA : Nat → ClassId) (A : Nat → Prop) (pa : Nat → Nat) (L : Lo) (P' : Tr) (H : Heap) (locs : List Loc) (g : JFrame) : Prop := W p l e (headSpec (.code yX2_clear cX2_clear 2 none :: T0) ({ frames := 0, cells := 0, slots := 0, locals := 0 } : Room)).room s m ([.ref (pa 0)] : List Value).toArray below meth c H locs 0 0 (MQ below (tqQv G cA (fun (_ : Unit) => True) (fun (_ : Unit) => wPL cA pa (P') L) A) ([.ref (pa 0)] : List Value).toArray s 0 0 A) g
set_option maxHeartbeats 4000000 in
set_option maxRecDepth 100000 in
theorem w_X2_clear_p_L59 {p : Program} {l : Launch} {e : Env} {s : State} {m : MethodId} {below : List Frame} {meth : Method} {c : Code} {G : va_G} {cA : Nat → ClassId} {A : Nat → Prop} {pa : Nat → Nat} {L : Lo} {P' : Tr} (F : tF p s m ([.ref (pa 0)] : List Value).toArray meth c G cA A RX2 cX2_clear 2 none)    (N : Nat) : ∀ (x1 : Int32) (P : Tr) (H : Heap) (locs : List Loc) (ls : Array Slot), lpF (fun _ _ => none) (fB_X2_clear_p_L59 ) N x1 P = some P' → va_P G vwCl (wPL cA pa P L) H → va_D A (wPL cA pa P L) → va_S A s.heap H locs → lv_has ls 2 [(0, .ref (pa 0)), (1, .int x1)] → G_X2_clear_p p l e s m below meth c G cA A pa L P' H locs (F0 m 59 ls []) := by
  obtain ⟨hx, hb, hr, hml, hT, hown, hlocks, hK, hN, hA⟩ := id F
  induction N with
  | zero =>
    intro x1 P H locs ls h
    have h : (none : Option (Tr)) = some P' := h
    cases h
  | succ N hk59 =>
    intro x1 P H locs ls h hP hD hS hl
    have h : fB_X2_clear_p_L59  (lpF (fun _ _ => none) (fB_X2_clear_p_L59 ) N) x1 P = some P' := h
    generalize hk59e : lpF (fun _ _ => none) (fB_X2_clear_p_L59 ) N = k59 at h hk59
    unfold fB_X2_clear_p_L59 at h
    refine lv_iload_n hx hb dX2_clear_59 rfl (lv_at hl 1 rfl) ?_
    refine lv_iconst (v := 3) hx hb dX2_clear_60 (by decide) ?_
    refine lv_icmp_ge (tgt := 80) hx hb dX2_clear_61 (by decide) (fun c9 => ?_) (fun c9 => ?_)
    · have h := tx_pos c9 h
      obtain rfl := tx_1 h
      exact W.vret hx hb hr (fun t ht hW => ⟨⟨(), rfl, trivial, by rw [ht]; exact hP, hD⟩, hS.F ht⟩) hS.2.2 dX2_clear_80
    · have h := tx_neg c9 h
      refine lv_aload_n hx hb dX2_clear_64 rfl (lv_at hl 0 rfl) ?_
      refine va_get (D := G) (ci := 2) (v := .ref (pa 19)) (C := RX2) (T := TX2) (N := 19) hx hb hT ku_2 hown hK hP 0 rfl rfl 18 (by decide) (hT _ kw_6_6) (fun _ h9 => h9) rfl dX2_clear_65 ?_
      refine lv_iload_n hx hb dX2_clear_68 rfl (lv_at hl 1 rfl) ?_
      obtain ⟨g10, h⟩ := tx_ck h
      refine va_aldq (i := x1) hx hb hK hP 12 4 rfl rfl (tx_in g10) dX2_clear_69 ?_
      refine W.eq (g2 := F0 m 70 ls (.ref (pa (30 + 3 * x1.toNatClampNeg)) :: [])) (by rw [lawsf_at _ (tx_n3 g10)]; rfl) ?_
      refine lv_iconst (v := 0) hx hb dX2_clear_70 (by decide) ?_
      refine va_put (D := G) (ci := 1) (v := .int 0) (ty := .int) (C := RX1) (T := TX1) (N := 3) hx hb hT ku_1 tyX1 tyX1_ok nmX1 hown hK hP hD hS (13 + 3 * x1.toNatClampNeg) (aLPL_0 (tx_n3 g10)) rfl 1 (by decide) (hT _ kw_7_1) (fun _ h9 => h9) rfl (by decide +kernel) rfl rfl (Nat.le_of_ble_eq_true rfl) dX2_clear_71 (fun H locs hP hD hS => ?_)
      obtain ⟨P_11, eP_11, h⟩ := tx_lt h
      rw [(sLPL_f1 (tx_n3 g10)), eP_11] at hP hD
      obtain ⟨y12, ey12, h⟩ := tx_lt h
      refine lv_iinc (v := y12) (lv' := [(1, .int y12), (0, .ref (pa 0))]) hx hb dX2_clear_74 hl (k := 1) rfl ey12 (by decide) rfl (fun ls hl => ?_)
      refine lv_goto (tgt := 59) hx hb dX2_clear_77 (by decide) ?_
      exact hk59 y12 P_11 H locs ls h hP hD hS (lv_sub hl [1, 0] rfl)
set_option maxHeartbeats 4000000 in
set_option maxRecDepth 100000 in
theorem w_X2_clear_p_L37 {p : Program} {l : Launch} {e : Env} {s : State} {m : MethodId} {below : List Frame} {meth : Method} {c : Code} {G : va_G} {cA : Nat → ClassId} {A : Nat → Prop} {pa : Nat → Nat} {L : Lo} {P' : Tr} (F : tF p s m ([.ref (pa 0)] : List Value).toArray meth c G cA A RX2 cX2_clear 2 none)    (N : Nat) : ∀ (x1 : Int32) (P : Tr) (H : Heap) (locs : List Loc) (ls : Array Slot), lpF (fun _ _ => none) (fB_X2_clear_p_L37 ) N x1 P = some P' → va_P G vwCl (wPL cA pa P L) H → va_D A (wPL cA pa P L) → va_S A s.heap H locs → lv_has ls 2 [(0, .ref (pa 0)), (1, .int x1)] → G_X2_clear_p p l e s m below meth c G cA A pa L P' H locs (F0 m 37 ls []) := by
  obtain ⟨hx, hb, hr, hml, hT, hown, hlocks, hK, hN, hA⟩ := id F
  induction N with
  | zero =>
    intro x1 P H locs ls h
    have h : (none : Option (Tr)) = some P' := h
    cases h
  | succ N hk37 =>
    intro x1 P H locs ls h hP hD hS hl
    have h : fB_X2_clear_p_L37  (lpF (fun _ _ => none) (fB_X2_clear_p_L37 ) N) x1 P = some P' := h
    generalize hk37e : lpF (fun _ _ => none) (fB_X2_clear_p_L37 ) N = k37 at h hk37
    unfold fB_X2_clear_p_L37 at h
    refine lv_iload_n hx hb dX2_clear_37 rfl (lv_at hl 1 rfl) ?_
    refine lv_bipush (v := 20) hx hb dX2_clear_38 (by decide) ?_
    refine lv_icmp_gt (tgt := 57) hx hb dX2_clear_40 (by decide) (fun c8 => ?_) (fun c8 => ?_)
    · have h := tx_pos c8 h
      refine lv_iconst (v := 0) hx hb dX2_clear_57 (by decide) ?_
      refine lv_istore_n (lv' := [(1, .int 0), (0, .ref (pa 0))]) hx hb dX2_clear_58 rfl hl (by decide) rfl (fun ls hl => ?_)
      exact w_X2_clear_p_L59 F 2000 0 P H locs ls h hP hD hS (lv_sub hl [1, 0] rfl)
    · have h := tx_neg c8 h
      refine lv_aload_n hx hb dX2_clear_43 rfl (lv_at hl 0 rfl) ?_
      refine va_get (D := G) (ci := 2) (v := .ref (pa 18)) (C := RX2) (T := TX2) (N := 19) hx hb hT ku_2 hown hK hP 0 rfl rfl 17 (by decide) (hT _ kw_6_4) (fun _ h9 => h9) rfl dX2_clear_44 ?_
      refine lv_iload_n hx hb dX2_clear_47 rfl (lv_at hl 1 rfl) ?_
      refine lv_bipush (v := 60) hx hb dX2_clear_48 (by decide) ?_
      obtain ⟨g13, h⟩ := tx_ck h
      refine va_iast (i := x1) hx hb hK hP hD hS 11 0 rfl rfl (tx_in g13) dX2_clear_50 (fun H locs hP hD hS => ?_)
      obtain ⟨P_14, eP_14, h⟩ := tx_lt h
      rw [sPL_pa_a17, eP_14] at hP hD
      obtain ⟨y15, ey15, h⟩ := tx_lt h
      refine lv_iinc (v := y15) (lv' := [(1, .int y15), (0, .ref (pa 0))]) hx hb dX2_clear_51 hl (k := 1) rfl ey15 (by decide) rfl (fun ls hl => ?_)
      refine lv_goto (tgt := 37) hx hb dX2_clear_54 (by decide) ?_
      exact hk37 y15 P_14 H locs ls h hP hD hS (lv_sub hl [1, 0] rfl)
set_option maxHeartbeats 4000000 in
set_option maxRecDepth 100000 in
theorem c_X2_clear_p (l : Launch) (G : va_G) (cA : Nat → ClassId) (sz : Nat) (pa : Nat → Nat) (P : Tr) (L : Lo)  (P' : Tr) (h : f_X2_clear_p P = some P') : Met l yX2_clear (.code yX2_clear cX2_clear 2 none :: T0) ({ frames := 0, cells := 0, slots := 0, locals := 0 } : Room) (tqP G cA [.ref (pa 0)] (wPL cA pa P L) sz) (tqQv G cA (fun (_ : Unit) => True) (fun (_ : Unit) => wPL cA pa (P') L) (va_A (wPL cA pa P L) sz)) 0 0 (va_A (wPL cA pa P L) sz) := by
  refine Met.ofW (cc := cX2_clear) (maxL := 2) (ret := none) (by decide) rfl ?_
  intro p e s m args below meth c s₁ B hml hv
  obtain ⟨rfl, hsz, hP, hK, hD0, hN⟩ := hv
  have hx := B.exec
  have hb := B.bytes
  have hr := B.returns
  have hts := atoms_spec (ws := .code yX2_clear cX2_clear 2 none :: T0) B.pre
  have hT : ∀ w ∈ T0, w.before _ s = true := fun w h => hts w (List.mem_cons_of_mem _ h)
  have hown : s.vm.findClass RX2 = some m.cls := findClass_of_methodNamed B.named
  have hlocks := B.notSynchronized
  subst hsz
  have hD := hD0.self (sz := s.heap.size)
  generalize hAe : va_A (wPL cA pa P L) s.heap.size = A at hD ⊢
  have hA : ∀ q : Nat, s.heap.size ≤ q → A q := fun q h => by rw [← hAe]; exact Or.inr h
  have hS : va_S A s.heap s.heap [] := va_S.rf
  have hl := lv_entry ([.ref (pa 0)]) (n := 2) (Nat.le_of_ble_eq_true rfl)
  rw [lg_entry_eq]
  generalize (lg_sl ([.ref (pa 0)]) ++ List.replicate (2 - (lg_sl ([.ref (pa 0)])).length) Slot.unset).toArray = ls at hl ⊢
  have hl : lv_has ls 2 [(0, .ref (pa 0))] := hl
  have F : tF p s m ([.ref (pa 0)] : List Value).toArray meth c G cA A RX2 cX2_clear 2 none := ⟨hx, hb, hr, hml, hT, hown, hlocks, hK, hN, hA⟩
  obtain ⟨H, hH⟩ : ∃ z, z = s.heap := ⟨_, rfl⟩
  rw [← hH] at hP
  have hS : va_S A s.heap H [] := by rw [hH]; exact hS
  suffices hgo : G_X2_clear_p p l e s m below meth c G cA A pa L P' H [] (F0 m 0 ls []) by rw [hH] at hgo; exact hgo
  generalize ([] : List Loc) = locs at hS ⊢
  unfold f_X2_clear_p at h
  refine lv_aload_n hx hb dX2_clear_0 rfl (lv_at hl 0 rfl) ?_
  refine lv_iconst (v := 0) hx hb dX2_clear_1 (by decide) ?_
  refine va_put (D := G) (ci := 2) (v := .int 0) (ty := .int) (C := RX2) (T := TX2) (N := 19) hx hb hT ku_2 tyX2 tyX2_ok nmX2 hown hK hP hD hS 0 rfl rfl 0 (by decide) (hT _ kw_6_18) (fun _ h9 => h9) rfl (by decide +kernel) rfl rfl (Nat.le_of_ble_eq_true rfl) dX2_clear_2 (fun H locs hP hD hS => ?_)
  obtain ⟨P_1, eP_1, h⟩ := tx_lt h
  rw [sPL_pa_f0, eP_1] at hP hD
  refine lv_aload_n hx hb dX2_clear_5 rfl (lv_at hl 0 rfl) ?_
  refine lv_iconst (v := 0) hx hb dX2_clear_6 (by decide) ?_
  refine va_put (D := G) (ci := 2) (v := .int 0) (ty := .int) (C := RX2) (T := TX2) (N := 19) hx hb hT ku_2 tyX2 tyX2_ok nmX2 hown hK hP hD hS 0 rfl rfl 1 (by decide) (hT _ kw_6_19) (fun _ h9 => h9) rfl (by decide +kernel) rfl rfl (Nat.le_of_ble_eq_true rfl) dX2_clear_7 (fun H locs hP hD hS => ?_)
  obtain ⟨P_2, eP_2, h⟩ := tx_lt h
  rw [sPL_pa_f1, eP_2] at hP hD
  refine lv_aload_n hx hb dX2_clear_10 rfl (lv_at hl 0 rfl) ?_
  refine lv_iconst (v := 0) hx hb dX2_clear_11 (by decide) ?_
  refine va_put (D := G) (ci := 2) (v := .int 0) (ty := .int) (C := RX2) (T := TX2) (N := 19) hx hb hT ku_2 tyX2 tyX2_ok nmX2 hown hK hP hD hS 0 rfl rfl 2 (by decide) (hT _ kw_6_20) (fun _ h9 => h9) rfl (by decide +kernel) rfl rfl (Nat.le_of_ble_eq_true rfl) dX2_clear_12 (fun H locs hP hD hS => ?_)
  obtain ⟨P_3, eP_3, h⟩ := tx_lt h
  rw [sPL_pa_f2, eP_3] at hP hD
  refine lv_aload_n hx hb dX2_clear_15 rfl (lv_at hl 0 rfl) ?_
  refine lv_iconst (v := 0) hx hb dX2_clear_16 (by decide) ?_
  refine va_put (D := G) (ci := 2) (v := .int 0) (ty := .int) (C := RX2) (T := TX2) (N := 19) hx hb hT ku_2 tyX2 tyX2_ok nmX2 hown hK hP hD hS 0 rfl rfl 3 (by decide) (hT _ kw_6_21) (fun _ h9 => h9) rfl (by decide +kernel) rfl rfl (Nat.le_of_ble_eq_true rfl) dX2_clear_17 (fun H locs hP hD hS => ?_)
  obtain ⟨P_4, eP_4, h⟩ := tx_lt h
  rw [sPL_pa_f3, eP_4] at hP hD
  refine lv_aload_n hx hb dX2_clear_20 rfl (lv_at hl 0 rfl) ?_
  refine lv_iconst (v := 0) hx hb dX2_clear_21 (by decide) ?_
  refine va_put (D := G) (ci := 2) (v := .int 0) (ty := .int) (C := RX2) (T := TX2) (N := 19) hx hb hT ku_2 tyX2 tyX2_ok nmX2 hown hK hP hD hS 0 rfl rfl 4 (by decide) (hT _ kw_6_22) (fun _ h9 => h9) rfl (by decide +kernel) rfl rfl (Nat.le_of_ble_eq_true rfl) dX2_clear_22 (fun H locs hP hD hS => ?_)
  obtain ⟨P_5, eP_5, h⟩ := tx_lt h
  rw [sPL_pa_f4, eP_5] at hP hD
  refine lv_aload_n hx hb dX2_clear_25 rfl (lv_at hl 0 rfl) ?_
  refine lv_iconst (v := 0) hx hb dX2_clear_26 (by decide) ?_
  refine va_put (D := G) (ci := 2) (v := .int 0) (ty := .int) (C := RX2) (T := TX2) (N := 19) hx hb hT ku_2 tyX2 tyX2_ok nmX2 hown hK hP hD hS 0 rfl rfl 5 (by decide) (hT _ kw_6_23) (fun _ h9 => h9) rfl (by decide +kernel) rfl rfl (Nat.le_of_ble_eq_true rfl) dX2_clear_27 (fun H locs hP hD hS => ?_)
  obtain ⟨P_6, eP_6, h⟩ := tx_lt h
  rw [sPL_pa_f5, eP_6] at hP hD
  refine lv_aload_n hx hb dX2_clear_30 rfl (lv_at hl 0 rfl) ?_
  refine lv_iconst (v := 0) hx hb dX2_clear_31 (by decide) ?_
  refine va_put (D := G) (ci := 2) (v := .int 0) (ty := .int) (C := RX2) (T := TX2) (N := 19) hx hb hT ku_2 tyX2 tyX2_ok nmX2 hown hK hP hD hS 0 rfl rfl 6 (by decide) (hT _ kw_7_0) (fun _ h9 => h9) rfl (by decide +kernel) rfl rfl (Nat.le_of_ble_eq_true rfl) dX2_clear_32 (fun H locs hP hD hS => ?_)
  obtain ⟨P_7, eP_7, h⟩ := tx_lt h
  rw [sPL_pa_f6, eP_7] at hP hD
  refine lv_iconst (v := 0) hx hb dX2_clear_35 (by decide) ?_
  refine lv_istore_n (lv' := [(1, .int 0), (0, .ref (pa 0))]) hx hb dX2_clear_36 rfl hl (by decide) rfl (fun ls hl => ?_)
  exact w_X2_clear_p_L37 F 2000 0 P_7 H locs ls h hP hD hS (lv_sub hl [1, 0] rfl)
/-! the class when it is new -/
theorem fl_app {α : Type} {l : List (List α)} {c : α} : List.flatten l ++ [c] = List.flatten (l ++ [[c]]) := by simp
theorem pk_all {α : Type} {a : Nat} {it : List (List α)} {q : List Nat} (h : List.Perm (List.range it.length) q) : (List.flatten (it.take a) ++ List.flatten (it.drop a)).Perm (List.flatten (q.map (fun k => it.getD k []))) := by
  rw [← List.flatten_append, List.take_append_drop]
  have e : (List.range it.length).map (fun k => it.getD k []) = it := by
    apply List.ext_getElem (by simp)
    intro i h1 h2
    simp [List.getD, h2]
  have := (h.map (fun k => it.getD k [])).flatten
  rw [e] at this
  exact this
section CX
variable {p : Program} {l : Launch} {e : Env} {R : Room} {s : State} {m : MethodId} {args : Array Value} {below : List Frame} {meth : Method} {c : Code} {H : Heap} {locs : List Loc} {cells slots : Nat} {Q : State → Prop}
variable {pc : Nat} {ls : Array Slot} {rest st0 : List Value} {a : Array Value} {A : Nat → Prop} {H0 : Heap} {G : va_G} {cA : Nat → ClassId} {ws wc wr : va_W} {mc ms : Nat}
theorem tw_cvm {S : Type} {post : S → Prop} {w1 : S → va_W} (hp : ws.Perm (wc ++ wr)) (hP : va_P G vwCl ws H) (hD : va_D A ws) (hS : va_S A H0 H locs) (hA : ∀ q, H0.size ≤ q → A q)
    (hr : va_Run p l e R s m args below meth c H locs cells slots mc ms (F0 m pc ls st0) rest (tqQv G cA post w1 (va_A wc H.size) a) (va_A wc H.size))
    (kk : ∀ (u : S) (H1 : Heap) (locs1 : List Loc), post u → va_P G vwCl (w1 u ++ wr) H1 → va_D A (w1 u ++ wr) → va_S A H0 H1 locs1 → W p l e R s m args below meth c H1 locs1 (cells + mc) (slots + ms) Q (F0 m (pc + 3) ls rest)) : W p l e R s m args below meth c H locs cells slots Q (F0 m pc ls st0) := by
  have hFc := tw_free hp hD hS hA
  refine va_callv hr hS (fun q _ h => hFc q h) hFc (fun u t H1 locs1 ht hvm hw hB hz1 hk1 hS1 => ?_)
  obtain ⟨hP1, hD1⟩ := hB
  rw [ht] at hP1
  obtain ⟨hP2, hD2⟩ := tw_join hp hP hD hk1 hFc hP1 hD1
  exact kk u H1 locs1 hw hP2 hD2 hS1
end CX
def T0Z : Tr := fun _ _ => 0
def L0Z : Lo := fun _ _ => 0
theorem okZ_T (a j : Nat) : okZ (BT a j) := by
  unfold BT fullB
  repeat (first | exact (show okZ _ from ⟨by decide, by decide⟩) | refine okZ_c ?_ ?_)
theorem okZ_P (a j : Nat) : okZ (BP a j) := by
  unfold BP fullB
  repeat (first | exact (show okZ _ from ⟨by decide, by decide⟩) | refine okZ_c ?_ ?_)
theorem iR_Z {B : Nat → Nat → Int × Int} (h : ∀ a j, okZ (B a j)) : iR B T0Z := fun a j => by
  have l0 : (T0Z a j).toInt = 0 := by show (0 : Int32).toInt = 0; decide
  rw [l0]; exact h a j
theorem e_clear (P : Tr) : f_X2_clear_p P = f_X2_clear P := rfl
-- 71.c
set_option maxHeartbeats 8000000 in
set_option maxRecDepth 100000 in
theorem k_X0_init (l : Launch) (G : va_G) (cA : Nat → ClassId) (sz : Nat) (h0 : Nat)  : Met l yX0_init (.code yX0_init cX0_init 1 none :: T0) ({ frames := 1, cells := 1, slots := 1520, locals := 13 } : Room) (tqP G cA [.ref h0] ([(h0, .inr (0, [.int 0, .int 0, .null]))]) sz) (tqQv G cA (fun (u : Nat) => True) (fun (u : Nat) => List.flatten [[(h0, .inr (0, [.int 0, .int 0, .ref u]))], [(u, .inl (cA 0, 1520, .inl (fun _ => 0)))]]) (va_A ([(h0, .inr (0, [.int 0, .int 0, .null]))]) sz)) 1 1520 (va_A ([(h0, .inr (0, [.int 0, .int 0, .null]))]) sz) := by
  refine Met.ofW (cc := cX0_init) (maxL := 1) (ret := none) (by decide) rfl ?_
  intro p e s m args below meth c s₁ B hml hv
  obtain ⟨rfl, hsz, hP, hK, hD0, hN⟩ := hv
  have hx := B.exec
  have hb := B.bytes
  have hr := B.returns
  have hts := atoms_spec (ws := .code yX0_init cX0_init 1 none :: T0) B.pre
  have hT : ∀ w ∈ T0, w.before _ s = true := fun w h => hts w (List.mem_cons_of_mem _ h)
  have hown : s.vm.findClass RX0 = some m.cls := findClass_of_methodNamed B.named
  have hlocks := B.notSynchronized
  have hin : meth.name = "<init>" := (name_of_methodNamed B.named B.method).1
  subst hsz
  have hD := hD0.self (sz := s.heap.size)
  generalize hAe : va_A ([(h0, .inr (0, [.int 0, .int 0, .null]))]) s.heap.size = A at hD ⊢
  have hA : ∀ q : Nat, s.heap.size ≤ q → A q := fun q h => by rw [← hAe]; exact Or.inr h
  have hS : va_S A s.heap s.heap [] := va_S.rf
  have hl := lv_entry ([.ref h0]) (n := 1) (Nat.le_of_ble_eq_true rfl)
  rw [lg_entry_eq]
  generalize (lg_sl ([.ref h0]) ++ List.replicate (1 - (lg_sl ([.ref h0])).length) Slot.unset).toArray = ls at hl ⊢
  have hl : lv_has ls 1 [(0, .ref h0)] := hl
  obtain ⟨H, hH⟩ : ∃ z, z = s.heap := ⟨_, rfl⟩
  rw [← hH] at hP
  have hS : va_S A s.heap H [] := by rw [hH]; exact hS
  suffices hgo : W p l e _ s m _ below meth c H [] 0 0 _ _ by rw [hH] at hgo; exact hgo
  have hO := hN.2.2.2.2
  have hP : va_P G vwCl (List.flatten [[(h0, .inr (0, [.int 0, .int 0, .null]))]]) H := hP
  have hD : va_D A (List.flatten [[(h0, .inr (0, [.int 0, .int 0, .null]))]]) := hD
  refine lv_aload_n hx hb dX0_init_0 rfl (lv_at hl 0 rfl) ?_
  refine W.objInit hx hb hown (hT _ kw_8_15) (hT _ kw_1_11) (hT _ kw_1_12) rfl (by rw [hml]; exact hl.1) rfl dX0_init_1 (Nat.le_of_ble_eq_true rfl) (Nat.le_of_ble_eq_true rfl) ?_
  refine W.eq (g2 := F0 m 4 ls []) rfl ?_
  refine lv_aload_n hx hb dX0_init_4 rfl (lv_at hl 0 rfl) ?_
  refine lv_iconst (v := 0) hx hb dX0_init_5 (by decide) ?_
  refine va_put (D := G) (ci := 0) (v := .int 0) (ty := .int) (C := RX0) (T := TX0) (N := 3) hx hb hT ku_0 tyX0 tyX0_ok nmX0 hown hK hP hD hS 0 rfl rfl 0 (by decide) (hT _ kw_8_16) (fun _ h9 => h9) rfl (by decide +kernel) rfl rfl (Nat.le_of_ble_eq_true rfl) dX0_init_6 (fun H locs hP hD hS => ?_)
  have hP : va_P G vwCl (List.flatten [[(h0, .inr (0, [.int 0, .int 0, .null]))]]) H := hP
  have hD : va_D A (List.flatten [[(h0, .inr (0, [.int 0, .int 0, .null]))]]) := hD
  refine lv_aload_n hx hb dX0_init_9 rfl (lv_at hl 0 rfl) ?_
  refine lv_iconst (v := 0) hx hb dX0_init_10 (by decide) ?_
  refine va_put (D := G) (ci := 0) (v := .int 0) (ty := .int) (C := RX0) (T := TX0) (N := 3) hx hb hT ku_0 tyX0 tyX0_ok nmX0 hown hK hP hD hS 0 rfl rfl 1 (by decide) (hT _ kw_8_17) (fun _ h9 => h9) rfl (by decide +kernel) rfl rfl (Nat.le_of_ble_eq_true rfl) dX0_init_11 (fun H locs hP hD hS => ?_)
  have hP : va_P G vwCl (List.flatten [[(h0, .inr (0, [.int 0, .int 0, .null]))]]) H := hP
  have hD : va_D A (List.flatten [[(h0, .inr (0, [.int 0, .int 0, .null]))]]) := hD
  refine lv_aload_n hx hb dX0_init_14 rfl (lv_at hl 0 rfl) ?_
  refine lv_sipush (v := 1520) hx hb dX0_init_15 (by decide) ?_
  refine tq_newa (atype := .int) (ty := .int) (n := 1520) (N' := 1520) (a0 := (1520, .inl (fun _ => 0))) hx hb (hT _ kw_2_13) rfl hK hP hD hS hA 0 (cA 0) rfl (fun _ => rfl) (by decide) (by decide) (by decide) (Nat.le_of_ble_eq_true rfl) (Nat.le_of_ble_eq_true rfl) dX0_init_18 (fun q1 H hP hD hS => ?_)
  refine W.widen (k := 1) (n := 1520) (Nat.le_of_ble_eq_true rfl) (Nat.le_of_ble_eq_true rfl) ?_
  have hP : va_P G vwCl (List.flatten [[(h0, .inr (0, [.int 0, .int 0, .null]))], [(q1, .inl (cA 0, 1520, .inl (fun _ => 0)))]]) H := by rw [fl_app] at hP; exact hP
  have hD : va_D A (List.flatten [[(h0, .inr (0, [.int 0, .int 0, .null]))], [(q1, .inl (cA 0, 1520, .inl (fun _ => 0)))]]) := by rw [fl_app] at hD; exact hD
  refine va_putF (D := G) (ci := 0) (v := .ref q1) (ty := (.array .int)) (C := RX0) (T := TX0) (N := 3) hx hb hT ku_0 tyX0 tyX0_ok nmX0 hown hK hP hD hS 0 rfl rfl 2 (by decide) (hT _ kw_8_18) (fun _ h9 => h9) rfl hin rfl (by decide +kernel) rfl rfl (Nat.le_of_ble_eq_true rfl) dX0_init_20 (fun H locs hP hD hS => ?_)
  have hP : va_P G vwCl (List.flatten [[(h0, .inr (0, [.int 0, .int 0, .ref q1]))], [(q1, .inl (cA 0, 1520, .inl (fun _ => 0)))]]) H := hP
  have hD : va_D A (List.flatten [[(h0, .inr (0, [.int 0, .int 0, .ref q1]))], [(q1, .inl (cA 0, 1520, .inl (fun _ => 0)))]]) := hD
  exact W.vret hx hb hr (fun t ht hW => ⟨⟨q1, rfl, trivial, by rw [ht]; exact hP, hD⟩, hS.F ht⟩) hS.2.2 dX0_init_23
set_option maxHeartbeats 8000000 in
set_option maxRecDepth 100000 in
theorem k_X4_init (l : Launch) (G : va_G) (cA : Nat → ClassId) (sz : Nat) (h0 : Nat)  : Met l yX4_init (.code yX4_init cX4_init 1 none :: T0) ({ frames := 1, cells := 5, slots := 120, locals := 13 } : Room) (tqP G cA [.ref h0] ([(h0, .inr (4, [.int 0, .int 0, .null, .null, .null, .null, .null]))]) sz) (tqQv G cA (fun (u : Nat → Nat) => True) (fun (u : Nat → Nat) => List.flatten [[(h0, .inr (4, [.int 0, .int (-1), .ref (u 1), .ref (u 2), .ref (u 3), .ref (u 4), .ref (u 5)]))], [((u 1), .inl (cA 0, 24, .inl (fun _ => 0)))], [((u 2), .inl (cA 0, 24, .inl (fun _ => 0)))], [((u 3), .inl (cA 0, 24, .inl (fun _ => 0)))], [((u 4), .inl (cA 0, 24, .inl (fun _ => 0)))], [((u 5), .inl (cA 1, 24, .inl (fun _ => 0)))]]) (va_A ([(h0, .inr (4, [.int 0, .int 0, .null, .null, .null, .null, .null]))]) sz)) 5 120 (va_A ([(h0, .inr (4, [.int 0, .int 0, .null, .null, .null, .null, .null]))]) sz) := by
  refine Met.ofW (cc := cX4_init) (maxL := 1) (ret := none) (by decide) rfl ?_
  intro p e s m args below meth c s₁ B hml hv
  obtain ⟨rfl, hsz, hP, hK, hD0, hN⟩ := hv
  have hx := B.exec
  have hb := B.bytes
  have hr := B.returns
  have hts := atoms_spec (ws := .code yX4_init cX4_init 1 none :: T0) B.pre
  have hT : ∀ w ∈ T0, w.before _ s = true := fun w h => hts w (List.mem_cons_of_mem _ h)
  have hown : s.vm.findClass RX4 = some m.cls := findClass_of_methodNamed B.named
  have hlocks := B.notSynchronized
  have hin : meth.name = "<init>" := (name_of_methodNamed B.named B.method).1
  subst hsz
  have hD := hD0.self (sz := s.heap.size)
  generalize hAe : va_A ([(h0, .inr (4, [.int 0, .int 0, .null, .null, .null, .null, .null]))]) s.heap.size = A at hD ⊢
  have hA : ∀ q : Nat, s.heap.size ≤ q → A q := fun q h => by rw [← hAe]; exact Or.inr h
  have hS : va_S A s.heap s.heap [] := va_S.rf
  have hl := lv_entry ([.ref h0]) (n := 1) (Nat.le_of_ble_eq_true rfl)
  rw [lg_entry_eq]
  generalize (lg_sl ([.ref h0]) ++ List.replicate (1 - (lg_sl ([.ref h0])).length) Slot.unset).toArray = ls at hl ⊢
  have hl : lv_has ls 1 [(0, .ref h0)] := hl
  obtain ⟨H, hH⟩ : ∃ z, z = s.heap := ⟨_, rfl⟩
  rw [← hH] at hP
  have hS : va_S A s.heap H [] := by rw [hH]; exact hS
  suffices hgo : W p l e _ s m _ below meth c H [] 0 0 _ _ by rw [hH] at hgo; exact hgo
  have hO := hN.2.2.2.2
  have hP : va_P G vwCl (List.flatten [[(h0, .inr (4, [.int 0, .int 0, .null, .null, .null, .null, .null]))]]) H := hP
  have hD : va_D A (List.flatten [[(h0, .inr (4, [.int 0, .int 0, .null, .null, .null, .null, .null]))]]) := hD
  refine lv_aload_n hx hb dX4_init_0 rfl (lv_at hl 0 rfl) ?_
  refine W.objInit hx hb hown (hT _ kw_8_21) (hT _ kw_1_11) (hT _ kw_1_12) rfl (by rw [hml]; exact hl.1) rfl dX4_init_1 (Nat.le_of_ble_eq_true rfl) (Nat.le_of_ble_eq_true rfl) ?_
  refine W.eq (g2 := F0 m 4 ls []) rfl ?_
  refine lv_aload_n hx hb dX4_init_4 rfl (lv_at hl 0 rfl) ?_
  refine lv_iconst (v := 0) hx hb dX4_init_5 (by decide) ?_
  refine va_put (D := G) (ci := 4) (v := .int 0) (ty := .int) (C := RX4) (T := TX4) (N := 7) hx hb hT ku_4 tyX4 tyX4_ok nmX4 hown hK hP hD hS 0 rfl rfl 0 (by decide) (hT _ kw_8_22) (fun _ h9 => h9) rfl (by decide +kernel) rfl rfl (Nat.le_of_ble_eq_true rfl) dX4_init_6 (fun H locs hP hD hS => ?_)
  have hP : va_P G vwCl (List.flatten [[(h0, .inr (4, [.int 0, .int 0, .null, .null, .null, .null, .null]))]]) H := hP
  have hD : va_D A (List.flatten [[(h0, .inr (4, [.int 0, .int 0, .null, .null, .null, .null, .null]))]]) := hD
  refine lv_aload_n hx hb dX4_init_9 rfl (lv_at hl 0 rfl) ?_
  refine lv_iconst (v := (-1)) hx hb dX4_init_10 (by decide) ?_
  refine va_put (D := G) (ci := 4) (v := .int (-1)) (ty := .int) (C := RX4) (T := TX4) (N := 7) hx hb hT ku_4 tyX4 tyX4_ok nmX4 hown hK hP hD hS 0 rfl rfl 1 (by decide) (hT _ kw_8_23) (fun _ h9 => h9) rfl (by decide +kernel) rfl rfl (Nat.le_of_ble_eq_true rfl) dX4_init_11 (fun H locs hP hD hS => ?_)
  have hP : va_P G vwCl (List.flatten [[(h0, .inr (4, [.int 0, .int (-1), .null, .null, .null, .null, .null]))]]) H := hP
  have hD : va_D A (List.flatten [[(h0, .inr (4, [.int 0, .int (-1), .null, .null, .null, .null, .null]))]]) := hD
  refine lv_aload_n hx hb dX4_init_14 rfl (lv_at hl 0 rfl) ?_
  refine lv_bipush (v := 24) hx hb dX4_init_15 (by decide) ?_
  refine tq_newa (atype := .int) (ty := .int) (n := 24) (N' := 24) (a0 := (24, .inl (fun _ => 0))) hx hb (hT _ kw_2_13) rfl hK hP hD hS hA 0 (cA 0) rfl (fun _ => rfl) (by decide) (by decide) (by decide) (Nat.le_of_ble_eq_true rfl) (Nat.le_of_ble_eq_true rfl) dX4_init_17 (fun q1 H hP hD hS => ?_)
  refine W.widen (k := 1) (n := 24) (Nat.le_of_ble_eq_true rfl) (Nat.le_of_ble_eq_true rfl) ?_
  have hP : va_P G vwCl (List.flatten [[(h0, .inr (4, [.int 0, .int (-1), .null, .null, .null, .null, .null]))], [(q1, .inl (cA 0, 24, .inl (fun _ => 0)))]]) H := by rw [fl_app] at hP; exact hP
  have hD : va_D A (List.flatten [[(h0, .inr (4, [.int 0, .int (-1), .null, .null, .null, .null, .null]))], [(q1, .inl (cA 0, 24, .inl (fun _ => 0)))]]) := by rw [fl_app] at hD; exact hD
  refine va_putF (D := G) (ci := 4) (v := .ref q1) (ty := (.array .int)) (C := RX4) (T := TX4) (N := 7) hx hb hT ku_4 tyX4 tyX4_ok nmX4 hown hK hP hD hS 0 rfl rfl 2 (by decide) (hT _ kw_9_0) (fun _ h9 => h9) rfl hin rfl (by decide +kernel) rfl rfl (Nat.le_of_ble_eq_true rfl) dX4_init_19 (fun H locs hP hD hS => ?_)
  have hP : va_P G vwCl (List.flatten [[(h0, .inr (4, [.int 0, .int (-1), .ref q1, .null, .null, .null, .null]))], [(q1, .inl (cA 0, 24, .inl (fun _ => 0)))]]) H := hP
  have hD : va_D A (List.flatten [[(h0, .inr (4, [.int 0, .int (-1), .ref q1, .null, .null, .null, .null]))], [(q1, .inl (cA 0, 24, .inl (fun _ => 0)))]]) := hD
  refine lv_aload_n hx hb dX4_init_22 rfl (lv_at hl 0 rfl) ?_
  refine lv_bipush (v := 24) hx hb dX4_init_23 (by decide) ?_
  refine tq_newa (atype := .int) (ty := .int) (n := 24) (N' := 24) (a0 := (24, .inl (fun _ => 0))) hx hb (hT _ kw_2_13) rfl hK hP hD hS hA 0 (cA 0) rfl (fun _ => rfl) (by decide) (by decide) (by decide) (Nat.le_of_ble_eq_true rfl) (Nat.le_of_ble_eq_true rfl) dX4_init_25 (fun q2 H hP hD hS => ?_)
  refine W.widen (k := 2) (n := 48) (Nat.le_of_ble_eq_true rfl) (Nat.le_of_ble_eq_true rfl) ?_
  have hP : va_P G vwCl (List.flatten [[(h0, .inr (4, [.int 0, .int (-1), .ref q1, .null, .null, .null, .null]))], [(q1, .inl (cA 0, 24, .inl (fun _ => 0)))], [(q2, .inl (cA 0, 24, .inl (fun _ => 0)))]]) H := by rw [fl_app] at hP; exact hP
  have hD : va_D A (List.flatten [[(h0, .inr (4, [.int 0, .int (-1), .ref q1, .null, .null, .null, .null]))], [(q1, .inl (cA 0, 24, .inl (fun _ => 0)))], [(q2, .inl (cA 0, 24, .inl (fun _ => 0)))]]) := by rw [fl_app] at hD; exact hD
  refine va_putF (D := G) (ci := 4) (v := .ref q2) (ty := (.array .int)) (C := RX4) (T := TX4) (N := 7) hx hb hT ku_4 tyX4 tyX4_ok nmX4 hown hK hP hD hS 0 rfl rfl 3 (by decide) (hT _ kw_9_1) (fun _ h9 => h9) rfl hin rfl (by decide +kernel) rfl rfl (Nat.le_of_ble_eq_true rfl) dX4_init_27 (fun H locs hP hD hS => ?_)
  have hP : va_P G vwCl (List.flatten [[(h0, .inr (4, [.int 0, .int (-1), .ref q1, .ref q2, .null, .null, .null]))], [(q1, .inl (cA 0, 24, .inl (fun _ => 0)))], [(q2, .inl (cA 0, 24, .inl (fun _ => 0)))]]) H := hP
  have hD : va_D A (List.flatten [[(h0, .inr (4, [.int 0, .int (-1), .ref q1, .ref q2, .null, .null, .null]))], [(q1, .inl (cA 0, 24, .inl (fun _ => 0)))], [(q2, .inl (cA 0, 24, .inl (fun _ => 0)))]]) := hD
  refine lv_aload_n hx hb dX4_init_30 rfl (lv_at hl 0 rfl) ?_
  refine lv_bipush (v := 24) hx hb dX4_init_31 (by decide) ?_
  refine tq_newa (atype := .int) (ty := .int) (n := 24) (N' := 24) (a0 := (24, .inl (fun _ => 0))) hx hb (hT _ kw_2_13) rfl hK hP hD hS hA 0 (cA 0) rfl (fun _ => rfl) (by decide) (by decide) (by decide) (Nat.le_of_ble_eq_true rfl) (Nat.le_of_ble_eq_true rfl) dX4_init_33 (fun q3 H hP hD hS => ?_)
  refine W.widen (k := 3) (n := 72) (Nat.le_of_ble_eq_true rfl) (Nat.le_of_ble_eq_true rfl) ?_
  have hP : va_P G vwCl (List.flatten [[(h0, .inr (4, [.int 0, .int (-1), .ref q1, .ref q2, .null, .null, .null]))], [(q1, .inl (cA 0, 24, .inl (fun _ => 0)))], [(q2, .inl (cA 0, 24, .inl (fun _ => 0)))], [(q3, .inl (cA 0, 24, .inl (fun _ => 0)))]]) H := by rw [fl_app] at hP; exact hP
  have hD : va_D A (List.flatten [[(h0, .inr (4, [.int 0, .int (-1), .ref q1, .ref q2, .null, .null, .null]))], [(q1, .inl (cA 0, 24, .inl (fun _ => 0)))], [(q2, .inl (cA 0, 24, .inl (fun _ => 0)))], [(q3, .inl (cA 0, 24, .inl (fun _ => 0)))]]) := by rw [fl_app] at hD; exact hD
  refine va_putF (D := G) (ci := 4) (v := .ref q3) (ty := (.array .int)) (C := RX4) (T := TX4) (N := 7) hx hb hT ku_4 tyX4 tyX4_ok nmX4 hown hK hP hD hS 0 rfl rfl 4 (by decide) (hT _ kw_9_2) (fun _ h9 => h9) rfl hin rfl (by decide +kernel) rfl rfl (Nat.le_of_ble_eq_true rfl) dX4_init_35 (fun H locs hP hD hS => ?_)
  have hP : va_P G vwCl (List.flatten [[(h0, .inr (4, [.int 0, .int (-1), .ref q1, .ref q2, .ref q3, .null, .null]))], [(q1, .inl (cA 0, 24, .inl (fun _ => 0)))], [(q2, .inl (cA 0, 24, .inl (fun _ => 0)))], [(q3, .inl (cA 0, 24, .inl (fun _ => 0)))]]) H := hP
  have hD : va_D A (List.flatten [[(h0, .inr (4, [.int 0, .int (-1), .ref q1, .ref q2, .ref q3, .null, .null]))], [(q1, .inl (cA 0, 24, .inl (fun _ => 0)))], [(q2, .inl (cA 0, 24, .inl (fun _ => 0)))], [(q3, .inl (cA 0, 24, .inl (fun _ => 0)))]]) := hD
  refine lv_aload_n hx hb dX4_init_38 rfl (lv_at hl 0 rfl) ?_
  refine lv_bipush (v := 24) hx hb dX4_init_39 (by decide) ?_
  refine tq_newa (atype := .int) (ty := .int) (n := 24) (N' := 24) (a0 := (24, .inl (fun _ => 0))) hx hb (hT _ kw_2_13) rfl hK hP hD hS hA 0 (cA 0) rfl (fun _ => rfl) (by decide) (by decide) (by decide) (Nat.le_of_ble_eq_true rfl) (Nat.le_of_ble_eq_true rfl) dX4_init_41 (fun q4 H hP hD hS => ?_)
  refine W.widen (k := 4) (n := 96) (Nat.le_of_ble_eq_true rfl) (Nat.le_of_ble_eq_true rfl) ?_
  have hP : va_P G vwCl (List.flatten [[(h0, .inr (4, [.int 0, .int (-1), .ref q1, .ref q2, .ref q3, .null, .null]))], [(q1, .inl (cA 0, 24, .inl (fun _ => 0)))], [(q2, .inl (cA 0, 24, .inl (fun _ => 0)))], [(q3, .inl (cA 0, 24, .inl (fun _ => 0)))], [(q4, .inl (cA 0, 24, .inl (fun _ => 0)))]]) H := by rw [fl_app] at hP; exact hP
  have hD : va_D A (List.flatten [[(h0, .inr (4, [.int 0, .int (-1), .ref q1, .ref q2, .ref q3, .null, .null]))], [(q1, .inl (cA 0, 24, .inl (fun _ => 0)))], [(q2, .inl (cA 0, 24, .inl (fun _ => 0)))], [(q3, .inl (cA 0, 24, .inl (fun _ => 0)))], [(q4, .inl (cA 0, 24, .inl (fun _ => 0)))]]) := by rw [fl_app] at hD; exact hD
  refine va_putF (D := G) (ci := 4) (v := .ref q4) (ty := (.array .int)) (C := RX4) (T := TX4) (N := 7) hx hb hT ku_4 tyX4 tyX4_ok nmX4 hown hK hP hD hS 0 rfl rfl 5 (by decide) (hT _ kw_9_3) (fun _ h9 => h9) rfl hin rfl (by decide +kernel) rfl rfl (Nat.le_of_ble_eq_true rfl) dX4_init_43 (fun H locs hP hD hS => ?_)
  have hP : va_P G vwCl (List.flatten [[(h0, .inr (4, [.int 0, .int (-1), .ref q1, .ref q2, .ref q3, .ref q4, .null]))], [(q1, .inl (cA 0, 24, .inl (fun _ => 0)))], [(q2, .inl (cA 0, 24, .inl (fun _ => 0)))], [(q3, .inl (cA 0, 24, .inl (fun _ => 0)))], [(q4, .inl (cA 0, 24, .inl (fun _ => 0)))]]) H := hP
  have hD : va_D A (List.flatten [[(h0, .inr (4, [.int 0, .int (-1), .ref q1, .ref q2, .ref q3, .ref q4, .null]))], [(q1, .inl (cA 0, 24, .inl (fun _ => 0)))], [(q2, .inl (cA 0, 24, .inl (fun _ => 0)))], [(q3, .inl (cA 0, 24, .inl (fun _ => 0)))], [(q4, .inl (cA 0, 24, .inl (fun _ => 0)))]]) := hD
  refine lv_aload_n hx hb dX4_init_46 rfl (lv_at hl 0 rfl) ?_
  refine lv_bipush (v := 24) hx hb dX4_init_47 (by decide) ?_
  refine tq_newa (atype := .boolean) (ty := .boolean) (n := 24) (N' := 24) (a0 := (24, .inl (fun _ => 0))) hx hb (hT _ kw_9_4) rfl hK hP hD hS hA 1 (cA 1) rfl (fun _ => rfl) (by decide) (by decide) (by decide) (Nat.le_of_ble_eq_true rfl) (Nat.le_of_ble_eq_true rfl) dX4_init_49 (fun q5 H hP hD hS => ?_)
  refine W.widen (k := 5) (n := 120) (Nat.le_of_ble_eq_true rfl) (Nat.le_of_ble_eq_true rfl) ?_
  have hP : va_P G vwCl (List.flatten [[(h0, .inr (4, [.int 0, .int (-1), .ref q1, .ref q2, .ref q3, .ref q4, .null]))], [(q1, .inl (cA 0, 24, .inl (fun _ => 0)))], [(q2, .inl (cA 0, 24, .inl (fun _ => 0)))], [(q3, .inl (cA 0, 24, .inl (fun _ => 0)))], [(q4, .inl (cA 0, 24, .inl (fun _ => 0)))], [(q5, .inl (cA 1, 24, .inl (fun _ => 0)))]]) H := by rw [fl_app] at hP; exact hP
  have hD : va_D A (List.flatten [[(h0, .inr (4, [.int 0, .int (-1), .ref q1, .ref q2, .ref q3, .ref q4, .null]))], [(q1, .inl (cA 0, 24, .inl (fun _ => 0)))], [(q2, .inl (cA 0, 24, .inl (fun _ => 0)))], [(q3, .inl (cA 0, 24, .inl (fun _ => 0)))], [(q4, .inl (cA 0, 24, .inl (fun _ => 0)))], [(q5, .inl (cA 1, 24, .inl (fun _ => 0)))]]) := by rw [fl_app] at hD; exact hD
  refine va_putF (D := G) (ci := 4) (v := .ref q5) (ty := (.array .boolean)) (C := RX4) (T := TX4) (N := 7) hx hb hT ku_4 tyX4 tyX4_ok nmX4 hown hK hP hD hS 0 rfl rfl 6 (by decide) (hT _ kw_9_5) (fun _ h9 => h9) rfl hin rfl (by decide +kernel) rfl rfl (Nat.le_of_ble_eq_true rfl) dX4_init_51 (fun H locs hP hD hS => ?_)
  have hP : va_P G vwCl (List.flatten [[(h0, .inr (4, [.int 0, .int (-1), .ref q1, .ref q2, .ref q3, .ref q4, .ref q5]))], [(q1, .inl (cA 0, 24, .inl (fun _ => 0)))], [(q2, .inl (cA 0, 24, .inl (fun _ => 0)))], [(q3, .inl (cA 0, 24, .inl (fun _ => 0)))], [(q4, .inl (cA 0, 24, .inl (fun _ => 0)))], [(q5, .inl (cA 1, 24, .inl (fun _ => 0)))]]) H := hP
  have hD : va_D A (List.flatten [[(h0, .inr (4, [.int 0, .int (-1), .ref q1, .ref q2, .ref q3, .ref q4, .ref q5]))], [(q1, .inl (cA 0, 24, .inl (fun _ => 0)))], [(q2, .inl (cA 0, 24, .inl (fun _ => 0)))], [(q3, .inl (cA 0, 24, .inl (fun _ => 0)))], [(q4, .inl (cA 0, 24, .inl (fun _ => 0)))], [(q5, .inl (cA 1, 24, .inl (fun _ => 0)))]]) := hD
  exact W.vret hx hb hr (fun t ht hW => ⟨⟨(fun k => bif Nat.beq k 1 then q1 else bif Nat.beq k 2 then q2 else bif Nat.beq k 3 then q3 else bif Nat.beq k 4 then q4 else bif Nat.beq k 5 then q5 else 0), rfl, trivial, by rw [ht]; exact hP, hD⟩, hS.F ht⟩) hS.2.2 dX4_init_54
set_option maxHeartbeats 8000000 in
set_option maxRecDepth 100000 in
theorem k_X1_init (l : Launch) (G : va_G) (cA : Nat → ClassId) (sz : Nat) (h0 : Nat)  : Met l yX1_init (.code yX1_init cX1_init 1 none :: T0) ({ frames := 1, cells := 2, slots := 128, locals := 13 } : Room) (tqP G cA [.ref h0] ([(h0, .inr (1, [.null, .int 0, .null]))]) sz) (tqQv G cA (fun (u : Nat × Nat) => True) (fun (u : Nat × Nat) => List.flatten [[(h0, .inr (1, [.ref u.1, .int 0, .ref u.2]))], [(u.1, .inl (cA 0, 64, .inl (fun _ => 0)))], [(u.2, .inl (cA 2, 64, .inr (.inl (fun _ => 0))))]]) (va_A ([(h0, .inr (1, [.null, .int 0, .null]))]) sz)) 2 128 (va_A ([(h0, .inr (1, [.null, .int 0, .null]))]) sz) := by
  refine Met.ofW (cc := cX1_init) (maxL := 1) (ret := none) (by decide) rfl ?_
  intro p e s m args below meth c s₁ B hml hv
  obtain ⟨rfl, hsz, hP, hK, hD0, hN⟩ := hv
  have hx := B.exec
  have hb := B.bytes
  have hr := B.returns
  have hts := atoms_spec (ws := .code yX1_init cX1_init 1 none :: T0) B.pre
  have hT : ∀ w ∈ T0, w.before _ s = true := fun w h => hts w (List.mem_cons_of_mem _ h)
  have hown : s.vm.findClass RX1 = some m.cls := findClass_of_methodNamed B.named
  have hlocks := B.notSynchronized
  have hin : meth.name = "<init>" := (name_of_methodNamed B.named B.method).1
  subst hsz
  have hD := hD0.self (sz := s.heap.size)
  generalize hAe : va_A ([(h0, .inr (1, [.null, .int 0, .null]))]) s.heap.size = A at hD ⊢
  have hA : ∀ q : Nat, s.heap.size ≤ q → A q := fun q h => by rw [← hAe]; exact Or.inr h
  have hS : va_S A s.heap s.heap [] := va_S.rf
  have hl := lv_entry ([.ref h0]) (n := 1) (Nat.le_of_ble_eq_true rfl)
  rw [lg_entry_eq]
  generalize (lg_sl ([.ref h0]) ++ List.replicate (1 - (lg_sl ([.ref h0])).length) Slot.unset).toArray = ls at hl ⊢
  have hl : lv_has ls 1 [(0, .ref h0)] := hl
  obtain ⟨H, hH⟩ : ∃ z, z = s.heap := ⟨_, rfl⟩
  rw [← hH] at hP
  have hS : va_S A s.heap H [] := by rw [hH]; exact hS
  suffices hgo : W p l e _ s m _ below meth c H [] 0 0 _ _ by rw [hH] at hgo; exact hgo
  have hO := hN.2.2.2.2
  have hP : va_P G vwCl (List.flatten [[(h0, .inr (1, [.null, .int 0, .null]))]]) H := hP
  have hD : va_D A (List.flatten [[(h0, .inr (1, [.null, .int 0, .null]))]]) := hD
  refine lv_aload_n hx hb dX1_init_0 rfl (lv_at hl 0 rfl) ?_
  refine W.objInit hx hb hown (hT _ kw_6_11) (hT _ kw_1_11) (hT _ kw_1_12) rfl (by rw [hml]; exact hl.1) rfl dX1_init_1 (Nat.le_of_ble_eq_true rfl) (Nat.le_of_ble_eq_true rfl) ?_
  refine W.eq (g2 := F0 m 4 ls []) rfl ?_
  refine lv_aload_n hx hb dX1_init_4 rfl (lv_at hl 0 rfl) ?_
  refine lv_bipush (v := 64) hx hb dX1_init_5 (by decide) ?_
  refine tq_newa (atype := .int) (ty := .int) (n := 64) (N' := 64) (a0 := (64, .inl (fun _ => 0))) hx hb (hT _ kw_2_13) rfl hK hP hD hS hA 0 (cA 0) rfl (fun _ => rfl) (by decide) (by decide) (by decide) (Nat.le_of_ble_eq_true rfl) (Nat.le_of_ble_eq_true rfl) dX1_init_7 (fun q1 H hP hD hS => ?_)
  refine W.widen (k := 1) (n := 64) (Nat.le_of_ble_eq_true rfl) (Nat.le_of_ble_eq_true rfl) ?_
  have hP : va_P G vwCl (List.flatten [[(h0, .inr (1, [.null, .int 0, .null]))], [(q1, .inl (cA 0, 64, .inl (fun _ => 0)))]]) H := by rw [fl_app] at hP; exact hP
  have hD : va_D A (List.flatten [[(h0, .inr (1, [.null, .int 0, .null]))], [(q1, .inl (cA 0, 64, .inl (fun _ => 0)))]]) := by rw [fl_app] at hD; exact hD
  refine va_putF (D := G) (ci := 1) (v := .ref q1) (ty := (.array .int)) (C := RX1) (T := TX1) (N := 3) hx hb hT ku_1 tyX1 tyX1_ok nmX1 hown hK hP hD hS 0 rfl rfl 0 (by decide) (hT _ kw_6_12) (fun _ h9 => h9) rfl hin rfl (by decide +kernel) rfl rfl (Nat.le_of_ble_eq_true rfl) dX1_init_9 (fun H locs hP hD hS => ?_)
  have hP : va_P G vwCl (List.flatten [[(h0, .inr (1, [.ref q1, .int 0, .null]))], [(q1, .inl (cA 0, 64, .inl (fun _ => 0)))]]) H := hP
  have hD : va_D A (List.flatten [[(h0, .inr (1, [.ref q1, .int 0, .null]))], [(q1, .inl (cA 0, 64, .inl (fun _ => 0)))]]) := hD
  refine lv_aload_n hx hb dX1_init_12 rfl (lv_at hl 0 rfl) ?_
  refine lv_bipush (v := 64) hx hb dX1_init_13 (by decide) ?_
  refine tq_newa (atype := .long) (ty := .long) (n := 64) (N' := 64) (a0 := (64, .inr (.inl (fun _ => 0)))) hx hb (hT _ kw_1_6) rfl hK hP hD hS hA 2 (cA 2) rfl (fun _ => rfl) (by decide) (by decide) (by decide) (Nat.le_of_ble_eq_true rfl) (Nat.le_of_ble_eq_true rfl) dX1_init_15 (fun q2 H hP hD hS => ?_)
  refine W.widen (k := 2) (n := 128) (Nat.le_of_ble_eq_true rfl) (Nat.le_of_ble_eq_true rfl) ?_
  have hP : va_P G vwCl (List.flatten [[(h0, .inr (1, [.ref q1, .int 0, .null]))], [(q1, .inl (cA 0, 64, .inl (fun _ => 0)))], [(q2, .inl (cA 2, 64, .inr (.inl (fun _ => 0))))]]) H := by rw [fl_app] at hP; exact hP
  have hD : va_D A (List.flatten [[(h0, .inr (1, [.ref q1, .int 0, .null]))], [(q1, .inl (cA 0, 64, .inl (fun _ => 0)))], [(q2, .inl (cA 2, 64, .inr (.inl (fun _ => 0))))]]) := by rw [fl_app] at hD; exact hD
  refine va_putF (D := G) (ci := 1) (v := .ref q2) (ty := (.array .long)) (C := RX1) (T := TX1) (N := 3) hx hb hT ku_1 tyX1 tyX1_ok nmX1 hown hK hP hD hS 0 rfl rfl 2 (by decide) (hT _ kw_6_13) (fun _ h9 => h9) rfl hin rfl (by decide +kernel) rfl rfl (Nat.le_of_ble_eq_true rfl) dX1_init_17 (fun H locs hP hD hS => ?_)
  have hP : va_P G vwCl (List.flatten [[(h0, .inr (1, [.ref q1, .int 0, .ref q2]))], [(q1, .inl (cA 0, 64, .inl (fun _ => 0)))], [(q2, .inl (cA 2, 64, .inr (.inl (fun _ => 0))))]]) H := hP
  have hD : va_D A (List.flatten [[(h0, .inr (1, [.ref q1, .int 0, .ref q2]))], [(q1, .inl (cA 0, 64, .inl (fun _ => 0)))], [(q2, .inl (cA 2, 64, .inr (.inl (fun _ => 0))))]]) := hD
  exact W.vret hx hb hr (fun t ht hW => ⟨⟨(q1, q2), rfl, trivial, by rw [ht]; exact hP, hD⟩, hS.F ht⟩) hS.2.2 dX1_init_20
-- 71.d
def fTn (t : Nat → Nat) (T : Tr) : List Value := [.int (T 0 0), .int (T 0 1), .int (T 0 2), .int (T 0 3), .int (T 0 4), .int (T 0 5), .int (T 0 6), .int (T 0 7), .ref (t 9), .ref (t 10), .ref (t 11), .ref (t 12), .ref (t 13), .ref (t 14), .ref (t 15), .ref (t 16), .ref (t 17), .ref (t 18), .ref (t 19), .null]
def gTn (cA : Nat → ClassId) (t : Nat → Nat) (T : Tr) : va_W := [(t 0, .inr (6, fTn t T)), (t 9, .inl (cA 0, 6, .inl (T 9))), (t 10, .inl (cA 0, 6, .inl (T 10))), (t 11, .inl (cA 0, 6, .inl (T 11))), (t 12, .inl (cA 0, 6, .inl (T 12))), (t 13, .inl (cA 0, 10, .inl (T 13))), (t 14, .inl (cA 0, 10, .inl (T 14))), (t 15, .inl (cA 0, 10, .inl (T 15))), (t 16, .inl (cA 0, 50, .inl (T 16))), (t 17, .inl (cA 0, 5, .inl (T 17))), (t 18, .inl (cA 0, 5, .inl (T 18))), (t 19, .inl (cA 0, 7, .inl (T 19)))]
def wTBn (cA : Nat → ClassId) (ta pa : Nat → Nat) (T P : Tr) : va_W := List.flatten [gTn cA ta T, gP cA pa P]
theorem sTBn_r19 {cA : Nat → ClassId} {ta pa : Nat → Nat} {T P : Tr} {v : Nat} : (wTBn cA ta pa T P).set 0 (ta 0, .inr (6, (fTn ta T).set 19 (.ref v))) = wTB cA ta pa T P v := rfl
set_option maxHeartbeats 4000000 in
set_option maxRecDepth 100000 in
theorem c_X6_begin_n (l : Launch) (G : va_G) (cA : Nat → ClassId) (sz : Nat) (ta : Nat → Nat) (pa : Nat → Nat) (T : Tr) (P : Tr) (q : Nat)  (T' : Tr) (q' : Nat) (h : f_X6_begin pa T P q = some (T', q')) : Met l yX6_begin (.code yX6_begin cX6_begin 3 none :: T0) ({ frames := 0, cells := 0, slots := 0, locals := 0 } : Room) (tqP G cA [.ref (ta 0), .ref (pa 0)] (wTBn cA ta pa T P) sz) (tqQv G cA (fun (_ : Unit) => True) (fun (_ : Unit) => wTB cA ta pa (T') P (q')) (va_A (wTBn cA ta pa T P) sz)) 0 0 (va_A (wTBn cA ta pa T P) sz) := by
  refine Met.ofW (cc := cX6_begin) (maxL := 3) (ret := none) (by decide) rfl ?_
  intro p e s m args below meth c s₁ B hml hv
  obtain ⟨rfl, hsz, hP, hK, hD0, hN⟩ := hv
  have hx := B.exec
  have hb := B.bytes
  have hr := B.returns
  have hts := atoms_spec (ws := .code yX6_begin cX6_begin 3 none :: T0) B.pre
  have hT : ∀ w ∈ T0, w.before _ s = true := fun w h => hts w (List.mem_cons_of_mem _ h)
  have hown : s.vm.findClass RX6 = some m.cls := findClass_of_methodNamed B.named
  have hlocks := B.notSynchronized
  subst hsz
  have hD := hD0.self (sz := s.heap.size)
  generalize hAe : va_A (wTBn cA ta pa T P) s.heap.size = A at hD ⊢
  have hA : ∀ q : Nat, s.heap.size ≤ q → A q := fun q h => by rw [← hAe]; exact Or.inr h
  have hS : va_S A s.heap s.heap [] := va_S.rf
  have hl := lv_entry ([.ref (ta 0), .ref (pa 0)]) (n := 3) (Nat.le_of_ble_eq_true rfl)
  rw [lg_entry_eq]
  generalize (lg_sl ([.ref (ta 0), .ref (pa 0)]) ++ List.replicate (3 - (lg_sl ([.ref (ta 0), .ref (pa 0)])).length) Slot.unset).toArray = ls at hl ⊢
  have hl : lv_has ls 3 [(0, .ref (ta 0)), (1, .ref (pa 0))] := hl
  have F : tF p s m ([.ref (ta 0), .ref (pa 0)] : List Value).toArray meth c G cA A RX6 cX6_begin 3 none := ⟨hx, hb, hr, hml, hT, hown, hlocks, hK, hN, hA⟩
  obtain ⟨H, hH⟩ : ∃ z, z = s.heap := ⟨_, rfl⟩
  rw [← hH] at hP
  have hS : va_S A s.heap H [] := by rw [hH]; exact hS
  suffices hgo : G_X6_begin p l e s m below meth c G cA A ta pa P T' q' H [] (F0 m 0 ls []) by rw [hH] at hgo; exact hgo
  generalize ([] : List Loc) = locs at hS ⊢
  unfold f_X6_begin at h
  refine lv_aload_n hx hb dX6_begin_0 rfl (lv_at hl 0 rfl) ?_
  refine lv_aload_n hx hb dX6_begin_1 rfl (lv_at hl 1 rfl) ?_
  refine va_put (D := G) (ci := 6) (v := .ref (pa 0)) (ty := (.object "RackTrain$Plan")) (C := RX6) (T := TX6) (N := 20) hx hb hT ku_6 tyX6 tyX6_ok nmX6 hown hK hP hD hS 0 rfl rfl 19 (by decide) (hT _ kw_8_1) (fun _ h9 => h9) rfl (by decide +kernel) rfl rfl (Nat.le_of_ble_eq_true rfl) dX6_begin_2 (fun H locs hP hD hS => ?_)
  rw [sTBn_r19] at hP hD
  refine lv_aload_n hx hb dX6_begin_5 rfl (lv_at hl 0 rfl) ?_
  refine lv_iconst (v := 0) hx hb dX6_begin_6 (by decide) ?_
  refine va_put (D := G) (ci := 6) (v := .int 0) (ty := .int) (C := RX6) (T := TX6) (N := 20) hx hb hT ku_6 tyX6 tyX6_ok nmX6 hown hK hP hD hS 0 rfl rfl 0 (by decide) (hT _ kw_8_2) (fun _ h9 => h9) rfl (by decide +kernel) rfl rfl (Nat.le_of_ble_eq_true rfl) dX6_begin_7 (fun H locs hP hD hS => ?_)
  obtain ⟨T_1, eT_1, h⟩ := tx_lt h
  rw [sTB_ta_f0, eT_1] at hP hD
  refine lv_aload_n hx hb dX6_begin_10 rfl (lv_at hl 0 rfl) ?_
  refine lv_iconst (v := 0) hx hb dX6_begin_11 (by decide) ?_
  refine va_put (D := G) (ci := 6) (v := .int 0) (ty := .int) (C := RX6) (T := TX6) (N := 20) hx hb hT ku_6 tyX6 tyX6_ok nmX6 hown hK hP hD hS 0 rfl rfl 1 (by decide) (hT _ kw_8_3) (fun _ h9 => h9) rfl (by decide +kernel) rfl rfl (Nat.le_of_ble_eq_true rfl) dX6_begin_12 (fun H locs hP hD hS => ?_)
  obtain ⟨T_2, eT_2, h⟩ := tx_lt h
  rw [sTB_ta_f1, eT_2] at hP hD
  refine lv_aload_n hx hb dX6_begin_15 rfl (lv_at hl 0 rfl) ?_
  refine lv_aload_n hx hb dX6_begin_16 rfl (lv_at hl 1 rfl) ?_
  refine va_get (D := G) (ci := 2) (v := .int (P 0 6)) (C := RX2) (T := TX2) (N := 19) hx hb hT ku_2 hown hK hP 12 rfl rfl 6 (by decide) (hT _ kw_8_4) (fun _ h9 => h9) rfl dX6_begin_17 ?_
  refine va_put (D := G) (ci := 6) (v := .int (P 0 6)) (ty := .int) (C := RX6) (T := TX6) (N := 20) hx hb hT ku_6 tyX6 tyX6_ok nmX6 hown hK hP hD hS 0 rfl rfl 2 (by decide) (hT _ kw_8_5) (fun _ h9 => h9) rfl (by decide +kernel) rfl rfl (Nat.le_of_ble_eq_true rfl) dX6_begin_20 (fun H locs hP hD hS => ?_)
  obtain ⟨T_3, eT_3, h⟩ := tx_lt h
  rw [sTB_ta_f2, eT_3] at hP hD
  refine lv_aload_n hx hb dX6_begin_23 rfl (lv_at hl 0 rfl) ?_
  refine lv_aload_n hx hb dX6_begin_24 rfl (lv_at hl 1 rfl) ?_
  refine va_get (D := G) (ci := 2) (v := .int (P 0 4)) (C := RX2) (T := TX2) (N := 19) hx hb hT ku_2 hown hK hP 12 rfl rfl 4 (by decide) (hT _ kw_8_6) (fun _ h9 => h9) rfl dX6_begin_25 ?_
  refine va_put (D := G) (ci := 6) (v := .int (P 0 4)) (ty := .int) (C := RX6) (T := TX6) (N := 20) hx hb hT ku_6 tyX6 tyX6_ok nmX6 hown hK hP hD hS 0 rfl rfl 3 (by decide) (hT _ kw_8_7) (fun _ h9 => h9) rfl (by decide +kernel) rfl rfl (Nat.le_of_ble_eq_true rfl) dX6_begin_28 (fun H locs hP hD hS => ?_)
  obtain ⟨T_4, eT_4, h⟩ := tx_lt h
  rw [sTB_ta_f3, eT_4] at hP hD
  refine lv_aload_n hx hb dX6_begin_31 rfl (lv_at hl 0 rfl) ?_
  refine lv_aload_n hx hb dX6_begin_32 rfl (lv_at hl 1 rfl) ?_
  refine va_get (D := G) (ci := 2) (v := .int (P 0 5)) (C := RX2) (T := TX2) (N := 19) hx hb hT ku_2 hown hK hP 12 rfl rfl 5 (by decide) (hT _ kw_8_8) (fun _ h9 => h9) rfl dX6_begin_33 ?_
  refine va_put (D := G) (ci := 6) (v := .int (P 0 5)) (ty := .int) (C := RX6) (T := TX6) (N := 20) hx hb hT ku_6 tyX6 tyX6_ok nmX6 hown hK hP hD hS 0 rfl rfl 4 (by decide) (hT _ kw_8_9) (fun _ h9 => h9) rfl (by decide +kernel) rfl rfl (Nat.le_of_ble_eq_true rfl) dX6_begin_36 (fun H locs hP hD hS => ?_)
  obtain ⟨T_5, eT_5, h⟩ := tx_lt h
  rw [sTB_ta_f4, eT_5] at hP hD
  refine lv_iconst (v := 0) hx hb dX6_begin_39 (by decide) ?_
  refine lv_istore_n (lv' := [(2, .int 0), (0, .ref (ta 0)), (1, .ref (pa 0))]) hx hb dX6_begin_40 rfl hl (by decide) rfl (fun ls hl => ?_)
  exact w_X6_begin_L41 F 2000 0 T_5 H locs ls h hP hD hS (lv_sub hl [1, 2, 0] rfl)
-- 71.e
set_option maxHeartbeats 8000000 in
set_option maxRecDepth 100000 in
theorem k_X6_init (l : Launch) (G : va_G) (cA : Nat → ClassId) (sz : Nat) (h0 : Nat) (pa : Nat → Nat) (P : Tr) (hPb : iR BP P) : Met l yX6_init (.code yX6_init cX6_init 2 none :: T0) ({ frames := 1, cells := 11, slots := 121, locals := 22 } : Room) (tqP G cA [.ref h0, .ref (pa 0)] (List.flatten [[(h0, .inr (6, [.int 0, .int 0, .int 0, .int 0, .int 0, .int 0, .int 0, .int 0, .null, .null, .null, .null, .null, .null, .null, .null, .null, .null, .null, .null]))], gP cA pa P]) sz) (tqQv G cA (fun (u : (Nat → Nat) × Tr) => u.1 0 = h0 ∧ iR BT u.2 ∧ ∃ T1 q9, f_X6_begin pa T0Z P 0 = some (T1, q9) ∧ u.2 = st (st (st T1 0 5 0) 0 6 1) 0 7 1) (fun (u : (Nat → Nat) × Tr) => wTB cA u.1 pa u.2 P (pa 0)) (va_A (List.flatten [[(h0, .inr (6, [.int 0, .int 0, .int 0, .int 0, .int 0, .int 0, .int 0, .int 0, .null, .null, .null, .null, .null, .null, .null, .null, .null, .null, .null, .null]))], gP cA pa P]) sz)) 11 121 (va_A (List.flatten [[(h0, .inr (6, [.int 0, .int 0, .int 0, .int 0, .int 0, .int 0, .int 0, .int 0, .null, .null, .null, .null, .null, .null, .null, .null, .null, .null, .null, .null]))], gP cA pa P]) sz) := by
  refine Met.ofW (cc := cX6_init) (maxL := 2) (ret := none) (by decide) rfl ?_
  intro p e s m args below meth c s₁ B hml hv
  obtain ⟨rfl, hsz, hP, hK, hD0, hN⟩ := hv
  have hx := B.exec
  have hb := B.bytes
  have hr := B.returns
  have hts := atoms_spec (ws := .code yX6_init cX6_init 2 none :: T0) B.pre
  have hT : ∀ w ∈ T0, w.before _ s = true := fun w h => hts w (List.mem_cons_of_mem _ h)
  have hown : s.vm.findClass RX6 = some m.cls := findClass_of_methodNamed B.named
  have hlocks := B.notSynchronized
  have hin : meth.name = "<init>" := (name_of_methodNamed B.named B.method).1
  subst hsz
  have hD := hD0.self (sz := s.heap.size)
  generalize hAe : va_A (List.flatten [[(h0, .inr (6, [.int 0, .int 0, .int 0, .int 0, .int 0, .int 0, .int 0, .int 0, .null, .null, .null, .null, .null, .null, .null, .null, .null, .null, .null, .null]))], gP cA pa P]) s.heap.size = A at hD ⊢
  have hA : ∀ q : Nat, s.heap.size ≤ q → A q := fun q h => by rw [← hAe]; exact Or.inr h
  have hS : va_S A s.heap s.heap [] := va_S.rf
  have hl := lv_entry ([.ref h0, .ref (pa 0)]) (n := 2) (Nat.le_of_ble_eq_true rfl)
  rw [lg_entry_eq]
  generalize (lg_sl ([.ref h0, .ref (pa 0)]) ++ List.replicate (2 - (lg_sl ([.ref h0, .ref (pa 0)])).length) Slot.unset).toArray = ls at hl ⊢
  have hl : lv_has ls 2 [(0, .ref h0), (1, .ref (pa 0))] := hl
  obtain ⟨H, hH⟩ : ∃ z, z = s.heap := ⟨_, rfl⟩
  rw [← hH] at hP
  have hS : va_S A s.heap H [] := by rw [hH]; exact hS
  suffices hgo : W p l e _ s m _ below meth c H [] 0 0 _ _ by rw [hH] at hgo; exact hgo
  have hO := hN.2.2.2.2
  refine lv_aload_n hx hb dX6_init_0 rfl (lv_at hl 0 rfl) ?_
  refine W.objInit hx hb hown (hT _ kw_7_6) (hT _ kw_1_11) (hT _ kw_1_12) rfl (by rw [hml]; exact hl.1) rfl dX6_init_1 (Nat.le_of_ble_eq_true rfl) (Nat.le_of_ble_eq_true rfl) ?_
  refine W.eq (g2 := F0 m 4 ls []) rfl ?_
  refine lv_aload_n hx hb dX6_init_4 rfl (lv_at hl 0 rfl) ?_
  refine lv_bipush (v := 6) hx hb dX6_init_5 (by decide) ?_
  refine tq_newa (atype := .int) (ty := .int) (n := 6) (N' := 6) (a0 := (6, .inl (fun _ => 0))) hx hb (hT _ kw_2_13) rfl hK hP hD hS hA 0 (cA 0) rfl (fun _ => rfl) (by decide) (by decide) (by decide) (Nat.le_of_ble_eq_true rfl) (Nat.le_of_ble_eq_true rfl) dX6_init_7 (fun q1 H hP hD hS => ?_)
  refine W.widen (k := 1) (n := 6) (Nat.le_of_ble_eq_true rfl) (Nat.le_of_ble_eq_true rfl) ?_
  have hP : va_P G vwCl (List.flatten [[(h0, .inr (6, [.int 0, .int 0, .int 0, .int 0, .int 0, .int 0, .int 0, .int 0, .null, .null, .null, .null, .null, .null, .null, .null, .null, .null, .null, .null]))], gP cA pa P, [(q1, .inl (cA 0, 6, .inl (fun _ => 0)))]]) H := by rw [fl_app] at hP; exact hP
  have hD : va_D A (List.flatten [[(h0, .inr (6, [.int 0, .int 0, .int 0, .int 0, .int 0, .int 0, .int 0, .int 0, .null, .null, .null, .null, .null, .null, .null, .null, .null, .null, .null, .null]))], gP cA pa P, [(q1, .inl (cA 0, 6, .inl (fun _ => 0)))]]) := by rw [fl_app] at hD; exact hD
  refine va_putF (D := G) (ci := 6) (v := .ref q1) (ty := (.array .int)) (C := RX6) (T := TX6) (N := 20) hx hb hT ku_6 tyX6 tyX6_ok nmX6 hown hK hP hD hS 0 rfl rfl 8 (by decide) (hT _ kw_7_7) (fun _ h9 => h9) rfl hin rfl (by decide +kernel) rfl rfl (Nat.le_of_ble_eq_true rfl) dX6_init_9 (fun H locs hP hD hS => ?_)
  have hP : va_P G vwCl (List.flatten [[(h0, .inr (6, [.int 0, .int 0, .int 0, .int 0, .int 0, .int 0, .int 0, .int 0, .ref q1, .null, .null, .null, .null, .null, .null, .null, .null, .null, .null, .null]))], gP cA pa P, [(q1, .inl (cA 0, 6, .inl (fun _ => 0)))]]) H := hP
  have hD : va_D A (List.flatten [[(h0, .inr (6, [.int 0, .int 0, .int 0, .int 0, .int 0, .int 0, .int 0, .int 0, .ref q1, .null, .null, .null, .null, .null, .null, .null, .null, .null, .null, .null]))], gP cA pa P, [(q1, .inl (cA 0, 6, .inl (fun _ => 0)))]]) := hD
  refine lv_aload_n hx hb dX6_init_12 rfl (lv_at hl 0 rfl) ?_
  refine lv_bipush (v := 6) hx hb dX6_init_13 (by decide) ?_
  refine tq_newa (atype := .int) (ty := .int) (n := 6) (N' := 6) (a0 := (6, .inl (fun _ => 0))) hx hb (hT _ kw_2_13) rfl hK hP hD hS hA 0 (cA 0) rfl (fun _ => rfl) (by decide) (by decide) (by decide) (Nat.le_of_ble_eq_true rfl) (Nat.le_of_ble_eq_true rfl) dX6_init_15 (fun q2 H hP hD hS => ?_)
  refine W.widen (k := 2) (n := 12) (Nat.le_of_ble_eq_true rfl) (Nat.le_of_ble_eq_true rfl) ?_
  have hP : va_P G vwCl (List.flatten [[(h0, .inr (6, [.int 0, .int 0, .int 0, .int 0, .int 0, .int 0, .int 0, .int 0, .ref q1, .null, .null, .null, .null, .null, .null, .null, .null, .null, .null, .null]))], gP cA pa P, [(q1, .inl (cA 0, 6, .inl (fun _ => 0)))], [(q2, .inl (cA 0, 6, .inl (fun _ => 0)))]]) H := by rw [fl_app] at hP; exact hP
  have hD : va_D A (List.flatten [[(h0, .inr (6, [.int 0, .int 0, .int 0, .int 0, .int 0, .int 0, .int 0, .int 0, .ref q1, .null, .null, .null, .null, .null, .null, .null, .null, .null, .null, .null]))], gP cA pa P, [(q1, .inl (cA 0, 6, .inl (fun _ => 0)))], [(q2, .inl (cA 0, 6, .inl (fun _ => 0)))]]) := by rw [fl_app] at hD; exact hD
  refine va_putF (D := G) (ci := 6) (v := .ref q2) (ty := (.array .int)) (C := RX6) (T := TX6) (N := 20) hx hb hT ku_6 tyX6 tyX6_ok nmX6 hown hK hP hD hS 0 rfl rfl 9 (by decide) (hT _ kw_7_8) (fun _ h9 => h9) rfl hin rfl (by decide +kernel) rfl rfl (Nat.le_of_ble_eq_true rfl) dX6_init_17 (fun H locs hP hD hS => ?_)
  have hP : va_P G vwCl (List.flatten [[(h0, .inr (6, [.int 0, .int 0, .int 0, .int 0, .int 0, .int 0, .int 0, .int 0, .ref q1, .ref q2, .null, .null, .null, .null, .null, .null, .null, .null, .null, .null]))], gP cA pa P, [(q1, .inl (cA 0, 6, .inl (fun _ => 0)))], [(q2, .inl (cA 0, 6, .inl (fun _ => 0)))]]) H := hP
  have hD : va_D A (List.flatten [[(h0, .inr (6, [.int 0, .int 0, .int 0, .int 0, .int 0, .int 0, .int 0, .int 0, .ref q1, .ref q2, .null, .null, .null, .null, .null, .null, .null, .null, .null, .null]))], gP cA pa P, [(q1, .inl (cA 0, 6, .inl (fun _ => 0)))], [(q2, .inl (cA 0, 6, .inl (fun _ => 0)))]]) := hD
  refine lv_aload_n hx hb dX6_init_20 rfl (lv_at hl 0 rfl) ?_
  refine lv_bipush (v := 6) hx hb dX6_init_21 (by decide) ?_
  refine tq_newa (atype := .int) (ty := .int) (n := 6) (N' := 6) (a0 := (6, .inl (fun _ => 0))) hx hb (hT _ kw_2_13) rfl hK hP hD hS hA 0 (cA 0) rfl (fun _ => rfl) (by decide) (by decide) (by decide) (Nat.le_of_ble_eq_true rfl) (Nat.le_of_ble_eq_true rfl) dX6_init_23 (fun q3 H hP hD hS => ?_)
  refine W.widen (k := 3) (n := 18) (Nat.le_of_ble_eq_true rfl) (Nat.le_of_ble_eq_true rfl) ?_
  have hP : va_P G vwCl (List.flatten [[(h0, .inr (6, [.int 0, .int 0, .int 0, .int 0, .int 0, .int 0, .int 0, .int 0, .ref q1, .ref q2, .null, .null, .null, .null, .null, .null, .null, .null, .null, .null]))], gP cA pa P, [(q1, .inl (cA 0, 6, .inl (fun _ => 0)))], [(q2, .inl (cA 0, 6, .inl (fun _ => 0)))], [(q3, .inl (cA 0, 6, .inl (fun _ => 0)))]]) H := by rw [fl_app] at hP; exact hP
  have hD : va_D A (List.flatten [[(h0, .inr (6, [.int 0, .int 0, .int 0, .int 0, .int 0, .int 0, .int 0, .int 0, .ref q1, .ref q2, .null, .null, .null, .null, .null, .null, .null, .null, .null, .null]))], gP cA pa P, [(q1, .inl (cA 0, 6, .inl (fun _ => 0)))], [(q2, .inl (cA 0, 6, .inl (fun _ => 0)))], [(q3, .inl (cA 0, 6, .inl (fun _ => 0)))]]) := by rw [fl_app] at hD; exact hD
  refine va_putF (D := G) (ci := 6) (v := .ref q3) (ty := (.array .int)) (C := RX6) (T := TX6) (N := 20) hx hb hT ku_6 tyX6 tyX6_ok nmX6 hown hK hP hD hS 0 rfl rfl 10 (by decide) (hT _ kw_7_9) (fun _ h9 => h9) rfl hin rfl (by decide +kernel) rfl rfl (Nat.le_of_ble_eq_true rfl) dX6_init_25 (fun H locs hP hD hS => ?_)
  have hP : va_P G vwCl (List.flatten [[(h0, .inr (6, [.int 0, .int 0, .int 0, .int 0, .int 0, .int 0, .int 0, .int 0, .ref q1, .ref q2, .ref q3, .null, .null, .null, .null, .null, .null, .null, .null, .null]))], gP cA pa P, [(q1, .inl (cA 0, 6, .inl (fun _ => 0)))], [(q2, .inl (cA 0, 6, .inl (fun _ => 0)))], [(q3, .inl (cA 0, 6, .inl (fun _ => 0)))]]) H := hP
  have hD : va_D A (List.flatten [[(h0, .inr (6, [.int 0, .int 0, .int 0, .int 0, .int 0, .int 0, .int 0, .int 0, .ref q1, .ref q2, .ref q3, .null, .null, .null, .null, .null, .null, .null, .null, .null]))], gP cA pa P, [(q1, .inl (cA 0, 6, .inl (fun _ => 0)))], [(q2, .inl (cA 0, 6, .inl (fun _ => 0)))], [(q3, .inl (cA 0, 6, .inl (fun _ => 0)))]]) := hD
  refine lv_aload_n hx hb dX6_init_28 rfl (lv_at hl 0 rfl) ?_
  refine lv_bipush (v := 6) hx hb dX6_init_29 (by decide) ?_
  refine tq_newa (atype := .int) (ty := .int) (n := 6) (N' := 6) (a0 := (6, .inl (fun _ => 0))) hx hb (hT _ kw_2_13) rfl hK hP hD hS hA 0 (cA 0) rfl (fun _ => rfl) (by decide) (by decide) (by decide) (Nat.le_of_ble_eq_true rfl) (Nat.le_of_ble_eq_true rfl) dX6_init_31 (fun q4 H hP hD hS => ?_)
  refine W.widen (k := 4) (n := 24) (Nat.le_of_ble_eq_true rfl) (Nat.le_of_ble_eq_true rfl) ?_
  have hP : va_P G vwCl (List.flatten [[(h0, .inr (6, [.int 0, .int 0, .int 0, .int 0, .int 0, .int 0, .int 0, .int 0, .ref q1, .ref q2, .ref q3, .null, .null, .null, .null, .null, .null, .null, .null, .null]))], gP cA pa P, [(q1, .inl (cA 0, 6, .inl (fun _ => 0)))], [(q2, .inl (cA 0, 6, .inl (fun _ => 0)))], [(q3, .inl (cA 0, 6, .inl (fun _ => 0)))], [(q4, .inl (cA 0, 6, .inl (fun _ => 0)))]]) H := by rw [fl_app] at hP; exact hP
  have hD : va_D A (List.flatten [[(h0, .inr (6, [.int 0, .int 0, .int 0, .int 0, .int 0, .int 0, .int 0, .int 0, .ref q1, .ref q2, .ref q3, .null, .null, .null, .null, .null, .null, .null, .null, .null]))], gP cA pa P, [(q1, .inl (cA 0, 6, .inl (fun _ => 0)))], [(q2, .inl (cA 0, 6, .inl (fun _ => 0)))], [(q3, .inl (cA 0, 6, .inl (fun _ => 0)))], [(q4, .inl (cA 0, 6, .inl (fun _ => 0)))]]) := by rw [fl_app] at hD; exact hD
  refine va_putF (D := G) (ci := 6) (v := .ref q4) (ty := (.array .int)) (C := RX6) (T := TX6) (N := 20) hx hb hT ku_6 tyX6 tyX6_ok nmX6 hown hK hP hD hS 0 rfl rfl 11 (by decide) (hT _ kw_7_10) (fun _ h9 => h9) rfl hin rfl (by decide +kernel) rfl rfl (Nat.le_of_ble_eq_true rfl) dX6_init_33 (fun H locs hP hD hS => ?_)
  have hP : va_P G vwCl (List.flatten [[(h0, .inr (6, [.int 0, .int 0, .int 0, .int 0, .int 0, .int 0, .int 0, .int 0, .ref q1, .ref q2, .ref q3, .ref q4, .null, .null, .null, .null, .null, .null, .null, .null]))], gP cA pa P, [(q1, .inl (cA 0, 6, .inl (fun _ => 0)))], [(q2, .inl (cA 0, 6, .inl (fun _ => 0)))], [(q3, .inl (cA 0, 6, .inl (fun _ => 0)))], [(q4, .inl (cA 0, 6, .inl (fun _ => 0)))]]) H := hP
  have hD : va_D A (List.flatten [[(h0, .inr (6, [.int 0, .int 0, .int 0, .int 0, .int 0, .int 0, .int 0, .int 0, .ref q1, .ref q2, .ref q3, .ref q4, .null, .null, .null, .null, .null, .null, .null, .null]))], gP cA pa P, [(q1, .inl (cA 0, 6, .inl (fun _ => 0)))], [(q2, .inl (cA 0, 6, .inl (fun _ => 0)))], [(q3, .inl (cA 0, 6, .inl (fun _ => 0)))], [(q4, .inl (cA 0, 6, .inl (fun _ => 0)))]]) := hD
  refine lv_aload_n hx hb dX6_init_36 rfl (lv_at hl 0 rfl) ?_
  refine lv_bipush (v := 10) hx hb dX6_init_37 (by decide) ?_
  refine tq_newa (atype := .int) (ty := .int) (n := 10) (N' := 10) (a0 := (10, .inl (fun _ => 0))) hx hb (hT _ kw_2_13) rfl hK hP hD hS hA 0 (cA 0) rfl (fun _ => rfl) (by decide) (by decide) (by decide) (Nat.le_of_ble_eq_true rfl) (Nat.le_of_ble_eq_true rfl) dX6_init_39 (fun q5 H hP hD hS => ?_)
  refine W.widen (k := 5) (n := 34) (Nat.le_of_ble_eq_true rfl) (Nat.le_of_ble_eq_true rfl) ?_
  have hP : va_P G vwCl (List.flatten [[(h0, .inr (6, [.int 0, .int 0, .int 0, .int 0, .int 0, .int 0, .int 0, .int 0, .ref q1, .ref q2, .ref q3, .ref q4, .null, .null, .null, .null, .null, .null, .null, .null]))], gP cA pa P, [(q1, .inl (cA 0, 6, .inl (fun _ => 0)))], [(q2, .inl (cA 0, 6, .inl (fun _ => 0)))], [(q3, .inl (cA 0, 6, .inl (fun _ => 0)))], [(q4, .inl (cA 0, 6, .inl (fun _ => 0)))], [(q5, .inl (cA 0, 10, .inl (fun _ => 0)))]]) H := by rw [fl_app] at hP; exact hP
  have hD : va_D A (List.flatten [[(h0, .inr (6, [.int 0, .int 0, .int 0, .int 0, .int 0, .int 0, .int 0, .int 0, .ref q1, .ref q2, .ref q3, .ref q4, .null, .null, .null, .null, .null, .null, .null, .null]))], gP cA pa P, [(q1, .inl (cA 0, 6, .inl (fun _ => 0)))], [(q2, .inl (cA 0, 6, .inl (fun _ => 0)))], [(q3, .inl (cA 0, 6, .inl (fun _ => 0)))], [(q4, .inl (cA 0, 6, .inl (fun _ => 0)))], [(q5, .inl (cA 0, 10, .inl (fun _ => 0)))]]) := by rw [fl_app] at hD; exact hD
  refine va_putF (D := G) (ci := 6) (v := .ref q5) (ty := (.array .int)) (C := RX6) (T := TX6) (N := 20) hx hb hT ku_6 tyX6 tyX6_ok nmX6 hown hK hP hD hS 0 rfl rfl 12 (by decide) (hT _ kw_7_11) (fun _ h9 => h9) rfl hin rfl (by decide +kernel) rfl rfl (Nat.le_of_ble_eq_true rfl) dX6_init_41 (fun H locs hP hD hS => ?_)
  have hP : va_P G vwCl (List.flatten [[(h0, .inr (6, [.int 0, .int 0, .int 0, .int 0, .int 0, .int 0, .int 0, .int 0, .ref q1, .ref q2, .ref q3, .ref q4, .ref q5, .null, .null, .null, .null, .null, .null, .null]))], gP cA pa P, [(q1, .inl (cA 0, 6, .inl (fun _ => 0)))], [(q2, .inl (cA 0, 6, .inl (fun _ => 0)))], [(q3, .inl (cA 0, 6, .inl (fun _ => 0)))], [(q4, .inl (cA 0, 6, .inl (fun _ => 0)))], [(q5, .inl (cA 0, 10, .inl (fun _ => 0)))]]) H := hP
  have hD : va_D A (List.flatten [[(h0, .inr (6, [.int 0, .int 0, .int 0, .int 0, .int 0, .int 0, .int 0, .int 0, .ref q1, .ref q2, .ref q3, .ref q4, .ref q5, .null, .null, .null, .null, .null, .null, .null]))], gP cA pa P, [(q1, .inl (cA 0, 6, .inl (fun _ => 0)))], [(q2, .inl (cA 0, 6, .inl (fun _ => 0)))], [(q3, .inl (cA 0, 6, .inl (fun _ => 0)))], [(q4, .inl (cA 0, 6, .inl (fun _ => 0)))], [(q5, .inl (cA 0, 10, .inl (fun _ => 0)))]]) := hD
  refine lv_aload_n hx hb dX6_init_44 rfl (lv_at hl 0 rfl) ?_
  refine lv_bipush (v := 10) hx hb dX6_init_45 (by decide) ?_
  refine tq_newa (atype := .int) (ty := .int) (n := 10) (N' := 10) (a0 := (10, .inl (fun _ => 0))) hx hb (hT _ kw_2_13) rfl hK hP hD hS hA 0 (cA 0) rfl (fun _ => rfl) (by decide) (by decide) (by decide) (Nat.le_of_ble_eq_true rfl) (Nat.le_of_ble_eq_true rfl) dX6_init_47 (fun q6 H hP hD hS => ?_)
  refine W.widen (k := 6) (n := 44) (Nat.le_of_ble_eq_true rfl) (Nat.le_of_ble_eq_true rfl) ?_
  have hP : va_P G vwCl (List.flatten [[(h0, .inr (6, [.int 0, .int 0, .int 0, .int 0, .int 0, .int 0, .int 0, .int 0, .ref q1, .ref q2, .ref q3, .ref q4, .ref q5, .null, .null, .null, .null, .null, .null, .null]))], gP cA pa P, [(q1, .inl (cA 0, 6, .inl (fun _ => 0)))], [(q2, .inl (cA 0, 6, .inl (fun _ => 0)))], [(q3, .inl (cA 0, 6, .inl (fun _ => 0)))], [(q4, .inl (cA 0, 6, .inl (fun _ => 0)))], [(q5, .inl (cA 0, 10, .inl (fun _ => 0)))], [(q6, .inl (cA 0, 10, .inl (fun _ => 0)))]]) H := by rw [fl_app] at hP; exact hP
  have hD : va_D A (List.flatten [[(h0, .inr (6, [.int 0, .int 0, .int 0, .int 0, .int 0, .int 0, .int 0, .int 0, .ref q1, .ref q2, .ref q3, .ref q4, .ref q5, .null, .null, .null, .null, .null, .null, .null]))], gP cA pa P, [(q1, .inl (cA 0, 6, .inl (fun _ => 0)))], [(q2, .inl (cA 0, 6, .inl (fun _ => 0)))], [(q3, .inl (cA 0, 6, .inl (fun _ => 0)))], [(q4, .inl (cA 0, 6, .inl (fun _ => 0)))], [(q5, .inl (cA 0, 10, .inl (fun _ => 0)))], [(q6, .inl (cA 0, 10, .inl (fun _ => 0)))]]) := by rw [fl_app] at hD; exact hD
  refine va_putF (D := G) (ci := 6) (v := .ref q6) (ty := (.array .int)) (C := RX6) (T := TX6) (N := 20) hx hb hT ku_6 tyX6 tyX6_ok nmX6 hown hK hP hD hS 0 rfl rfl 13 (by decide) (hT _ kw_7_12) (fun _ h9 => h9) rfl hin rfl (by decide +kernel) rfl rfl (Nat.le_of_ble_eq_true rfl) dX6_init_49 (fun H locs hP hD hS => ?_)
  have hP : va_P G vwCl (List.flatten [[(h0, .inr (6, [.int 0, .int 0, .int 0, .int 0, .int 0, .int 0, .int 0, .int 0, .ref q1, .ref q2, .ref q3, .ref q4, .ref q5, .ref q6, .null, .null, .null, .null, .null, .null]))], gP cA pa P, [(q1, .inl (cA 0, 6, .inl (fun _ => 0)))], [(q2, .inl (cA 0, 6, .inl (fun _ => 0)))], [(q3, .inl (cA 0, 6, .inl (fun _ => 0)))], [(q4, .inl (cA 0, 6, .inl (fun _ => 0)))], [(q5, .inl (cA 0, 10, .inl (fun _ => 0)))], [(q6, .inl (cA 0, 10, .inl (fun _ => 0)))]]) H := hP
  have hD : va_D A (List.flatten [[(h0, .inr (6, [.int 0, .int 0, .int 0, .int 0, .int 0, .int 0, .int 0, .int 0, .ref q1, .ref q2, .ref q3, .ref q4, .ref q5, .ref q6, .null, .null, .null, .null, .null, .null]))], gP cA pa P, [(q1, .inl (cA 0, 6, .inl (fun _ => 0)))], [(q2, .inl (cA 0, 6, .inl (fun _ => 0)))], [(q3, .inl (cA 0, 6, .inl (fun _ => 0)))], [(q4, .inl (cA 0, 6, .inl (fun _ => 0)))], [(q5, .inl (cA 0, 10, .inl (fun _ => 0)))], [(q6, .inl (cA 0, 10, .inl (fun _ => 0)))]]) := hD
  refine lv_aload_n hx hb dX6_init_52 rfl (lv_at hl 0 rfl) ?_
  refine lv_bipush (v := 10) hx hb dX6_init_53 (by decide) ?_
  refine tq_newa (atype := .int) (ty := .int) (n := 10) (N' := 10) (a0 := (10, .inl (fun _ => 0))) hx hb (hT _ kw_2_13) rfl hK hP hD hS hA 0 (cA 0) rfl (fun _ => rfl) (by decide) (by decide) (by decide) (Nat.le_of_ble_eq_true rfl) (Nat.le_of_ble_eq_true rfl) dX6_init_55 (fun q7 H hP hD hS => ?_)
  refine W.widen (k := 7) (n := 54) (Nat.le_of_ble_eq_true rfl) (Nat.le_of_ble_eq_true rfl) ?_
  have hP : va_P G vwCl (List.flatten [[(h0, .inr (6, [.int 0, .int 0, .int 0, .int 0, .int 0, .int 0, .int 0, .int 0, .ref q1, .ref q2, .ref q3, .ref q4, .ref q5, .ref q6, .null, .null, .null, .null, .null, .null]))], gP cA pa P, [(q1, .inl (cA 0, 6, .inl (fun _ => 0)))], [(q2, .inl (cA 0, 6, .inl (fun _ => 0)))], [(q3, .inl (cA 0, 6, .inl (fun _ => 0)))], [(q4, .inl (cA 0, 6, .inl (fun _ => 0)))], [(q5, .inl (cA 0, 10, .inl (fun _ => 0)))], [(q6, .inl (cA 0, 10, .inl (fun _ => 0)))], [(q7, .inl (cA 0, 10, .inl (fun _ => 0)))]]) H := by rw [fl_app] at hP; exact hP
  have hD : va_D A (List.flatten [[(h0, .inr (6, [.int 0, .int 0, .int 0, .int 0, .int 0, .int 0, .int 0, .int 0, .ref q1, .ref q2, .ref q3, .ref q4, .ref q5, .ref q6, .null, .null, .null, .null, .null, .null]))], gP cA pa P, [(q1, .inl (cA 0, 6, .inl (fun _ => 0)))], [(q2, .inl (cA 0, 6, .inl (fun _ => 0)))], [(q3, .inl (cA 0, 6, .inl (fun _ => 0)))], [(q4, .inl (cA 0, 6, .inl (fun _ => 0)))], [(q5, .inl (cA 0, 10, .inl (fun _ => 0)))], [(q6, .inl (cA 0, 10, .inl (fun _ => 0)))], [(q7, .inl (cA 0, 10, .inl (fun _ => 0)))]]) := by rw [fl_app] at hD; exact hD
  refine va_putF (D := G) (ci := 6) (v := .ref q7) (ty := (.array .int)) (C := RX6) (T := TX6) (N := 20) hx hb hT ku_6 tyX6 tyX6_ok nmX6 hown hK hP hD hS 0 rfl rfl 14 (by decide) (hT _ kw_7_13) (fun _ h9 => h9) rfl hin rfl (by decide +kernel) rfl rfl (Nat.le_of_ble_eq_true rfl) dX6_init_57 (fun H locs hP hD hS => ?_)
  have hP : va_P G vwCl (List.flatten [[(h0, .inr (6, [.int 0, .int 0, .int 0, .int 0, .int 0, .int 0, .int 0, .int 0, .ref q1, .ref q2, .ref q3, .ref q4, .ref q5, .ref q6, .ref q7, .null, .null, .null, .null, .null]))], gP cA pa P, [(q1, .inl (cA 0, 6, .inl (fun _ => 0)))], [(q2, .inl (cA 0, 6, .inl (fun _ => 0)))], [(q3, .inl (cA 0, 6, .inl (fun _ => 0)))], [(q4, .inl (cA 0, 6, .inl (fun _ => 0)))], [(q5, .inl (cA 0, 10, .inl (fun _ => 0)))], [(q6, .inl (cA 0, 10, .inl (fun _ => 0)))], [(q7, .inl (cA 0, 10, .inl (fun _ => 0)))]]) H := hP
  have hD : va_D A (List.flatten [[(h0, .inr (6, [.int 0, .int 0, .int 0, .int 0, .int 0, .int 0, .int 0, .int 0, .ref q1, .ref q2, .ref q3, .ref q4, .ref q5, .ref q6, .ref q7, .null, .null, .null, .null, .null]))], gP cA pa P, [(q1, .inl (cA 0, 6, .inl (fun _ => 0)))], [(q2, .inl (cA 0, 6, .inl (fun _ => 0)))], [(q3, .inl (cA 0, 6, .inl (fun _ => 0)))], [(q4, .inl (cA 0, 6, .inl (fun _ => 0)))], [(q5, .inl (cA 0, 10, .inl (fun _ => 0)))], [(q6, .inl (cA 0, 10, .inl (fun _ => 0)))], [(q7, .inl (cA 0, 10, .inl (fun _ => 0)))]]) := hD
  refine lv_aload_n hx hb dX6_init_60 rfl (lv_at hl 0 rfl) ?_
  refine lv_bipush (v := 50) hx hb dX6_init_61 (by decide) ?_
  refine tq_newa (atype := .int) (ty := .int) (n := 50) (N' := 50) (a0 := (50, .inl (fun _ => 0))) hx hb (hT _ kw_2_13) rfl hK hP hD hS hA 0 (cA 0) rfl (fun _ => rfl) (by decide) (by decide) (by decide) (Nat.le_of_ble_eq_true rfl) (Nat.le_of_ble_eq_true rfl) dX6_init_63 (fun q8 H hP hD hS => ?_)
  refine W.widen (k := 8) (n := 104) (Nat.le_of_ble_eq_true rfl) (Nat.le_of_ble_eq_true rfl) ?_
  have hP : va_P G vwCl (List.flatten [[(h0, .inr (6, [.int 0, .int 0, .int 0, .int 0, .int 0, .int 0, .int 0, .int 0, .ref q1, .ref q2, .ref q3, .ref q4, .ref q5, .ref q6, .ref q7, .null, .null, .null, .null, .null]))], gP cA pa P, [(q1, .inl (cA 0, 6, .inl (fun _ => 0)))], [(q2, .inl (cA 0, 6, .inl (fun _ => 0)))], [(q3, .inl (cA 0, 6, .inl (fun _ => 0)))], [(q4, .inl (cA 0, 6, .inl (fun _ => 0)))], [(q5, .inl (cA 0, 10, .inl (fun _ => 0)))], [(q6, .inl (cA 0, 10, .inl (fun _ => 0)))], [(q7, .inl (cA 0, 10, .inl (fun _ => 0)))], [(q8, .inl (cA 0, 50, .inl (fun _ => 0)))]]) H := by rw [fl_app] at hP; exact hP
  have hD : va_D A (List.flatten [[(h0, .inr (6, [.int 0, .int 0, .int 0, .int 0, .int 0, .int 0, .int 0, .int 0, .ref q1, .ref q2, .ref q3, .ref q4, .ref q5, .ref q6, .ref q7, .null, .null, .null, .null, .null]))], gP cA pa P, [(q1, .inl (cA 0, 6, .inl (fun _ => 0)))], [(q2, .inl (cA 0, 6, .inl (fun _ => 0)))], [(q3, .inl (cA 0, 6, .inl (fun _ => 0)))], [(q4, .inl (cA 0, 6, .inl (fun _ => 0)))], [(q5, .inl (cA 0, 10, .inl (fun _ => 0)))], [(q6, .inl (cA 0, 10, .inl (fun _ => 0)))], [(q7, .inl (cA 0, 10, .inl (fun _ => 0)))], [(q8, .inl (cA 0, 50, .inl (fun _ => 0)))]]) := by rw [fl_app] at hD; exact hD
  refine va_putF (D := G) (ci := 6) (v := .ref q8) (ty := (.array .int)) (C := RX6) (T := TX6) (N := 20) hx hb hT ku_6 tyX6 tyX6_ok nmX6 hown hK hP hD hS 0 rfl rfl 15 (by decide) (hT _ kw_7_14) (fun _ h9 => h9) rfl hin rfl (by decide +kernel) rfl rfl (Nat.le_of_ble_eq_true rfl) dX6_init_65 (fun H locs hP hD hS => ?_)
  have hP : va_P G vwCl (List.flatten [[(h0, .inr (6, [.int 0, .int 0, .int 0, .int 0, .int 0, .int 0, .int 0, .int 0, .ref q1, .ref q2, .ref q3, .ref q4, .ref q5, .ref q6, .ref q7, .ref q8, .null, .null, .null, .null]))], gP cA pa P, [(q1, .inl (cA 0, 6, .inl (fun _ => 0)))], [(q2, .inl (cA 0, 6, .inl (fun _ => 0)))], [(q3, .inl (cA 0, 6, .inl (fun _ => 0)))], [(q4, .inl (cA 0, 6, .inl (fun _ => 0)))], [(q5, .inl (cA 0, 10, .inl (fun _ => 0)))], [(q6, .inl (cA 0, 10, .inl (fun _ => 0)))], [(q7, .inl (cA 0, 10, .inl (fun _ => 0)))], [(q8, .inl (cA 0, 50, .inl (fun _ => 0)))]]) H := hP
  have hD : va_D A (List.flatten [[(h0, .inr (6, [.int 0, .int 0, .int 0, .int 0, .int 0, .int 0, .int 0, .int 0, .ref q1, .ref q2, .ref q3, .ref q4, .ref q5, .ref q6, .ref q7, .ref q8, .null, .null, .null, .null]))], gP cA pa P, [(q1, .inl (cA 0, 6, .inl (fun _ => 0)))], [(q2, .inl (cA 0, 6, .inl (fun _ => 0)))], [(q3, .inl (cA 0, 6, .inl (fun _ => 0)))], [(q4, .inl (cA 0, 6, .inl (fun _ => 0)))], [(q5, .inl (cA 0, 10, .inl (fun _ => 0)))], [(q6, .inl (cA 0, 10, .inl (fun _ => 0)))], [(q7, .inl (cA 0, 10, .inl (fun _ => 0)))], [(q8, .inl (cA 0, 50, .inl (fun _ => 0)))]]) := hD
  refine lv_aload_n hx hb dX6_init_68 rfl (lv_at hl 0 rfl) ?_
  refine lv_iconst (v := 5) hx hb dX6_init_69 (by decide) ?_
  refine tq_newa (atype := .int) (ty := .int) (n := 5) (N' := 5) (a0 := (5, .inl (fun _ => 0))) hx hb (hT _ kw_2_13) rfl hK hP hD hS hA 0 (cA 0) rfl (fun _ => rfl) (by decide) (by decide) (by decide) (Nat.le_of_ble_eq_true rfl) (Nat.le_of_ble_eq_true rfl) dX6_init_70 (fun q9 H hP hD hS => ?_)
  refine W.widen (k := 9) (n := 109) (Nat.le_of_ble_eq_true rfl) (Nat.le_of_ble_eq_true rfl) ?_
  have hP : va_P G vwCl (List.flatten [[(h0, .inr (6, [.int 0, .int 0, .int 0, .int 0, .int 0, .int 0, .int 0, .int 0, .ref q1, .ref q2, .ref q3, .ref q4, .ref q5, .ref q6, .ref q7, .ref q8, .null, .null, .null, .null]))], gP cA pa P, [(q1, .inl (cA 0, 6, .inl (fun _ => 0)))], [(q2, .inl (cA 0, 6, .inl (fun _ => 0)))], [(q3, .inl (cA 0, 6, .inl (fun _ => 0)))], [(q4, .inl (cA 0, 6, .inl (fun _ => 0)))], [(q5, .inl (cA 0, 10, .inl (fun _ => 0)))], [(q6, .inl (cA 0, 10, .inl (fun _ => 0)))], [(q7, .inl (cA 0, 10, .inl (fun _ => 0)))], [(q8, .inl (cA 0, 50, .inl (fun _ => 0)))], [(q9, .inl (cA 0, 5, .inl (fun _ => 0)))]]) H := by rw [fl_app] at hP; exact hP
  have hD : va_D A (List.flatten [[(h0, .inr (6, [.int 0, .int 0, .int 0, .int 0, .int 0, .int 0, .int 0, .int 0, .ref q1, .ref q2, .ref q3, .ref q4, .ref q5, .ref q6, .ref q7, .ref q8, .null, .null, .null, .null]))], gP cA pa P, [(q1, .inl (cA 0, 6, .inl (fun _ => 0)))], [(q2, .inl (cA 0, 6, .inl (fun _ => 0)))], [(q3, .inl (cA 0, 6, .inl (fun _ => 0)))], [(q4, .inl (cA 0, 6, .inl (fun _ => 0)))], [(q5, .inl (cA 0, 10, .inl (fun _ => 0)))], [(q6, .inl (cA 0, 10, .inl (fun _ => 0)))], [(q7, .inl (cA 0, 10, .inl (fun _ => 0)))], [(q8, .inl (cA 0, 50, .inl (fun _ => 0)))], [(q9, .inl (cA 0, 5, .inl (fun _ => 0)))]]) := by rw [fl_app] at hD; exact hD
  refine va_putF (D := G) (ci := 6) (v := .ref q9) (ty := (.array .int)) (C := RX6) (T := TX6) (N := 20) hx hb hT ku_6 tyX6 tyX6_ok nmX6 hown hK hP hD hS 0 rfl rfl 16 (by decide) (hT _ kw_7_15) (fun _ h9 => h9) rfl hin rfl (by decide +kernel) rfl rfl (Nat.le_of_ble_eq_true rfl) dX6_init_72 (fun H locs hP hD hS => ?_)
  have hP : va_P G vwCl (List.flatten [[(h0, .inr (6, [.int 0, .int 0, .int 0, .int 0, .int 0, .int 0, .int 0, .int 0, .ref q1, .ref q2, .ref q3, .ref q4, .ref q5, .ref q6, .ref q7, .ref q8, .ref q9, .null, .null, .null]))], gP cA pa P, [(q1, .inl (cA 0, 6, .inl (fun _ => 0)))], [(q2, .inl (cA 0, 6, .inl (fun _ => 0)))], [(q3, .inl (cA 0, 6, .inl (fun _ => 0)))], [(q4, .inl (cA 0, 6, .inl (fun _ => 0)))], [(q5, .inl (cA 0, 10, .inl (fun _ => 0)))], [(q6, .inl (cA 0, 10, .inl (fun _ => 0)))], [(q7, .inl (cA 0, 10, .inl (fun _ => 0)))], [(q8, .inl (cA 0, 50, .inl (fun _ => 0)))], [(q9, .inl (cA 0, 5, .inl (fun _ => 0)))]]) H := hP
  have hD : va_D A (List.flatten [[(h0, .inr (6, [.int 0, .int 0, .int 0, .int 0, .int 0, .int 0, .int 0, .int 0, .ref q1, .ref q2, .ref q3, .ref q4, .ref q5, .ref q6, .ref q7, .ref q8, .ref q9, .null, .null, .null]))], gP cA pa P, [(q1, .inl (cA 0, 6, .inl (fun _ => 0)))], [(q2, .inl (cA 0, 6, .inl (fun _ => 0)))], [(q3, .inl (cA 0, 6, .inl (fun _ => 0)))], [(q4, .inl (cA 0, 6, .inl (fun _ => 0)))], [(q5, .inl (cA 0, 10, .inl (fun _ => 0)))], [(q6, .inl (cA 0, 10, .inl (fun _ => 0)))], [(q7, .inl (cA 0, 10, .inl (fun _ => 0)))], [(q8, .inl (cA 0, 50, .inl (fun _ => 0)))], [(q9, .inl (cA 0, 5, .inl (fun _ => 0)))]]) := hD
  refine lv_aload_n hx hb dX6_init_75 rfl (lv_at hl 0 rfl) ?_
  refine lv_iconst (v := 5) hx hb dX6_init_76 (by decide) ?_
  refine tq_newa (atype := .int) (ty := .int) (n := 5) (N' := 5) (a0 := (5, .inl (fun _ => 0))) hx hb (hT _ kw_2_13) rfl hK hP hD hS hA 0 (cA 0) rfl (fun _ => rfl) (by decide) (by decide) (by decide) (Nat.le_of_ble_eq_true rfl) (Nat.le_of_ble_eq_true rfl) dX6_init_77 (fun q10 H hP hD hS => ?_)
  refine W.widen (k := 10) (n := 114) (Nat.le_of_ble_eq_true rfl) (Nat.le_of_ble_eq_true rfl) ?_
  have hP : va_P G vwCl (List.flatten [[(h0, .inr (6, [.int 0, .int 0, .int 0, .int 0, .int 0, .int 0, .int 0, .int 0, .ref q1, .ref q2, .ref q3, .ref q4, .ref q5, .ref q6, .ref q7, .ref q8, .ref q9, .null, .null, .null]))], gP cA pa P, [(q1, .inl (cA 0, 6, .inl (fun _ => 0)))], [(q2, .inl (cA 0, 6, .inl (fun _ => 0)))], [(q3, .inl (cA 0, 6, .inl (fun _ => 0)))], [(q4, .inl (cA 0, 6, .inl (fun _ => 0)))], [(q5, .inl (cA 0, 10, .inl (fun _ => 0)))], [(q6, .inl (cA 0, 10, .inl (fun _ => 0)))], [(q7, .inl (cA 0, 10, .inl (fun _ => 0)))], [(q8, .inl (cA 0, 50, .inl (fun _ => 0)))], [(q9, .inl (cA 0, 5, .inl (fun _ => 0)))], [(q10, .inl (cA 0, 5, .inl (fun _ => 0)))]]) H := by rw [fl_app] at hP; exact hP
  have hD : va_D A (List.flatten [[(h0, .inr (6, [.int 0, .int 0, .int 0, .int 0, .int 0, .int 0, .int 0, .int 0, .ref q1, .ref q2, .ref q3, .ref q4, .ref q5, .ref q6, .ref q7, .ref q8, .ref q9, .null, .null, .null]))], gP cA pa P, [(q1, .inl (cA 0, 6, .inl (fun _ => 0)))], [(q2, .inl (cA 0, 6, .inl (fun _ => 0)))], [(q3, .inl (cA 0, 6, .inl (fun _ => 0)))], [(q4, .inl (cA 0, 6, .inl (fun _ => 0)))], [(q5, .inl (cA 0, 10, .inl (fun _ => 0)))], [(q6, .inl (cA 0, 10, .inl (fun _ => 0)))], [(q7, .inl (cA 0, 10, .inl (fun _ => 0)))], [(q8, .inl (cA 0, 50, .inl (fun _ => 0)))], [(q9, .inl (cA 0, 5, .inl (fun _ => 0)))], [(q10, .inl (cA 0, 5, .inl (fun _ => 0)))]]) := by rw [fl_app] at hD; exact hD
  refine va_putF (D := G) (ci := 6) (v := .ref q10) (ty := (.array .int)) (C := RX6) (T := TX6) (N := 20) hx hb hT ku_6 tyX6 tyX6_ok nmX6 hown hK hP hD hS 0 rfl rfl 17 (by decide) (hT _ kw_7_16) (fun _ h9 => h9) rfl hin rfl (by decide +kernel) rfl rfl (Nat.le_of_ble_eq_true rfl) dX6_init_79 (fun H locs hP hD hS => ?_)
  have hP : va_P G vwCl (List.flatten [[(h0, .inr (6, [.int 0, .int 0, .int 0, .int 0, .int 0, .int 0, .int 0, .int 0, .ref q1, .ref q2, .ref q3, .ref q4, .ref q5, .ref q6, .ref q7, .ref q8, .ref q9, .ref q10, .null, .null]))], gP cA pa P, [(q1, .inl (cA 0, 6, .inl (fun _ => 0)))], [(q2, .inl (cA 0, 6, .inl (fun _ => 0)))], [(q3, .inl (cA 0, 6, .inl (fun _ => 0)))], [(q4, .inl (cA 0, 6, .inl (fun _ => 0)))], [(q5, .inl (cA 0, 10, .inl (fun _ => 0)))], [(q6, .inl (cA 0, 10, .inl (fun _ => 0)))], [(q7, .inl (cA 0, 10, .inl (fun _ => 0)))], [(q8, .inl (cA 0, 50, .inl (fun _ => 0)))], [(q9, .inl (cA 0, 5, .inl (fun _ => 0)))], [(q10, .inl (cA 0, 5, .inl (fun _ => 0)))]]) H := hP
  have hD : va_D A (List.flatten [[(h0, .inr (6, [.int 0, .int 0, .int 0, .int 0, .int 0, .int 0, .int 0, .int 0, .ref q1, .ref q2, .ref q3, .ref q4, .ref q5, .ref q6, .ref q7, .ref q8, .ref q9, .ref q10, .null, .null]))], gP cA pa P, [(q1, .inl (cA 0, 6, .inl (fun _ => 0)))], [(q2, .inl (cA 0, 6, .inl (fun _ => 0)))], [(q3, .inl (cA 0, 6, .inl (fun _ => 0)))], [(q4, .inl (cA 0, 6, .inl (fun _ => 0)))], [(q5, .inl (cA 0, 10, .inl (fun _ => 0)))], [(q6, .inl (cA 0, 10, .inl (fun _ => 0)))], [(q7, .inl (cA 0, 10, .inl (fun _ => 0)))], [(q8, .inl (cA 0, 50, .inl (fun _ => 0)))], [(q9, .inl (cA 0, 5, .inl (fun _ => 0)))], [(q10, .inl (cA 0, 5, .inl (fun _ => 0)))]]) := hD
  refine lv_aload_n hx hb dX6_init_82 rfl (lv_at hl 0 rfl) ?_
  refine lv_bipush (v := 7) hx hb dX6_init_83 (by decide) ?_
  refine tq_newa (atype := .int) (ty := .int) (n := 7) (N' := 7) (a0 := (7, .inl (fun _ => 0))) hx hb (hT _ kw_2_13) rfl hK hP hD hS hA 0 (cA 0) rfl (fun _ => rfl) (by decide) (by decide) (by decide) (Nat.le_of_ble_eq_true rfl) (Nat.le_of_ble_eq_true rfl) dX6_init_85 (fun q11 H hP hD hS => ?_)
  refine W.widen (k := 11) (n := 121) (Nat.le_of_ble_eq_true rfl) (Nat.le_of_ble_eq_true rfl) ?_
  have hP : va_P G vwCl (List.flatten [[(h0, .inr (6, [.int 0, .int 0, .int 0, .int 0, .int 0, .int 0, .int 0, .int 0, .ref q1, .ref q2, .ref q3, .ref q4, .ref q5, .ref q6, .ref q7, .ref q8, .ref q9, .ref q10, .null, .null]))], gP cA pa P, [(q1, .inl (cA 0, 6, .inl (fun _ => 0)))], [(q2, .inl (cA 0, 6, .inl (fun _ => 0)))], [(q3, .inl (cA 0, 6, .inl (fun _ => 0)))], [(q4, .inl (cA 0, 6, .inl (fun _ => 0)))], [(q5, .inl (cA 0, 10, .inl (fun _ => 0)))], [(q6, .inl (cA 0, 10, .inl (fun _ => 0)))], [(q7, .inl (cA 0, 10, .inl (fun _ => 0)))], [(q8, .inl (cA 0, 50, .inl (fun _ => 0)))], [(q9, .inl (cA 0, 5, .inl (fun _ => 0)))], [(q10, .inl (cA 0, 5, .inl (fun _ => 0)))], [(q11, .inl (cA 0, 7, .inl (fun _ => 0)))]]) H := by rw [fl_app] at hP; exact hP
  have hD : va_D A (List.flatten [[(h0, .inr (6, [.int 0, .int 0, .int 0, .int 0, .int 0, .int 0, .int 0, .int 0, .ref q1, .ref q2, .ref q3, .ref q4, .ref q5, .ref q6, .ref q7, .ref q8, .ref q9, .ref q10, .null, .null]))], gP cA pa P, [(q1, .inl (cA 0, 6, .inl (fun _ => 0)))], [(q2, .inl (cA 0, 6, .inl (fun _ => 0)))], [(q3, .inl (cA 0, 6, .inl (fun _ => 0)))], [(q4, .inl (cA 0, 6, .inl (fun _ => 0)))], [(q5, .inl (cA 0, 10, .inl (fun _ => 0)))], [(q6, .inl (cA 0, 10, .inl (fun _ => 0)))], [(q7, .inl (cA 0, 10, .inl (fun _ => 0)))], [(q8, .inl (cA 0, 50, .inl (fun _ => 0)))], [(q9, .inl (cA 0, 5, .inl (fun _ => 0)))], [(q10, .inl (cA 0, 5, .inl (fun _ => 0)))], [(q11, .inl (cA 0, 7, .inl (fun _ => 0)))]]) := by rw [fl_app] at hD; exact hD
  refine va_putF (D := G) (ci := 6) (v := .ref q11) (ty := (.array .int)) (C := RX6) (T := TX6) (N := 20) hx hb hT ku_6 tyX6 tyX6_ok nmX6 hown hK hP hD hS 0 rfl rfl 18 (by decide) (hT _ kw_7_17) (fun _ h9 => h9) rfl hin rfl (by decide +kernel) rfl rfl (Nat.le_of_ble_eq_true rfl) dX6_init_87 (fun H locs hP hD hS => ?_)
  have hP : va_P G vwCl (List.flatten [[(h0, .inr (6, [.int 0, .int 0, .int 0, .int 0, .int 0, .int 0, .int 0, .int 0, .ref q1, .ref q2, .ref q3, .ref q4, .ref q5, .ref q6, .ref q7, .ref q8, .ref q9, .ref q10, .ref q11, .null]))], gP cA pa P, [(q1, .inl (cA 0, 6, .inl (fun _ => 0)))], [(q2, .inl (cA 0, 6, .inl (fun _ => 0)))], [(q3, .inl (cA 0, 6, .inl (fun _ => 0)))], [(q4, .inl (cA 0, 6, .inl (fun _ => 0)))], [(q5, .inl (cA 0, 10, .inl (fun _ => 0)))], [(q6, .inl (cA 0, 10, .inl (fun _ => 0)))], [(q7, .inl (cA 0, 10, .inl (fun _ => 0)))], [(q8, .inl (cA 0, 50, .inl (fun _ => 0)))], [(q9, .inl (cA 0, 5, .inl (fun _ => 0)))], [(q10, .inl (cA 0, 5, .inl (fun _ => 0)))], [(q11, .inl (cA 0, 7, .inl (fun _ => 0)))]]) H := hP
  have hD : va_D A (List.flatten [[(h0, .inr (6, [.int 0, .int 0, .int 0, .int 0, .int 0, .int 0, .int 0, .int 0, .ref q1, .ref q2, .ref q3, .ref q4, .ref q5, .ref q6, .ref q7, .ref q8, .ref q9, .ref q10, .ref q11, .null]))], gP cA pa P, [(q1, .inl (cA 0, 6, .inl (fun _ => 0)))], [(q2, .inl (cA 0, 6, .inl (fun _ => 0)))], [(q3, .inl (cA 0, 6, .inl (fun _ => 0)))], [(q4, .inl (cA 0, 6, .inl (fun _ => 0)))], [(q5, .inl (cA 0, 10, .inl (fun _ => 0)))], [(q6, .inl (cA 0, 10, .inl (fun _ => 0)))], [(q7, .inl (cA 0, 10, .inl (fun _ => 0)))], [(q8, .inl (cA 0, 50, .inl (fun _ => 0)))], [(q9, .inl (cA 0, 5, .inl (fun _ => 0)))], [(q10, .inl (cA 0, 5, .inl (fun _ => 0)))], [(q11, .inl (cA 0, 7, .inl (fun _ => 0)))]]) := hD
  refine lv_aload_n hx hb dX6_init_90 rfl (lv_at hl 0 rfl) ?_
  refine lv_aload_n hx hb dX6_init_91 rfl (lv_at hl 1 rfl) ?_
  have pm := (pk_flat (α := Nat × va_E) (sel := [[(h0, .inr (6, [.int 0, .int 0, .int 0, .int 0, .int 0, .int 0, .int 0, .int 0, .ref q1, .ref q2, .ref q3, .ref q4, .ref q5, .ref q6, .ref q7, .ref q8, .ref q9, .ref q10, .ref q11, .null]))], [(q1, .inl (cA 0, 6, .inl (fun _ => 0)))], [(q2, .inl (cA 0, 6, .inl (fun _ => 0)))], [(q3, .inl (cA 0, 6, .inl (fun _ => 0)))], [(q4, .inl (cA 0, 6, .inl (fun _ => 0)))], [(q5, .inl (cA 0, 10, .inl (fun _ => 0)))], [(q6, .inl (cA 0, 10, .inl (fun _ => 0)))], [(q7, .inl (cA 0, 10, .inl (fun _ => 0)))], [(q8, .inl (cA 0, 50, .inl (fun _ => 0)))], [(q9, .inl (cA 0, 5, .inl (fun _ => 0)))], [(q10, .inl (cA 0, 5, .inl (fun _ => 0)))], [(q11, .inl (cA 0, 7, .inl (fun _ => 0)))], gP cA pa P]) (oth := []) ((by decide : List.Perm [0, 1, 2, 3, 4, 5, 6, 7, 8, 9, 10, 11, 12] [0, 2, 3, 4, 5, 6, 7, 8, 9, 10, 11, 12, 1]).map (fun k => List.getD [([(h0, .inr (6, [.int 0, .int 0, .int 0, .int 0, .int 0, .int 0, .int 0, .int 0, .ref q1, .ref q2, .ref q3, .ref q4, .ref q5, .ref q6, .ref q7, .ref q8, .ref q9, .ref q10, .ref q11, .null]))] : va_W), (gP cA pa P : va_W), ([(q1, .inl (cA 0, 6, .inl (fun _ => 0)))] : va_W), ([(q2, .inl (cA 0, 6, .inl (fun _ => 0)))] : va_W), ([(q3, .inl (cA 0, 6, .inl (fun _ => 0)))] : va_W), ([(q4, .inl (cA 0, 6, .inl (fun _ => 0)))] : va_W), ([(q5, .inl (cA 0, 10, .inl (fun _ => 0)))] : va_W), ([(q6, .inl (cA 0, 10, .inl (fun _ => 0)))] : va_W), ([(q7, .inl (cA 0, 10, .inl (fun _ => 0)))] : va_W), ([(q8, .inl (cA 0, 50, .inl (fun _ => 0)))] : va_W), ([(q9, .inl (cA 0, 5, .inl (fun _ => 0)))] : va_W), ([(q10, .inl (cA 0, 5, .inl (fun _ => 0)))] : va_W), ([(q11, .inl (cA 0, 7, .inl (fun _ => 0)))] : va_W)] k [])))
  have hP : va_P G vwCl (wTBn cA (fun k => bif Nat.beq k 9 then q1 else bif Nat.beq k 10 then q2 else bif Nat.beq k 11 then q3 else bif Nat.beq k 12 then q4 else bif Nat.beq k 13 then q5 else bif Nat.beq k 14 then q6 else bif Nat.beq k 15 then q7 else bif Nat.beq k 16 then q8 else bif Nat.beq k 17 then q9 else bif Nat.beq k 18 then q10 else bif Nat.beq k 19 then q11 else h0) pa T0Z P) H := by have h9 := tw_P pm hP; rw [List.flatten_nil, List.append_nil] at h9; exact h9
  have hD : va_D A (wTBn cA (fun k => bif Nat.beq k 9 then q1 else bif Nat.beq k 10 then q2 else bif Nat.beq k 11 then q3 else bif Nat.beq k 12 then q4 else bif Nat.beq k 13 then q5 else bif Nat.beq k 14 then q6 else bif Nat.beq k 15 then q7 else bif Nat.beq k 16 then q8 else bif Nat.beq k 17 then q9 else bif Nat.beq k 18 then q10 else bif Nat.beq k 19 then q11 else h0) pa T0Z P) := by have h9 := tw_D pm hD; rw [List.flatten_nil, List.append_nil] at h9; exact h9
  have hl : lv_has ls 2 [(0, .ref ((fun k => bif Nat.beq k 9 then q1 else bif Nat.beq k 10 then q2 else bif Nat.beq k 11 then q3 else bif Nat.beq k 12 then q4 else bif Nat.beq k 13 then q5 else bif Nat.beq k 14 then q6 else bif Nat.beq k 15 then q7 else bif Nat.beq k 16 then q8 else bif Nat.beq k 17 then q9 else bif Nat.beq k 18 then q10 else bif Nat.beq k 19 then q11 else h0) 0)), (1, .ref (pa 0))] := hl
  have h0e : (fun k => bif Nat.beq k 9 then q1 else bif Nat.beq k 10 then q2 else bif Nat.beq k 11 then q3 else bif Nat.beq k 12 then q4 else bif Nat.beq k 13 then q5 else bif Nat.beq k 14 then q6 else bif Nat.beq k 15 then q7 else bif Nat.beq k 16 then q8 else bif Nat.beq k 17 then q9 else bif Nat.beq k 18 then q10 else bif Nat.beq k 19 then q11 else h0) 0 = h0 := rfl
  generalize (fun k => bif Nat.beq k 9 then q1 else bif Nat.beq k 10 then q2 else bif Nat.beq k 11 then q3 else bif Nat.beq k 12 then q4 else bif Nat.beq k 13 then q5 else bif Nat.beq k 14 then q6 else bif Nat.beq k 15 then q7 else bif Nat.beq k 16 then q8 else bif Nat.beq k 17 then q9 else bif Nat.beq k 18 then q10 else bif Nat.beq k 19 then q11 else h0) = ta at hP hD hl h0e
  refine W.eq (g2 := F0 m 92 ls [.ref (pa 0), .ref (ta 0)]) (by rw [h0e]) ?_
  obtain ⟨⟨T1, q9⟩, hc, hq⟩ := t_X6_begin pa T0Z P 0 (iR_Z okZ_T) hPb
  refine tw_cv tw_all hP hD hS hA (va_runV (As := [.ref (pa 0)]) (rest := []) ⟨hx, hb, hml, hown, hT⟩ (c_X6_begin_n l G cA H.size ta pa T0Z P 0 T1 q9 hc) (cwV 1 hT (tq_gV kw_7_21 kw_7_22 kw_7_23 kw_1_23 kw_8_0) rfl rfl rfl dkdV_yX6_begin_1 ⟨Nat.le_of_ble_eq_true rfl, Nat.le_of_ble_eq_true rfl⟩) ⟨(tw_pre tw_all hP hD hK hN).1, va_recv hK hP (ci := 6) (q0 := 0) rfl rfl, (tw_pre tw_all hP hD hK hN).2⟩ rfl rfl hl.1 rfl (lv_room (Nat.le_of_ble_eq_true rfl)) dX6_init_92 ⟨Nat.le_of_ble_eq_true rfl, Nat.le_of_ble_eq_true rfl⟩) (fun _ H locs _ hP hD hS => ?_)
  rw [List.append_nil] at hP hD
  have hP : va_P G vwCl (wTB cA ta pa T1 P (pa 0)) H := by rw [← hq.2.2]; exact hP
  have hD : va_D A (wTB cA ta pa T1 P (pa 0)) := by rw [← hq.2.2]; exact hD
  refine lv_aload_n hx hb dX6_init_95 rfl (lv_at hl 0 rfl) ?_
  refine lv_iconst (v := 0) hx hb dX6_init_96 (by decide) ?_
  refine va_put (D := G) (ci := 6) (v := .int 0) (ty := .boolean) (C := RX6) (T := TX6) (N := 20) hx hb hT ku_6 tyX6 tyX6_ok nmX6 hown hK hP hD hS 0 rfl rfl 5 (by decide) (hT _ kw_7_18) (fun _ h9 => h9) rfl (by decide +kernel) rfl rfl (Nat.le_of_ble_eq_true rfl) dX6_init_97 (fun H locs hP hD hS => ?_)
  rw [sTB_ta_f5] at hP hD
  refine lv_aload_n hx hb dX6_init_100 rfl (lv_at hl 0 rfl) ?_
  refine lv_iconst (v := 1) hx hb dX6_init_101 (by decide) ?_
  refine va_put (D := G) (ci := 6) (v := .int 1) (ty := .boolean) (C := RX6) (T := TX6) (N := 20) hx hb hT ku_6 tyX6 tyX6_ok nmX6 hown hK hP hD hS 0 rfl rfl 6 (by decide) (hT _ kw_7_19) (fun _ h9 => h9) rfl (by decide +kernel) rfl rfl (Nat.le_of_ble_eq_true rfl) dX6_init_102 (fun H locs hP hD hS => ?_)
  rw [sTB_ta_f6] at hP hD
  refine lv_aload_n hx hb dX6_init_105 rfl (lv_at hl 0 rfl) ?_
  refine lv_iconst (v := 1) hx hb dX6_init_106 (by decide) ?_
  refine va_put (D := G) (ci := 6) (v := .int 1) (ty := .boolean) (C := RX6) (T := TX6) (N := 20) hx hb hT ku_6 tyX6 tyX6_ok nmX6 hown hK hP hD hS 0 rfl rfl 7 (by decide) (hT _ kw_7_20) (fun _ h9 => h9) rfl (by decide +kernel) rfl rfl (Nat.le_of_ble_eq_true rfl) dX6_init_107 (fun H locs hP hD hS => ?_)
  rw [sTB_ta_f7] at hP hD
  exact W.vret hx hb hr (fun t ht hW => ⟨⟨(ta, (st (st (st T1 0 5 0) 0 6 1) 0 7 1)), rfl, ⟨h0e, iR_setU (iR_setU (iR_setU hq.1 rfl) rfl) rfl, T1, q9, hc, rfl⟩, by rw [ht]; exact hP, hD⟩, hS.F ht⟩) hS.2.2 dX6_init_110
-- 71.f
set_option maxHeartbeats 8000000 in
set_option maxRecDepth 100000 in
theorem k_X2_init (l : Launch) (G : va_G) (cA : Nat → ClassId) (sz : Nat) (h0 : Nat)  : Met l yX2_init (.code yX2_init cX2_init 2 none :: T0) ({ frames := 2, cells := 21, slots := 491, locals := 33 } : Room) (tqP G cA [.ref h0] ([(h0, .inr (2, [.int 0, .int 0, .int 0, .int 0, .int 0, .int 0, .int 0, .null, .null, .null, .null, .null, .null, .null, .null, .null, .null, .null, .null]))]) sz) (tqQv G cA (fun (u : (Nat → Nat) × Tr) => u.1 0 = h0 ∧ iR BP u.2 ∧ f_X2_clear T0Z = some u.2) (fun (u : (Nat → Nat) × Tr) => wPL cA u.1 u.2 L0Z) (va_A ([(h0, .inr (2, [.int 0, .int 0, .int 0, .int 0, .int 0, .int 0, .int 0, .null, .null, .null, .null, .null, .null, .null, .null, .null, .null, .null, .null]))]) sz)) 21 491 (va_A ([(h0, .inr (2, [.int 0, .int 0, .int 0, .int 0, .int 0, .int 0, .int 0, .null, .null, .null, .null, .null, .null, .null, .null, .null, .null, .null, .null]))]) sz) := by
  refine Met.ofW (cc := cX2_init) (maxL := 2) (ret := none) (by decide) rfl ?_
  intro p e s m args below meth c s₁ B hml hv
  obtain ⟨rfl, hsz, hP, hK, hD0, hN⟩ := hv
  have hx := B.exec
  have hb := B.bytes
  have hr := B.returns
  have hts := atoms_spec (ws := .code yX2_init cX2_init 2 none :: T0) B.pre
  have hT : ∀ w ∈ T0, w.before _ s = true := fun w h => hts w (List.mem_cons_of_mem _ h)
  have hown : s.vm.findClass RX2 = some m.cls := findClass_of_methodNamed B.named
  have hlocks := B.notSynchronized
  have hin : meth.name = "<init>" := (name_of_methodNamed B.named B.method).1
  subst hsz
  have hD := hD0.self (sz := s.heap.size)
  generalize hAe : va_A ([(h0, .inr (2, [.int 0, .int 0, .int 0, .int 0, .int 0, .int 0, .int 0, .null, .null, .null, .null, .null, .null, .null, .null, .null, .null, .null, .null]))]) s.heap.size = A at hD ⊢
  have hA : ∀ q : Nat, s.heap.size ≤ q → A q := fun q h => by rw [← hAe]; exact Or.inr h
  have hS : va_S A s.heap s.heap [] := va_S.rf
  have hl := lv_entry ([.ref h0]) (n := 2) (Nat.le_of_ble_eq_true rfl)
  rw [lg_entry_eq]
  generalize (lg_sl ([.ref h0]) ++ List.replicate (2 - (lg_sl ([.ref h0])).length) Slot.unset).toArray = ls at hl ⊢
  have hl : lv_has ls 2 [(0, .ref h0)] := hl
  obtain ⟨H, hH⟩ : ∃ z, z = s.heap := ⟨_, rfl⟩
  rw [← hH] at hP
  have hS : va_S A s.heap H [] := by rw [hH]; exact hS
  suffices hgo : W p l e _ s m _ below meth c H [] 0 0 _ _ by rw [hH] at hgo; exact hgo
  have hO := hN.2.2.2.2
  have hP : va_P G vwCl (List.flatten [[(h0, .inr (2, [.int 0, .int 0, .int 0, .int 0, .int 0, .int 0, .int 0, .null, .null, .null, .null, .null, .null, .null, .null, .null, .null, .null, .null]))]]) H := hP
  have hD : va_D A (List.flatten [[(h0, .inr (2, [.int 0, .int 0, .int 0, .int 0, .int 0, .int 0, .int 0, .null, .null, .null, .null, .null, .null, .null, .null, .null, .null, .null, .null]))]]) := hD
  refine lv_aload_n hx hb dX2_init_0 rfl (lv_at hl 0 rfl) ?_
  refine W.objInit hx hb hown (hT _ kw_5_17) (hT _ kw_1_11) (hT _ kw_1_12) rfl (by rw [hml]; exact hl.1) rfl dX2_init_1 (Nat.le_of_ble_eq_true rfl) (Nat.le_of_ble_eq_true rfl) ?_
  refine W.eq (g2 := F0 m 4 ls []) rfl ?_
  refine lv_aload_n hx hb dX2_init_4 rfl (lv_at hl 0 rfl) ?_
  refine lv_iconst (v := 5) hx hb dX2_init_5 (by decide) ?_
  refine tq_newa (atype := .int) (ty := .int) (n := 5) (N' := 5) (a0 := (5, .inl (fun _ => 0))) hx hb (hT _ kw_2_13) rfl hK hP hD hS hA 0 (cA 0) rfl (fun _ => rfl) (by decide) (by decide) (by decide) (Nat.le_of_ble_eq_true rfl) (Nat.le_of_ble_eq_true rfl) dX2_init_6 (fun q1 H hP hD hS => ?_)
  refine W.widen (k := 1) (n := 5) (Nat.le_of_ble_eq_true rfl) (Nat.le_of_ble_eq_true rfl) ?_
  have hP : va_P G vwCl (List.flatten [[(h0, .inr (2, [.int 0, .int 0, .int 0, .int 0, .int 0, .int 0, .int 0, .null, .null, .null, .null, .null, .null, .null, .null, .null, .null, .null, .null]))], [(q1, .inl (cA 0, 5, .inl (fun _ => 0)))]]) H := by rw [fl_app] at hP; exact hP
  have hD : va_D A (List.flatten [[(h0, .inr (2, [.int 0, .int 0, .int 0, .int 0, .int 0, .int 0, .int 0, .null, .null, .null, .null, .null, .null, .null, .null, .null, .null, .null, .null]))], [(q1, .inl (cA 0, 5, .inl (fun _ => 0)))]]) := by rw [fl_app] at hD; exact hD
  refine va_putF (D := G) (ci := 2) (v := .ref q1) (ty := (.array .int)) (C := RX2) (T := TX2) (N := 19) hx hb hT ku_2 tyX2 tyX2_ok nmX2 hown hK hP hD hS 0 rfl rfl 7 (by decide) (hT _ kw_5_18) (fun _ h9 => h9) rfl hin rfl (by decide +kernel) rfl rfl (Nat.le_of_ble_eq_true rfl) dX2_init_8 (fun H locs hP hD hS => ?_)
  have hP : va_P G vwCl (List.flatten [[(h0, .inr (2, [.int 0, .int 0, .int 0, .int 0, .int 0, .int 0, .int 0, .ref q1, .null, .null, .null, .null, .null, .null, .null, .null, .null, .null, .null]))], [(q1, .inl (cA 0, 5, .inl (fun _ => 0)))]]) H := hP
  have hD : va_D A (List.flatten [[(h0, .inr (2, [.int 0, .int 0, .int 0, .int 0, .int 0, .int 0, .int 0, .ref q1, .null, .null, .null, .null, .null, .null, .null, .null, .null, .null, .null]))], [(q1, .inl (cA 0, 5, .inl (fun _ => 0)))]]) := hD
  refine lv_aload_n hx hb dX2_init_11 rfl (lv_at hl 0 rfl) ?_
  refine lv_iconst (v := 5) hx hb dX2_init_12 (by decide) ?_
  refine tq_newa (atype := .int) (ty := .int) (n := 5) (N' := 5) (a0 := (5, .inl (fun _ => 0))) hx hb (hT _ kw_2_13) rfl hK hP hD hS hA 0 (cA 0) rfl (fun _ => rfl) (by decide) (by decide) (by decide) (Nat.le_of_ble_eq_true rfl) (Nat.le_of_ble_eq_true rfl) dX2_init_13 (fun q2 H hP hD hS => ?_)
  refine W.widen (k := 2) (n := 10) (Nat.le_of_ble_eq_true rfl) (Nat.le_of_ble_eq_true rfl) ?_
  have hP : va_P G vwCl (List.flatten [[(h0, .inr (2, [.int 0, .int 0, .int 0, .int 0, .int 0, .int 0, .int 0, .ref q1, .null, .null, .null, .null, .null, .null, .null, .null, .null, .null, .null]))], [(q1, .inl (cA 0, 5, .inl (fun _ => 0)))], [(q2, .inl (cA 0, 5, .inl (fun _ => 0)))]]) H := by rw [fl_app] at hP; exact hP
  have hD : va_D A (List.flatten [[(h0, .inr (2, [.int 0, .int 0, .int 0, .int 0, .int 0, .int 0, .int 0, .ref q1, .null, .null, .null, .null, .null, .null, .null, .null, .null, .null, .null]))], [(q1, .inl (cA 0, 5, .inl (fun _ => 0)))], [(q2, .inl (cA 0, 5, .inl (fun _ => 0)))]]) := by rw [fl_app] at hD; exact hD
  refine va_putF (D := G) (ci := 2) (v := .ref q2) (ty := (.array .int)) (C := RX2) (T := TX2) (N := 19) hx hb hT ku_2 tyX2 tyX2_ok nmX2 hown hK hP hD hS 0 rfl rfl 8 (by decide) (hT _ kw_5_19) (fun _ h9 => h9) rfl hin rfl (by decide +kernel) rfl rfl (Nat.le_of_ble_eq_true rfl) dX2_init_15 (fun H locs hP hD hS => ?_)
  have hP : va_P G vwCl (List.flatten [[(h0, .inr (2, [.int 0, .int 0, .int 0, .int 0, .int 0, .int 0, .int 0, .ref q1, .ref q2, .null, .null, .null, .null, .null, .null, .null, .null, .null, .null]))], [(q1, .inl (cA 0, 5, .inl (fun _ => 0)))], [(q2, .inl (cA 0, 5, .inl (fun _ => 0)))]]) H := hP
  have hD : va_D A (List.flatten [[(h0, .inr (2, [.int 0, .int 0, .int 0, .int 0, .int 0, .int 0, .int 0, .ref q1, .ref q2, .null, .null, .null, .null, .null, .null, .null, .null, .null, .null]))], [(q1, .inl (cA 0, 5, .inl (fun _ => 0)))], [(q2, .inl (cA 0, 5, .inl (fun _ => 0)))]]) := hD
  refine lv_aload_n hx hb dX2_init_18 rfl (lv_at hl 0 rfl) ?_
  refine lv_bipush (v := 6) hx hb dX2_init_19 (by decide) ?_
  refine tq_newa (atype := .int) (ty := .int) (n := 6) (N' := 6) (a0 := (6, .inl (fun _ => 0))) hx hb (hT _ kw_2_13) rfl hK hP hD hS hA 0 (cA 0) rfl (fun _ => rfl) (by decide) (by decide) (by decide) (Nat.le_of_ble_eq_true rfl) (Nat.le_of_ble_eq_true rfl) dX2_init_21 (fun q3 H hP hD hS => ?_)
  refine W.widen (k := 3) (n := 16) (Nat.le_of_ble_eq_true rfl) (Nat.le_of_ble_eq_true rfl) ?_
  have hP : va_P G vwCl (List.flatten [[(h0, .inr (2, [.int 0, .int 0, .int 0, .int 0, .int 0, .int 0, .int 0, .ref q1, .ref q2, .null, .null, .null, .null, .null, .null, .null, .null, .null, .null]))], [(q1, .inl (cA 0, 5, .inl (fun _ => 0)))], [(q2, .inl (cA 0, 5, .inl (fun _ => 0)))], [(q3, .inl (cA 0, 6, .inl (fun _ => 0)))]]) H := by rw [fl_app] at hP; exact hP
  have hD : va_D A (List.flatten [[(h0, .inr (2, [.int 0, .int 0, .int 0, .int 0, .int 0, .int 0, .int 0, .ref q1, .ref q2, .null, .null, .null, .null, .null, .null, .null, .null, .null, .null]))], [(q1, .inl (cA 0, 5, .inl (fun _ => 0)))], [(q2, .inl (cA 0, 5, .inl (fun _ => 0)))], [(q3, .inl (cA 0, 6, .inl (fun _ => 0)))]]) := by rw [fl_app] at hD; exact hD
  refine va_putF (D := G) (ci := 2) (v := .ref q3) (ty := (.array .int)) (C := RX2) (T := TX2) (N := 19) hx hb hT ku_2 tyX2 tyX2_ok nmX2 hown hK hP hD hS 0 rfl rfl 9 (by decide) (hT _ kw_5_20) (fun _ h9 => h9) rfl hin rfl (by decide +kernel) rfl rfl (Nat.le_of_ble_eq_true rfl) dX2_init_23 (fun H locs hP hD hS => ?_)
  have hP : va_P G vwCl (List.flatten [[(h0, .inr (2, [.int 0, .int 0, .int 0, .int 0, .int 0, .int 0, .int 0, .ref q1, .ref q2, .ref q3, .null, .null, .null, .null, .null, .null, .null, .null, .null]))], [(q1, .inl (cA 0, 5, .inl (fun _ => 0)))], [(q2, .inl (cA 0, 5, .inl (fun _ => 0)))], [(q3, .inl (cA 0, 6, .inl (fun _ => 0)))]]) H := hP
  have hD : va_D A (List.flatten [[(h0, .inr (2, [.int 0, .int 0, .int 0, .int 0, .int 0, .int 0, .int 0, .ref q1, .ref q2, .ref q3, .null, .null, .null, .null, .null, .null, .null, .null, .null]))], [(q1, .inl (cA 0, 5, .inl (fun _ => 0)))], [(q2, .inl (cA 0, 5, .inl (fun _ => 0)))], [(q3, .inl (cA 0, 6, .inl (fun _ => 0)))]]) := hD
  refine lv_aload_n hx hb dX2_init_26 rfl (lv_at hl 0 rfl) ?_
  refine lv_bipush (v := 6) hx hb dX2_init_27 (by decide) ?_
  refine tq_newa (atype := .int) (ty := .int) (n := 6) (N' := 6) (a0 := (6, .inl (fun _ => 0))) hx hb (hT _ kw_2_13) rfl hK hP hD hS hA 0 (cA 0) rfl (fun _ => rfl) (by decide) (by decide) (by decide) (Nat.le_of_ble_eq_true rfl) (Nat.le_of_ble_eq_true rfl) dX2_init_29 (fun q4 H hP hD hS => ?_)
  refine W.widen (k := 4) (n := 22) (Nat.le_of_ble_eq_true rfl) (Nat.le_of_ble_eq_true rfl) ?_
  have hP : va_P G vwCl (List.flatten [[(h0, .inr (2, [.int 0, .int 0, .int 0, .int 0, .int 0, .int 0, .int 0, .ref q1, .ref q2, .ref q3, .null, .null, .null, .null, .null, .null, .null, .null, .null]))], [(q1, .inl (cA 0, 5, .inl (fun _ => 0)))], [(q2, .inl (cA 0, 5, .inl (fun _ => 0)))], [(q3, .inl (cA 0, 6, .inl (fun _ => 0)))], [(q4, .inl (cA 0, 6, .inl (fun _ => 0)))]]) H := by rw [fl_app] at hP; exact hP
  have hD : va_D A (List.flatten [[(h0, .inr (2, [.int 0, .int 0, .int 0, .int 0, .int 0, .int 0, .int 0, .ref q1, .ref q2, .ref q3, .null, .null, .null, .null, .null, .null, .null, .null, .null]))], [(q1, .inl (cA 0, 5, .inl (fun _ => 0)))], [(q2, .inl (cA 0, 5, .inl (fun _ => 0)))], [(q3, .inl (cA 0, 6, .inl (fun _ => 0)))], [(q4, .inl (cA 0, 6, .inl (fun _ => 0)))]]) := by rw [fl_app] at hD; exact hD
  refine va_putF (D := G) (ci := 2) (v := .ref q4) (ty := (.array .int)) (C := RX2) (T := TX2) (N := 19) hx hb hT ku_2 tyX2 tyX2_ok nmX2 hown hK hP hD hS 0 rfl rfl 10 (by decide) (hT _ kw_5_21) (fun _ h9 => h9) rfl hin rfl (by decide +kernel) rfl rfl (Nat.le_of_ble_eq_true rfl) dX2_init_31 (fun H locs hP hD hS => ?_)
  have hP : va_P G vwCl (List.flatten [[(h0, .inr (2, [.int 0, .int 0, .int 0, .int 0, .int 0, .int 0, .int 0, .ref q1, .ref q2, .ref q3, .ref q4, .null, .null, .null, .null, .null, .null, .null, .null]))], [(q1, .inl (cA 0, 5, .inl (fun _ => 0)))], [(q2, .inl (cA 0, 5, .inl (fun _ => 0)))], [(q3, .inl (cA 0, 6, .inl (fun _ => 0)))], [(q4, .inl (cA 0, 6, .inl (fun _ => 0)))]]) H := hP
  have hD : va_D A (List.flatten [[(h0, .inr (2, [.int 0, .int 0, .int 0, .int 0, .int 0, .int 0, .int 0, .ref q1, .ref q2, .ref q3, .ref q4, .null, .null, .null, .null, .null, .null, .null, .null]))], [(q1, .inl (cA 0, 5, .inl (fun _ => 0)))], [(q2, .inl (cA 0, 5, .inl (fun _ => 0)))], [(q3, .inl (cA 0, 6, .inl (fun _ => 0)))], [(q4, .inl (cA 0, 6, .inl (fun _ => 0)))]]) := hD
  refine lv_aload_n hx hb dX2_init_34 rfl (lv_at hl 0 rfl) ?_
  refine lv_bipush (v := 6) hx hb dX2_init_35 (by decide) ?_
  refine tq_newa (atype := .int) (ty := .int) (n := 6) (N' := 6) (a0 := (6, .inl (fun _ => 0))) hx hb (hT _ kw_2_13) rfl hK hP hD hS hA 0 (cA 0) rfl (fun _ => rfl) (by decide) (by decide) (by decide) (Nat.le_of_ble_eq_true rfl) (Nat.le_of_ble_eq_true rfl) dX2_init_37 (fun q5 H hP hD hS => ?_)
  refine W.widen (k := 5) (n := 28) (Nat.le_of_ble_eq_true rfl) (Nat.le_of_ble_eq_true rfl) ?_
  have hP : va_P G vwCl (List.flatten [[(h0, .inr (2, [.int 0, .int 0, .int 0, .int 0, .int 0, .int 0, .int 0, .ref q1, .ref q2, .ref q3, .ref q4, .null, .null, .null, .null, .null, .null, .null, .null]))], [(q1, .inl (cA 0, 5, .inl (fun _ => 0)))], [(q2, .inl (cA 0, 5, .inl (fun _ => 0)))], [(q3, .inl (cA 0, 6, .inl (fun _ => 0)))], [(q4, .inl (cA 0, 6, .inl (fun _ => 0)))], [(q5, .inl (cA 0, 6, .inl (fun _ => 0)))]]) H := by rw [fl_app] at hP; exact hP
  have hD : va_D A (List.flatten [[(h0, .inr (2, [.int 0, .int 0, .int 0, .int 0, .int 0, .int 0, .int 0, .ref q1, .ref q2, .ref q3, .ref q4, .null, .null, .null, .null, .null, .null, .null, .null]))], [(q1, .inl (cA 0, 5, .inl (fun _ => 0)))], [(q2, .inl (cA 0, 5, .inl (fun _ => 0)))], [(q3, .inl (cA 0, 6, .inl (fun _ => 0)))], [(q4, .inl (cA 0, 6, .inl (fun _ => 0)))], [(q5, .inl (cA 0, 6, .inl (fun _ => 0)))]]) := by rw [fl_app] at hD; exact hD
  refine va_putF (D := G) (ci := 2) (v := .ref q5) (ty := (.array .int)) (C := RX2) (T := TX2) (N := 19) hx hb hT ku_2 tyX2 tyX2_ok nmX2 hown hK hP hD hS 0 rfl rfl 11 (by decide) (hT _ kw_5_22) (fun _ h9 => h9) rfl hin rfl (by decide +kernel) rfl rfl (Nat.le_of_ble_eq_true rfl) dX2_init_39 (fun H locs hP hD hS => ?_)
  have hP : va_P G vwCl (List.flatten [[(h0, .inr (2, [.int 0, .int 0, .int 0, .int 0, .int 0, .int 0, .int 0, .ref q1, .ref q2, .ref q3, .ref q4, .ref q5, .null, .null, .null, .null, .null, .null, .null]))], [(q1, .inl (cA 0, 5, .inl (fun _ => 0)))], [(q2, .inl (cA 0, 5, .inl (fun _ => 0)))], [(q3, .inl (cA 0, 6, .inl (fun _ => 0)))], [(q4, .inl (cA 0, 6, .inl (fun _ => 0)))], [(q5, .inl (cA 0, 6, .inl (fun _ => 0)))]]) H := hP
  have hD : va_D A (List.flatten [[(h0, .inr (2, [.int 0, .int 0, .int 0, .int 0, .int 0, .int 0, .int 0, .ref q1, .ref q2, .ref q3, .ref q4, .ref q5, .null, .null, .null, .null, .null, .null, .null]))], [(q1, .inl (cA 0, 5, .inl (fun _ => 0)))], [(q2, .inl (cA 0, 5, .inl (fun _ => 0)))], [(q3, .inl (cA 0, 6, .inl (fun _ => 0)))], [(q4, .inl (cA 0, 6, .inl (fun _ => 0)))], [(q5, .inl (cA 0, 6, .inl (fun _ => 0)))]]) := hD
  refine lv_aload_n hx hb dX2_init_42 rfl (lv_at hl 0 rfl) ?_
  refine lv_bipush (v := 6) hx hb dX2_init_43 (by decide) ?_
  refine tq_newa (atype := .int) (ty := .int) (n := 6) (N' := 6) (a0 := (6, .inl (fun _ => 0))) hx hb (hT _ kw_2_13) rfl hK hP hD hS hA 0 (cA 0) rfl (fun _ => rfl) (by decide) (by decide) (by decide) (Nat.le_of_ble_eq_true rfl) (Nat.le_of_ble_eq_true rfl) dX2_init_45 (fun q6 H hP hD hS => ?_)
  refine W.widen (k := 6) (n := 34) (Nat.le_of_ble_eq_true rfl) (Nat.le_of_ble_eq_true rfl) ?_
  have hP : va_P G vwCl (List.flatten [[(h0, .inr (2, [.int 0, .int 0, .int 0, .int 0, .int 0, .int 0, .int 0, .ref q1, .ref q2, .ref q3, .ref q4, .ref q5, .null, .null, .null, .null, .null, .null, .null]))], [(q1, .inl (cA 0, 5, .inl (fun _ => 0)))], [(q2, .inl (cA 0, 5, .inl (fun _ => 0)))], [(q3, .inl (cA 0, 6, .inl (fun _ => 0)))], [(q4, .inl (cA 0, 6, .inl (fun _ => 0)))], [(q5, .inl (cA 0, 6, .inl (fun _ => 0)))], [(q6, .inl (cA 0, 6, .inl (fun _ => 0)))]]) H := by rw [fl_app] at hP; exact hP
  have hD : va_D A (List.flatten [[(h0, .inr (2, [.int 0, .int 0, .int 0, .int 0, .int 0, .int 0, .int 0, .ref q1, .ref q2, .ref q3, .ref q4, .ref q5, .null, .null, .null, .null, .null, .null, .null]))], [(q1, .inl (cA 0, 5, .inl (fun _ => 0)))], [(q2, .inl (cA 0, 5, .inl (fun _ => 0)))], [(q3, .inl (cA 0, 6, .inl (fun _ => 0)))], [(q4, .inl (cA 0, 6, .inl (fun _ => 0)))], [(q5, .inl (cA 0, 6, .inl (fun _ => 0)))], [(q6, .inl (cA 0, 6, .inl (fun _ => 0)))]]) := by rw [fl_app] at hD; exact hD
  refine va_putF (D := G) (ci := 2) (v := .ref q6) (ty := (.array .int)) (C := RX2) (T := TX2) (N := 19) hx hb hT ku_2 tyX2 tyX2_ok nmX2 hown hK hP hD hS 0 rfl rfl 12 (by decide) (hT _ kw_5_23) (fun _ h9 => h9) rfl hin rfl (by decide +kernel) rfl rfl (Nat.le_of_ble_eq_true rfl) dX2_init_47 (fun H locs hP hD hS => ?_)
  have hP : va_P G vwCl (List.flatten [[(h0, .inr (2, [.int 0, .int 0, .int 0, .int 0, .int 0, .int 0, .int 0, .ref q1, .ref q2, .ref q3, .ref q4, .ref q5, .ref q6, .null, .null, .null, .null, .null, .null]))], [(q1, .inl (cA 0, 5, .inl (fun _ => 0)))], [(q2, .inl (cA 0, 5, .inl (fun _ => 0)))], [(q3, .inl (cA 0, 6, .inl (fun _ => 0)))], [(q4, .inl (cA 0, 6, .inl (fun _ => 0)))], [(q5, .inl (cA 0, 6, .inl (fun _ => 0)))], [(q6, .inl (cA 0, 6, .inl (fun _ => 0)))]]) H := hP
  have hD : va_D A (List.flatten [[(h0, .inr (2, [.int 0, .int 0, .int 0, .int 0, .int 0, .int 0, .int 0, .ref q1, .ref q2, .ref q3, .ref q4, .ref q5, .ref q6, .null, .null, .null, .null, .null, .null]))], [(q1, .inl (cA 0, 5, .inl (fun _ => 0)))], [(q2, .inl (cA 0, 5, .inl (fun _ => 0)))], [(q3, .inl (cA 0, 6, .inl (fun _ => 0)))], [(q4, .inl (cA 0, 6, .inl (fun _ => 0)))], [(q5, .inl (cA 0, 6, .inl (fun _ => 0)))], [(q6, .inl (cA 0, 6, .inl (fun _ => 0)))]]) := hD
  refine lv_aload_n hx hb dX2_init_50 rfl (lv_at hl 0 rfl) ?_
  refine lv_bipush (v := 10) hx hb dX2_init_51 (by decide) ?_
  refine tq_newa (atype := .int) (ty := .int) (n := 10) (N' := 10) (a0 := (10, .inl (fun _ => 0))) hx hb (hT _ kw_2_13) rfl hK hP hD hS hA 0 (cA 0) rfl (fun _ => rfl) (by decide) (by decide) (by decide) (Nat.le_of_ble_eq_true rfl) (Nat.le_of_ble_eq_true rfl) dX2_init_53 (fun q7 H hP hD hS => ?_)
  refine W.widen (k := 7) (n := 44) (Nat.le_of_ble_eq_true rfl) (Nat.le_of_ble_eq_true rfl) ?_
  have hP : va_P G vwCl (List.flatten [[(h0, .inr (2, [.int 0, .int 0, .int 0, .int 0, .int 0, .int 0, .int 0, .ref q1, .ref q2, .ref q3, .ref q4, .ref q5, .ref q6, .null, .null, .null, .null, .null, .null]))], [(q1, .inl (cA 0, 5, .inl (fun _ => 0)))], [(q2, .inl (cA 0, 5, .inl (fun _ => 0)))], [(q3, .inl (cA 0, 6, .inl (fun _ => 0)))], [(q4, .inl (cA 0, 6, .inl (fun _ => 0)))], [(q5, .inl (cA 0, 6, .inl (fun _ => 0)))], [(q6, .inl (cA 0, 6, .inl (fun _ => 0)))], [(q7, .inl (cA 0, 10, .inl (fun _ => 0)))]]) H := by rw [fl_app] at hP; exact hP
  have hD : va_D A (List.flatten [[(h0, .inr (2, [.int 0, .int 0, .int 0, .int 0, .int 0, .int 0, .int 0, .ref q1, .ref q2, .ref q3, .ref q4, .ref q5, .ref q6, .null, .null, .null, .null, .null, .null]))], [(q1, .inl (cA 0, 5, .inl (fun _ => 0)))], [(q2, .inl (cA 0, 5, .inl (fun _ => 0)))], [(q3, .inl (cA 0, 6, .inl (fun _ => 0)))], [(q4, .inl (cA 0, 6, .inl (fun _ => 0)))], [(q5, .inl (cA 0, 6, .inl (fun _ => 0)))], [(q6, .inl (cA 0, 6, .inl (fun _ => 0)))], [(q7, .inl (cA 0, 10, .inl (fun _ => 0)))]]) := by rw [fl_app] at hD; exact hD
  refine va_putF (D := G) (ci := 2) (v := .ref q7) (ty := (.array .int)) (C := RX2) (T := TX2) (N := 19) hx hb hT ku_2 tyX2 tyX2_ok nmX2 hown hK hP hD hS 0 rfl rfl 13 (by decide) (hT _ kw_6_0) (fun _ h9 => h9) rfl hin rfl (by decide +kernel) rfl rfl (Nat.le_of_ble_eq_true rfl) dX2_init_55 (fun H locs hP hD hS => ?_)
  have hP : va_P G vwCl (List.flatten [[(h0, .inr (2, [.int 0, .int 0, .int 0, .int 0, .int 0, .int 0, .int 0, .ref q1, .ref q2, .ref q3, .ref q4, .ref q5, .ref q6, .ref q7, .null, .null, .null, .null, .null]))], [(q1, .inl (cA 0, 5, .inl (fun _ => 0)))], [(q2, .inl (cA 0, 5, .inl (fun _ => 0)))], [(q3, .inl (cA 0, 6, .inl (fun _ => 0)))], [(q4, .inl (cA 0, 6, .inl (fun _ => 0)))], [(q5, .inl (cA 0, 6, .inl (fun _ => 0)))], [(q6, .inl (cA 0, 6, .inl (fun _ => 0)))], [(q7, .inl (cA 0, 10, .inl (fun _ => 0)))]]) H := hP
  have hD : va_D A (List.flatten [[(h0, .inr (2, [.int 0, .int 0, .int 0, .int 0, .int 0, .int 0, .int 0, .ref q1, .ref q2, .ref q3, .ref q4, .ref q5, .ref q6, .ref q7, .null, .null, .null, .null, .null]))], [(q1, .inl (cA 0, 5, .inl (fun _ => 0)))], [(q2, .inl (cA 0, 5, .inl (fun _ => 0)))], [(q3, .inl (cA 0, 6, .inl (fun _ => 0)))], [(q4, .inl (cA 0, 6, .inl (fun _ => 0)))], [(q5, .inl (cA 0, 6, .inl (fun _ => 0)))], [(q6, .inl (cA 0, 6, .inl (fun _ => 0)))], [(q7, .inl (cA 0, 10, .inl (fun _ => 0)))]]) := hD
  refine lv_aload_n hx hb dX2_init_58 rfl (lv_at hl 0 rfl) ?_
  refine lv_bipush (v := 10) hx hb dX2_init_59 (by decide) ?_
  refine tq_newa (atype := .int) (ty := .int) (n := 10) (N' := 10) (a0 := (10, .inl (fun _ => 0))) hx hb (hT _ kw_2_13) rfl hK hP hD hS hA 0 (cA 0) rfl (fun _ => rfl) (by decide) (by decide) (by decide) (Nat.le_of_ble_eq_true rfl) (Nat.le_of_ble_eq_true rfl) dX2_init_61 (fun q8 H hP hD hS => ?_)
  refine W.widen (k := 8) (n := 54) (Nat.le_of_ble_eq_true rfl) (Nat.le_of_ble_eq_true rfl) ?_
  have hP : va_P G vwCl (List.flatten [[(h0, .inr (2, [.int 0, .int 0, .int 0, .int 0, .int 0, .int 0, .int 0, .ref q1, .ref q2, .ref q3, .ref q4, .ref q5, .ref q6, .ref q7, .null, .null, .null, .null, .null]))], [(q1, .inl (cA 0, 5, .inl (fun _ => 0)))], [(q2, .inl (cA 0, 5, .inl (fun _ => 0)))], [(q3, .inl (cA 0, 6, .inl (fun _ => 0)))], [(q4, .inl (cA 0, 6, .inl (fun _ => 0)))], [(q5, .inl (cA 0, 6, .inl (fun _ => 0)))], [(q6, .inl (cA 0, 6, .inl (fun _ => 0)))], [(q7, .inl (cA 0, 10, .inl (fun _ => 0)))], [(q8, .inl (cA 0, 10, .inl (fun _ => 0)))]]) H := by rw [fl_app] at hP; exact hP
  have hD : va_D A (List.flatten [[(h0, .inr (2, [.int 0, .int 0, .int 0, .int 0, .int 0, .int 0, .int 0, .ref q1, .ref q2, .ref q3, .ref q4, .ref q5, .ref q6, .ref q7, .null, .null, .null, .null, .null]))], [(q1, .inl (cA 0, 5, .inl (fun _ => 0)))], [(q2, .inl (cA 0, 5, .inl (fun _ => 0)))], [(q3, .inl (cA 0, 6, .inl (fun _ => 0)))], [(q4, .inl (cA 0, 6, .inl (fun _ => 0)))], [(q5, .inl (cA 0, 6, .inl (fun _ => 0)))], [(q6, .inl (cA 0, 6, .inl (fun _ => 0)))], [(q7, .inl (cA 0, 10, .inl (fun _ => 0)))], [(q8, .inl (cA 0, 10, .inl (fun _ => 0)))]]) := by rw [fl_app] at hD; exact hD
  refine va_putF (D := G) (ci := 2) (v := .ref q8) (ty := (.array .int)) (C := RX2) (T := TX2) (N := 19) hx hb hT ku_2 tyX2 tyX2_ok nmX2 hown hK hP hD hS 0 rfl rfl 14 (by decide) (hT _ kw_6_1) (fun _ h9 => h9) rfl hin rfl (by decide +kernel) rfl rfl (Nat.le_of_ble_eq_true rfl) dX2_init_63 (fun H locs hP hD hS => ?_)
  have hP : va_P G vwCl (List.flatten [[(h0, .inr (2, [.int 0, .int 0, .int 0, .int 0, .int 0, .int 0, .int 0, .ref q1, .ref q2, .ref q3, .ref q4, .ref q5, .ref q6, .ref q7, .ref q8, .null, .null, .null, .null]))], [(q1, .inl (cA 0, 5, .inl (fun _ => 0)))], [(q2, .inl (cA 0, 5, .inl (fun _ => 0)))], [(q3, .inl (cA 0, 6, .inl (fun _ => 0)))], [(q4, .inl (cA 0, 6, .inl (fun _ => 0)))], [(q5, .inl (cA 0, 6, .inl (fun _ => 0)))], [(q6, .inl (cA 0, 6, .inl (fun _ => 0)))], [(q7, .inl (cA 0, 10, .inl (fun _ => 0)))], [(q8, .inl (cA 0, 10, .inl (fun _ => 0)))]]) H := hP
  have hD : va_D A (List.flatten [[(h0, .inr (2, [.int 0, .int 0, .int 0, .int 0, .int 0, .int 0, .int 0, .ref q1, .ref q2, .ref q3, .ref q4, .ref q5, .ref q6, .ref q7, .ref q8, .null, .null, .null, .null]))], [(q1, .inl (cA 0, 5, .inl (fun _ => 0)))], [(q2, .inl (cA 0, 5, .inl (fun _ => 0)))], [(q3, .inl (cA 0, 6, .inl (fun _ => 0)))], [(q4, .inl (cA 0, 6, .inl (fun _ => 0)))], [(q5, .inl (cA 0, 6, .inl (fun _ => 0)))], [(q6, .inl (cA 0, 6, .inl (fun _ => 0)))], [(q7, .inl (cA 0, 10, .inl (fun _ => 0)))], [(q8, .inl (cA 0, 10, .inl (fun _ => 0)))]]) := hD
  refine lv_aload_n hx hb dX2_init_66 rfl (lv_at hl 0 rfl) ?_
  refine lv_bipush (v := 10) hx hb dX2_init_67 (by decide) ?_
  refine tq_newa (atype := .int) (ty := .int) (n := 10) (N' := 10) (a0 := (10, .inl (fun _ => 0))) hx hb (hT _ kw_2_13) rfl hK hP hD hS hA 0 (cA 0) rfl (fun _ => rfl) (by decide) (by decide) (by decide) (Nat.le_of_ble_eq_true rfl) (Nat.le_of_ble_eq_true rfl) dX2_init_69 (fun q9 H hP hD hS => ?_)
  refine W.widen (k := 9) (n := 64) (Nat.le_of_ble_eq_true rfl) (Nat.le_of_ble_eq_true rfl) ?_
  have hP : va_P G vwCl (List.flatten [[(h0, .inr (2, [.int 0, .int 0, .int 0, .int 0, .int 0, .int 0, .int 0, .ref q1, .ref q2, .ref q3, .ref q4, .ref q5, .ref q6, .ref q7, .ref q8, .null, .null, .null, .null]))], [(q1, .inl (cA 0, 5, .inl (fun _ => 0)))], [(q2, .inl (cA 0, 5, .inl (fun _ => 0)))], [(q3, .inl (cA 0, 6, .inl (fun _ => 0)))], [(q4, .inl (cA 0, 6, .inl (fun _ => 0)))], [(q5, .inl (cA 0, 6, .inl (fun _ => 0)))], [(q6, .inl (cA 0, 6, .inl (fun _ => 0)))], [(q7, .inl (cA 0, 10, .inl (fun _ => 0)))], [(q8, .inl (cA 0, 10, .inl (fun _ => 0)))], [(q9, .inl (cA 0, 10, .inl (fun _ => 0)))]]) H := by rw [fl_app] at hP; exact hP
  have hD : va_D A (List.flatten [[(h0, .inr (2, [.int 0, .int 0, .int 0, .int 0, .int 0, .int 0, .int 0, .ref q1, .ref q2, .ref q3, .ref q4, .ref q5, .ref q6, .ref q7, .ref q8, .null, .null, .null, .null]))], [(q1, .inl (cA 0, 5, .inl (fun _ => 0)))], [(q2, .inl (cA 0, 5, .inl (fun _ => 0)))], [(q3, .inl (cA 0, 6, .inl (fun _ => 0)))], [(q4, .inl (cA 0, 6, .inl (fun _ => 0)))], [(q5, .inl (cA 0, 6, .inl (fun _ => 0)))], [(q6, .inl (cA 0, 6, .inl (fun _ => 0)))], [(q7, .inl (cA 0, 10, .inl (fun _ => 0)))], [(q8, .inl (cA 0, 10, .inl (fun _ => 0)))], [(q9, .inl (cA 0, 10, .inl (fun _ => 0)))]]) := by rw [fl_app] at hD; exact hD
  refine va_putF (D := G) (ci := 2) (v := .ref q9) (ty := (.array .int)) (C := RX2) (T := TX2) (N := 19) hx hb hT ku_2 tyX2 tyX2_ok nmX2 hown hK hP hD hS 0 rfl rfl 15 (by decide) (hT _ kw_6_2) (fun _ h9 => h9) rfl hin rfl (by decide +kernel) rfl rfl (Nat.le_of_ble_eq_true rfl) dX2_init_71 (fun H locs hP hD hS => ?_)
  have hP : va_P G vwCl (List.flatten [[(h0, .inr (2, [.int 0, .int 0, .int 0, .int 0, .int 0, .int 0, .int 0, .ref q1, .ref q2, .ref q3, .ref q4, .ref q5, .ref q6, .ref q7, .ref q8, .ref q9, .null, .null, .null]))], [(q1, .inl (cA 0, 5, .inl (fun _ => 0)))], [(q2, .inl (cA 0, 5, .inl (fun _ => 0)))], [(q3, .inl (cA 0, 6, .inl (fun _ => 0)))], [(q4, .inl (cA 0, 6, .inl (fun _ => 0)))], [(q5, .inl (cA 0, 6, .inl (fun _ => 0)))], [(q6, .inl (cA 0, 6, .inl (fun _ => 0)))], [(q7, .inl (cA 0, 10, .inl (fun _ => 0)))], [(q8, .inl (cA 0, 10, .inl (fun _ => 0)))], [(q9, .inl (cA 0, 10, .inl (fun _ => 0)))]]) H := hP
  have hD : va_D A (List.flatten [[(h0, .inr (2, [.int 0, .int 0, .int 0, .int 0, .int 0, .int 0, .int 0, .ref q1, .ref q2, .ref q3, .ref q4, .ref q5, .ref q6, .ref q7, .ref q8, .ref q9, .null, .null, .null]))], [(q1, .inl (cA 0, 5, .inl (fun _ => 0)))], [(q2, .inl (cA 0, 5, .inl (fun _ => 0)))], [(q3, .inl (cA 0, 6, .inl (fun _ => 0)))], [(q4, .inl (cA 0, 6, .inl (fun _ => 0)))], [(q5, .inl (cA 0, 6, .inl (fun _ => 0)))], [(q6, .inl (cA 0, 6, .inl (fun _ => 0)))], [(q7, .inl (cA 0, 10, .inl (fun _ => 0)))], [(q8, .inl (cA 0, 10, .inl (fun _ => 0)))], [(q9, .inl (cA 0, 10, .inl (fun _ => 0)))]]) := hD
  refine lv_aload_n hx hb dX2_init_74 rfl (lv_at hl 0 rfl) ?_
  refine lv_bipush (v := 10) hx hb dX2_init_75 (by decide) ?_
  refine tq_newa (atype := .int) (ty := .int) (n := 10) (N' := 10) (a0 := (10, .inl (fun _ => 0))) hx hb (hT _ kw_2_13) rfl hK hP hD hS hA 0 (cA 0) rfl (fun _ => rfl) (by decide) (by decide) (by decide) (Nat.le_of_ble_eq_true rfl) (Nat.le_of_ble_eq_true rfl) dX2_init_77 (fun q10 H hP hD hS => ?_)
  refine W.widen (k := 10) (n := 74) (Nat.le_of_ble_eq_true rfl) (Nat.le_of_ble_eq_true rfl) ?_
  have hP : va_P G vwCl (List.flatten [[(h0, .inr (2, [.int 0, .int 0, .int 0, .int 0, .int 0, .int 0, .int 0, .ref q1, .ref q2, .ref q3, .ref q4, .ref q5, .ref q6, .ref q7, .ref q8, .ref q9, .null, .null, .null]))], [(q1, .inl (cA 0, 5, .inl (fun _ => 0)))], [(q2, .inl (cA 0, 5, .inl (fun _ => 0)))], [(q3, .inl (cA 0, 6, .inl (fun _ => 0)))], [(q4, .inl (cA 0, 6, .inl (fun _ => 0)))], [(q5, .inl (cA 0, 6, .inl (fun _ => 0)))], [(q6, .inl (cA 0, 6, .inl (fun _ => 0)))], [(q7, .inl (cA 0, 10, .inl (fun _ => 0)))], [(q8, .inl (cA 0, 10, .inl (fun _ => 0)))], [(q9, .inl (cA 0, 10, .inl (fun _ => 0)))], [(q10, .inl (cA 0, 10, .inl (fun _ => 0)))]]) H := by rw [fl_app] at hP; exact hP
  have hD : va_D A (List.flatten [[(h0, .inr (2, [.int 0, .int 0, .int 0, .int 0, .int 0, .int 0, .int 0, .ref q1, .ref q2, .ref q3, .ref q4, .ref q5, .ref q6, .ref q7, .ref q8, .ref q9, .null, .null, .null]))], [(q1, .inl (cA 0, 5, .inl (fun _ => 0)))], [(q2, .inl (cA 0, 5, .inl (fun _ => 0)))], [(q3, .inl (cA 0, 6, .inl (fun _ => 0)))], [(q4, .inl (cA 0, 6, .inl (fun _ => 0)))], [(q5, .inl (cA 0, 6, .inl (fun _ => 0)))], [(q6, .inl (cA 0, 6, .inl (fun _ => 0)))], [(q7, .inl (cA 0, 10, .inl (fun _ => 0)))], [(q8, .inl (cA 0, 10, .inl (fun _ => 0)))], [(q9, .inl (cA 0, 10, .inl (fun _ => 0)))], [(q10, .inl (cA 0, 10, .inl (fun _ => 0)))]]) := by rw [fl_app] at hD; exact hD
  refine va_putF (D := G) (ci := 2) (v := .ref q10) (ty := (.array .int)) (C := RX2) (T := TX2) (N := 19) hx hb hT ku_2 tyX2 tyX2_ok nmX2 hown hK hP hD hS 0 rfl rfl 16 (by decide) (hT _ kw_6_3) (fun _ h9 => h9) rfl hin rfl (by decide +kernel) rfl rfl (Nat.le_of_ble_eq_true rfl) dX2_init_79 (fun H locs hP hD hS => ?_)
  have hP : va_P G vwCl (List.flatten [[(h0, .inr (2, [.int 0, .int 0, .int 0, .int 0, .int 0, .int 0, .int 0, .ref q1, .ref q2, .ref q3, .ref q4, .ref q5, .ref q6, .ref q7, .ref q8, .ref q9, .ref q10, .null, .null]))], [(q1, .inl (cA 0, 5, .inl (fun _ => 0)))], [(q2, .inl (cA 0, 5, .inl (fun _ => 0)))], [(q3, .inl (cA 0, 6, .inl (fun _ => 0)))], [(q4, .inl (cA 0, 6, .inl (fun _ => 0)))], [(q5, .inl (cA 0, 6, .inl (fun _ => 0)))], [(q6, .inl (cA 0, 6, .inl (fun _ => 0)))], [(q7, .inl (cA 0, 10, .inl (fun _ => 0)))], [(q8, .inl (cA 0, 10, .inl (fun _ => 0)))], [(q9, .inl (cA 0, 10, .inl (fun _ => 0)))], [(q10, .inl (cA 0, 10, .inl (fun _ => 0)))]]) H := hP
  have hD : va_D A (List.flatten [[(h0, .inr (2, [.int 0, .int 0, .int 0, .int 0, .int 0, .int 0, .int 0, .ref q1, .ref q2, .ref q3, .ref q4, .ref q5, .ref q6, .ref q7, .ref q8, .ref q9, .ref q10, .null, .null]))], [(q1, .inl (cA 0, 5, .inl (fun _ => 0)))], [(q2, .inl (cA 0, 5, .inl (fun _ => 0)))], [(q3, .inl (cA 0, 6, .inl (fun _ => 0)))], [(q4, .inl (cA 0, 6, .inl (fun _ => 0)))], [(q5, .inl (cA 0, 6, .inl (fun _ => 0)))], [(q6, .inl (cA 0, 6, .inl (fun _ => 0)))], [(q7, .inl (cA 0, 10, .inl (fun _ => 0)))], [(q8, .inl (cA 0, 10, .inl (fun _ => 0)))], [(q9, .inl (cA 0, 10, .inl (fun _ => 0)))], [(q10, .inl (cA 0, 10, .inl (fun _ => 0)))]]) := hD
  refine lv_aload_n hx hb dX2_init_82 rfl (lv_at hl 0 rfl) ?_
  refine lv_bipush (v := 21) hx hb dX2_init_83 (by decide) ?_
  refine tq_newa (atype := .int) (ty := .int) (n := 21) (N' := 21) (a0 := (21, .inl (fun _ => 0))) hx hb (hT _ kw_2_13) rfl hK hP hD hS hA 0 (cA 0) rfl (fun _ => rfl) (by decide) (by decide) (by decide) (Nat.le_of_ble_eq_true rfl) (Nat.le_of_ble_eq_true rfl) dX2_init_85 (fun q11 H hP hD hS => ?_)
  refine W.widen (k := 11) (n := 95) (Nat.le_of_ble_eq_true rfl) (Nat.le_of_ble_eq_true rfl) ?_
  have hP : va_P G vwCl (List.flatten [[(h0, .inr (2, [.int 0, .int 0, .int 0, .int 0, .int 0, .int 0, .int 0, .ref q1, .ref q2, .ref q3, .ref q4, .ref q5, .ref q6, .ref q7, .ref q8, .ref q9, .ref q10, .null, .null]))], [(q1, .inl (cA 0, 5, .inl (fun _ => 0)))], [(q2, .inl (cA 0, 5, .inl (fun _ => 0)))], [(q3, .inl (cA 0, 6, .inl (fun _ => 0)))], [(q4, .inl (cA 0, 6, .inl (fun _ => 0)))], [(q5, .inl (cA 0, 6, .inl (fun _ => 0)))], [(q6, .inl (cA 0, 6, .inl (fun _ => 0)))], [(q7, .inl (cA 0, 10, .inl (fun _ => 0)))], [(q8, .inl (cA 0, 10, .inl (fun _ => 0)))], [(q9, .inl (cA 0, 10, .inl (fun _ => 0)))], [(q10, .inl (cA 0, 10, .inl (fun _ => 0)))], [(q11, .inl (cA 0, 21, .inl (fun _ => 0)))]]) H := by rw [fl_app] at hP; exact hP
  have hD : va_D A (List.flatten [[(h0, .inr (2, [.int 0, .int 0, .int 0, .int 0, .int 0, .int 0, .int 0, .ref q1, .ref q2, .ref q3, .ref q4, .ref q5, .ref q6, .ref q7, .ref q8, .ref q9, .ref q10, .null, .null]))], [(q1, .inl (cA 0, 5, .inl (fun _ => 0)))], [(q2, .inl (cA 0, 5, .inl (fun _ => 0)))], [(q3, .inl (cA 0, 6, .inl (fun _ => 0)))], [(q4, .inl (cA 0, 6, .inl (fun _ => 0)))], [(q5, .inl (cA 0, 6, .inl (fun _ => 0)))], [(q6, .inl (cA 0, 6, .inl (fun _ => 0)))], [(q7, .inl (cA 0, 10, .inl (fun _ => 0)))], [(q8, .inl (cA 0, 10, .inl (fun _ => 0)))], [(q9, .inl (cA 0, 10, .inl (fun _ => 0)))], [(q10, .inl (cA 0, 10, .inl (fun _ => 0)))], [(q11, .inl (cA 0, 21, .inl (fun _ => 0)))]]) := by rw [fl_app] at hD; exact hD
  refine va_putF (D := G) (ci := 2) (v := .ref q11) (ty := (.array .int)) (C := RX2) (T := TX2) (N := 19) hx hb hT ku_2 tyX2 tyX2_ok nmX2 hown hK hP hD hS 0 rfl rfl 17 (by decide) (hT _ kw_6_4) (fun _ h9 => h9) rfl hin rfl (by decide +kernel) rfl rfl (Nat.le_of_ble_eq_true rfl) dX2_init_87 (fun H locs hP hD hS => ?_)
  have hP : va_P G vwCl (List.flatten [[(h0, .inr (2, [.int 0, .int 0, .int 0, .int 0, .int 0, .int 0, .int 0, .ref q1, .ref q2, .ref q3, .ref q4, .ref q5, .ref q6, .ref q7, .ref q8, .ref q9, .ref q10, .ref q11, .null]))], [(q1, .inl (cA 0, 5, .inl (fun _ => 0)))], [(q2, .inl (cA 0, 5, .inl (fun _ => 0)))], [(q3, .inl (cA 0, 6, .inl (fun _ => 0)))], [(q4, .inl (cA 0, 6, .inl (fun _ => 0)))], [(q5, .inl (cA 0, 6, .inl (fun _ => 0)))], [(q6, .inl (cA 0, 6, .inl (fun _ => 0)))], [(q7, .inl (cA 0, 10, .inl (fun _ => 0)))], [(q8, .inl (cA 0, 10, .inl (fun _ => 0)))], [(q9, .inl (cA 0, 10, .inl (fun _ => 0)))], [(q10, .inl (cA 0, 10, .inl (fun _ => 0)))], [(q11, .inl (cA 0, 21, .inl (fun _ => 0)))]]) H := hP
  have hD : va_D A (List.flatten [[(h0, .inr (2, [.int 0, .int 0, .int 0, .int 0, .int 0, .int 0, .int 0, .ref q1, .ref q2, .ref q3, .ref q4, .ref q5, .ref q6, .ref q7, .ref q8, .ref q9, .ref q10, .ref q11, .null]))], [(q1, .inl (cA 0, 5, .inl (fun _ => 0)))], [(q2, .inl (cA 0, 5, .inl (fun _ => 0)))], [(q3, .inl (cA 0, 6, .inl (fun _ => 0)))], [(q4, .inl (cA 0, 6, .inl (fun _ => 0)))], [(q5, .inl (cA 0, 6, .inl (fun _ => 0)))], [(q6, .inl (cA 0, 6, .inl (fun _ => 0)))], [(q7, .inl (cA 0, 10, .inl (fun _ => 0)))], [(q8, .inl (cA 0, 10, .inl (fun _ => 0)))], [(q9, .inl (cA 0, 10, .inl (fun _ => 0)))], [(q10, .inl (cA 0, 10, .inl (fun _ => 0)))], [(q11, .inl (cA 0, 21, .inl (fun _ => 0)))]]) := hD
  refine lv_aload_n hx hb dX2_init_90 rfl (lv_at hl 0 rfl) ?_
  refine lv_iconst (v := 3) hx hb dX2_init_91 (by decide) ?_
  refine tq_newq (n := 3) (N' := 3) hx hb hown (hT _ kw_6_5) hO hK hP hD hS hA 4 (cA 4) rfl (by decide) (by decide) (by decide) (Nat.le_of_ble_eq_true rfl) (Nat.le_of_ble_eq_true rfl) dX2_init_92 (fun q12 H hP hD hS => ?_)
  refine W.widen (k := 12) (n := 98) (Nat.le_of_ble_eq_true rfl) (Nat.le_of_ble_eq_true rfl) ?_
  have hP : va_P G vwCl (List.flatten [[(h0, .inr (2, [.int 0, .int 0, .int 0, .int 0, .int 0, .int 0, .int 0, .ref q1, .ref q2, .ref q3, .ref q4, .ref q5, .ref q6, .ref q7, .ref q8, .ref q9, .ref q10, .ref q11, .null]))], [(q1, .inl (cA 0, 5, .inl (fun _ => 0)))], [(q2, .inl (cA 0, 5, .inl (fun _ => 0)))], [(q3, .inl (cA 0, 6, .inl (fun _ => 0)))], [(q4, .inl (cA 0, 6, .inl (fun _ => 0)))], [(q5, .inl (cA 0, 6, .inl (fun _ => 0)))], [(q6, .inl (cA 0, 6, .inl (fun _ => 0)))], [(q7, .inl (cA 0, 10, .inl (fun _ => 0)))], [(q8, .inl (cA 0, 10, .inl (fun _ => 0)))], [(q9, .inl (cA 0, 10, .inl (fun _ => 0)))], [(q10, .inl (cA 0, 10, .inl (fun _ => 0)))], [(q11, .inl (cA 0, 21, .inl (fun _ => 0)))], [(q12, .inl (cA 4, 3, .inr (.inr (.inr (.inr (fun _ => none))))))]]) H := by rw [fl_app] at hP; exact hP
  have hD : va_D A (List.flatten [[(h0, .inr (2, [.int 0, .int 0, .int 0, .int 0, .int 0, .int 0, .int 0, .ref q1, .ref q2, .ref q3, .ref q4, .ref q5, .ref q6, .ref q7, .ref q8, .ref q9, .ref q10, .ref q11, .null]))], [(q1, .inl (cA 0, 5, .inl (fun _ => 0)))], [(q2, .inl (cA 0, 5, .inl (fun _ => 0)))], [(q3, .inl (cA 0, 6, .inl (fun _ => 0)))], [(q4, .inl (cA 0, 6, .inl (fun _ => 0)))], [(q5, .inl (cA 0, 6, .inl (fun _ => 0)))], [(q6, .inl (cA 0, 6, .inl (fun _ => 0)))], [(q7, .inl (cA 0, 10, .inl (fun _ => 0)))], [(q8, .inl (cA 0, 10, .inl (fun _ => 0)))], [(q9, .inl (cA 0, 10, .inl (fun _ => 0)))], [(q10, .inl (cA 0, 10, .inl (fun _ => 0)))], [(q11, .inl (cA 0, 21, .inl (fun _ => 0)))], [(q12, .inl (cA 4, 3, .inr (.inr (.inr (.inr (fun _ => none))))))]]) := by rw [fl_app] at hD; exact hD
  refine va_putF (D := G) (ci := 2) (v := .ref q12) (ty := (.array (.object "RackTrain$Law"))) (C := RX2) (T := TX2) (N := 19) hx hb hT ku_2 tyX2 tyX2_ok nmX2 hown hK hP hD hS 0 rfl rfl 18 (by decide) (hT _ kw_6_6) (fun _ h9 => h9) rfl hin rfl (by decide +kernel) rfl rfl (Nat.le_of_ble_eq_true rfl) dX2_init_95 (fun H locs hP hD hS => ?_)
  have hP : va_P G vwCl (List.flatten [[(h0, .inr (2, [.int 0, .int 0, .int 0, .int 0, .int 0, .int 0, .int 0, .ref q1, .ref q2, .ref q3, .ref q4, .ref q5, .ref q6, .ref q7, .ref q8, .ref q9, .ref q10, .ref q11, .ref q12]))], [(q1, .inl (cA 0, 5, .inl (fun _ => 0)))], [(q2, .inl (cA 0, 5, .inl (fun _ => 0)))], [(q3, .inl (cA 0, 6, .inl (fun _ => 0)))], [(q4, .inl (cA 0, 6, .inl (fun _ => 0)))], [(q5, .inl (cA 0, 6, .inl (fun _ => 0)))], [(q6, .inl (cA 0, 6, .inl (fun _ => 0)))], [(q7, .inl (cA 0, 10, .inl (fun _ => 0)))], [(q8, .inl (cA 0, 10, .inl (fun _ => 0)))], [(q9, .inl (cA 0, 10, .inl (fun _ => 0)))], [(q10, .inl (cA 0, 10, .inl (fun _ => 0)))], [(q11, .inl (cA 0, 21, .inl (fun _ => 0)))], [(q12, .inl (cA 4, 3, .inr (.inr (.inr (.inr (fun _ => none))))))]]) H := hP
  have hD : va_D A (List.flatten [[(h0, .inr (2, [.int 0, .int 0, .int 0, .int 0, .int 0, .int 0, .int 0, .ref q1, .ref q2, .ref q3, .ref q4, .ref q5, .ref q6, .ref q7, .ref q8, .ref q9, .ref q10, .ref q11, .ref q12]))], [(q1, .inl (cA 0, 5, .inl (fun _ => 0)))], [(q2, .inl (cA 0, 5, .inl (fun _ => 0)))], [(q3, .inl (cA 0, 6, .inl (fun _ => 0)))], [(q4, .inl (cA 0, 6, .inl (fun _ => 0)))], [(q5, .inl (cA 0, 6, .inl (fun _ => 0)))], [(q6, .inl (cA 0, 6, .inl (fun _ => 0)))], [(q7, .inl (cA 0, 10, .inl (fun _ => 0)))], [(q8, .inl (cA 0, 10, .inl (fun _ => 0)))], [(q9, .inl (cA 0, 10, .inl (fun _ => 0)))], [(q10, .inl (cA 0, 10, .inl (fun _ => 0)))], [(q11, .inl (cA 0, 21, .inl (fun _ => 0)))], [(q12, .inl (cA 4, 3, .inr (.inr (.inr (.inr (fun _ => none))))))]]) := hD
  refine lv_iconst (v := 0) hx hb dX2_init_98 (by decide) ?_
  refine lv_istore_n (lv' := [(1, .int 0), (0, .ref h0)]) hx hb dX2_init_99 rfl hl (by decide) rfl (fun ls hl => ?_)
  refine lv_iload_n hx hb dX2_init_100 rfl (lv_at hl 0 rfl) ?_
  refine lv_iconst (v := 3) hx hb dX2_init_101 (by decide) ?_
  refine lv_icmp_ge (tgt := 124) hx hb dX2_init_102 (by decide) (fun c9 => absurd c9 (by decide)) (fun c9 => ?_)
  refine lv_aload_n hx hb dX2_init_105 rfl (lv_at hl 1 rfl) ?_
  refine va_get (D := G) (ci := 2) (v := .ref q12) (C := RX2) (T := TX2) (N := 19) hx hb hT ku_2 hown hK hP 0 rfl rfl 18 (by decide) (hT _ kw_6_6) (fun _ h9 => h9) rfl dX2_init_106 ?_
  refine lv_iload_n hx hb dX2_init_109 rfl (lv_at hl 0 rfl) ?_
  refine va_new (ci := 1) (fs := [.null, .int 0, .null]) (C := RX1) (T := TX1) (N := 3) hx hb hT ku_1 tyX1 tyX1_ok hown (hT _ kw_6_5) (hT _ kw_6_7) (hT _ kw_6_8) hK hP hD hS hA rfl tq_dfX1 (Nat.le_of_ble_eq_true rfl) (Nat.le_of_ble_eq_true rfl) dX2_init_110 (fun q13 H hP hD hS => ?_)
  refine W.widen (k := 13) (n := 101) (Nat.le_of_ble_eq_true rfl) (Nat.le_of_ble_eq_true rfl) ?_
  have hP : va_P G vwCl (List.flatten [[(h0, .inr (2, [.int 0, .int 0, .int 0, .int 0, .int 0, .int 0, .int 0, .ref q1, .ref q2, .ref q3, .ref q4, .ref q5, .ref q6, .ref q7, .ref q8, .ref q9, .ref q10, .ref q11, .ref q12]))], [(q1, .inl (cA 0, 5, .inl (fun _ => 0)))], [(q2, .inl (cA 0, 5, .inl (fun _ => 0)))], [(q3, .inl (cA 0, 6, .inl (fun _ => 0)))], [(q4, .inl (cA 0, 6, .inl (fun _ => 0)))], [(q5, .inl (cA 0, 6, .inl (fun _ => 0)))], [(q6, .inl (cA 0, 6, .inl (fun _ => 0)))], [(q7, .inl (cA 0, 10, .inl (fun _ => 0)))], [(q8, .inl (cA 0, 10, .inl (fun _ => 0)))], [(q9, .inl (cA 0, 10, .inl (fun _ => 0)))], [(q10, .inl (cA 0, 10, .inl (fun _ => 0)))], [(q11, .inl (cA 0, 21, .inl (fun _ => 0)))], [(q12, .inl (cA 4, 3, .inr (.inr (.inr (.inr (fun _ => none))))))], [(q13, .inr (1, [.null, .int 0, .null]))]]) H := by rw [fl_app] at hP; exact hP
  have hD : va_D A (List.flatten [[(h0, .inr (2, [.int 0, .int 0, .int 0, .int 0, .int 0, .int 0, .int 0, .ref q1, .ref q2, .ref q3, .ref q4, .ref q5, .ref q6, .ref q7, .ref q8, .ref q9, .ref q10, .ref q11, .ref q12]))], [(q1, .inl (cA 0, 5, .inl (fun _ => 0)))], [(q2, .inl (cA 0, 5, .inl (fun _ => 0)))], [(q3, .inl (cA 0, 6, .inl (fun _ => 0)))], [(q4, .inl (cA 0, 6, .inl (fun _ => 0)))], [(q5, .inl (cA 0, 6, .inl (fun _ => 0)))], [(q6, .inl (cA 0, 6, .inl (fun _ => 0)))], [(q7, .inl (cA 0, 10, .inl (fun _ => 0)))], [(q8, .inl (cA 0, 10, .inl (fun _ => 0)))], [(q9, .inl (cA 0, 10, .inl (fun _ => 0)))], [(q10, .inl (cA 0, 10, .inl (fun _ => 0)))], [(q11, .inl (cA 0, 21, .inl (fun _ => 0)))], [(q12, .inl (cA 4, 3, .inr (.inr (.inr (.inr (fun _ => none))))))], [(q13, .inr (1, [.null, .int 0, .null]))]]) := by rw [fl_app] at hD; exact hD
  refine lv_dup hx hb dX2_init_113 rfl ?_
  have pm := (pk_flat (α := Nat × va_E) (sel := [[(q13, .inr (1, [.null, .int 0, .null]))]]) (oth := [[(h0, .inr (2, [.int 0, .int 0, .int 0, .int 0, .int 0, .int 0, .int 0, .ref q1, .ref q2, .ref q3, .ref q4, .ref q5, .ref q6, .ref q7, .ref q8, .ref q9, .ref q10, .ref q11, .ref q12]))], [(q1, .inl (cA 0, 5, .inl (fun _ => 0)))], [(q2, .inl (cA 0, 5, .inl (fun _ => 0)))], [(q3, .inl (cA 0, 6, .inl (fun _ => 0)))], [(q4, .inl (cA 0, 6, .inl (fun _ => 0)))], [(q5, .inl (cA 0, 6, .inl (fun _ => 0)))], [(q6, .inl (cA 0, 6, .inl (fun _ => 0)))], [(q7, .inl (cA 0, 10, .inl (fun _ => 0)))], [(q8, .inl (cA 0, 10, .inl (fun _ => 0)))], [(q9, .inl (cA 0, 10, .inl (fun _ => 0)))], [(q10, .inl (cA 0, 10, .inl (fun _ => 0)))], [(q11, .inl (cA 0, 21, .inl (fun _ => 0)))], [(q12, .inl (cA 4, 3, .inr (.inr (.inr (.inr (fun _ => none))))))]]) ((by decide : List.Perm [0, 1, 2, 3, 4, 5, 6, 7, 8, 9, 10, 11, 12, 13] [13, 0, 1, 2, 3, 4, 5, 6, 7, 8, 9, 10, 11, 12]).map (fun k => List.getD [([(h0, .inr (2, [.int 0, .int 0, .int 0, .int 0, .int 0, .int 0, .int 0, .ref q1, .ref q2, .ref q3, .ref q4, .ref q5, .ref q6, .ref q7, .ref q8, .ref q9, .ref q10, .ref q11, .ref q12]))] : va_W), ([(q1, .inl (cA 0, 5, .inl (fun _ => 0)))] : va_W), ([(q2, .inl (cA 0, 5, .inl (fun _ => 0)))] : va_W), ([(q3, .inl (cA 0, 6, .inl (fun _ => 0)))] : va_W), ([(q4, .inl (cA 0, 6, .inl (fun _ => 0)))] : va_W), ([(q5, .inl (cA 0, 6, .inl (fun _ => 0)))] : va_W), ([(q6, .inl (cA 0, 6, .inl (fun _ => 0)))] : va_W), ([(q7, .inl (cA 0, 10, .inl (fun _ => 0)))] : va_W), ([(q8, .inl (cA 0, 10, .inl (fun _ => 0)))] : va_W), ([(q9, .inl (cA 0, 10, .inl (fun _ => 0)))] : va_W), ([(q10, .inl (cA 0, 10, .inl (fun _ => 0)))] : va_W), ([(q11, .inl (cA 0, 21, .inl (fun _ => 0)))] : va_W), ([(q12, .inl (cA 4, 3, .inr (.inr (.inr (.inr (fun _ => none))))))] : va_W), ([(q13, .inr (1, [.null, .int 0, .null]))] : va_W)] k [])))
  refine tw_cvm pm hP hD hS hA (va_runIN (As := []) (rest := [.ref q13, .int 0, .ref q12]) ⟨hx, hb, hml, hown, hT⟩ (k_X1_init l G cA H.size q13) ⟨va_cnB (host := "RackTrain") 0 hT (tq_gC kw_6_10) rfl rfl rfl hN.2.1 (hT _ kw_6_8) (by decide +kernel) ⟨Nat.le_of_ble_eq_true rfl, Nat.le_of_ble_eq_true rfl⟩, rfl, hT _ kw_6_9⟩ (tw_pre pm hP hD hK hN) rfl rfl hl.1 rfl (lv_room (Nat.le_of_ble_eq_true rfl)) dX2_init_114 ⟨Nat.le_of_ble_eq_true rfl, Nat.le_of_ble_eq_true rfl⟩) (fun u0 H locs _ hP15 hD15 hS15 => ?_)
  refine W.widen (k := 15) (n := 229) (Nat.le_of_ble_eq_true rfl) (Nat.le_of_ble_eq_true rfl) ?_
  have hS := hS15
  have pm2 := (pk_all (α := Nat × va_E) (a := 3) (it := [([(q13, .inr (1, [.ref u0.1, .int 0, .ref u0.2]))] : va_W), ([(u0.1, .inl (cA 0, 64, .inl (fun _ => 0)))] : va_W), ([(u0.2, .inl (cA 2, 64, .inr (.inl (fun _ => 0))))] : va_W), ([(h0, .inr (2, [.int 0, .int 0, .int 0, .int 0, .int 0, .int 0, .int 0, .ref q1, .ref q2, .ref q3, .ref q4, .ref q5, .ref q6, .ref q7, .ref q8, .ref q9, .ref q10, .ref q11, .ref q12]))] : va_W), ([(q1, .inl (cA 0, 5, .inl (fun _ => 0)))] : va_W), ([(q2, .inl (cA 0, 5, .inl (fun _ => 0)))] : va_W), ([(q3, .inl (cA 0, 6, .inl (fun _ => 0)))] : va_W), ([(q4, .inl (cA 0, 6, .inl (fun _ => 0)))] : va_W), ([(q5, .inl (cA 0, 6, .inl (fun _ => 0)))] : va_W), ([(q6, .inl (cA 0, 6, .inl (fun _ => 0)))] : va_W), ([(q7, .inl (cA 0, 10, .inl (fun _ => 0)))] : va_W), ([(q8, .inl (cA 0, 10, .inl (fun _ => 0)))] : va_W), ([(q9, .inl (cA 0, 10, .inl (fun _ => 0)))] : va_W), ([(q10, .inl (cA 0, 10, .inl (fun _ => 0)))] : va_W), ([(q11, .inl (cA 0, 21, .inl (fun _ => 0)))] : va_W), ([(q12, .inl (cA 4, 3, .inr (.inr (.inr (.inr (fun _ => none))))))] : va_W)]) (by decide : List.Perm [0, 1, 2, 3, 4, 5, 6, 7, 8, 9, 10, 11, 12, 13, 14, 15] [3, 4, 5, 6, 7, 8, 9, 10, 11, 12, 13, 14, 15, 0, 1, 2]))
  have hP : va_P G vwCl (List.flatten [[(h0, .inr (2, [.int 0, .int 0, .int 0, .int 0, .int 0, .int 0, .int 0, .ref q1, .ref q2, .ref q3, .ref q4, .ref q5, .ref q6, .ref q7, .ref q8, .ref q9, .ref q10, .ref q11, .ref q12]))], [(q1, .inl (cA 0, 5, .inl (fun _ => 0)))], [(q2, .inl (cA 0, 5, .inl (fun _ => 0)))], [(q3, .inl (cA 0, 6, .inl (fun _ => 0)))], [(q4, .inl (cA 0, 6, .inl (fun _ => 0)))], [(q5, .inl (cA 0, 6, .inl (fun _ => 0)))], [(q6, .inl (cA 0, 6, .inl (fun _ => 0)))], [(q7, .inl (cA 0, 10, .inl (fun _ => 0)))], [(q8, .inl (cA 0, 10, .inl (fun _ => 0)))], [(q9, .inl (cA 0, 10, .inl (fun _ => 0)))], [(q10, .inl (cA 0, 10, .inl (fun _ => 0)))], [(q11, .inl (cA 0, 21, .inl (fun _ => 0)))], [(q12, .inl (cA 4, 3, .inr (.inr (.inr (.inr (fun _ => none))))))], [(q13, .inr (1, [.ref u0.1, .int 0, .ref u0.2]))], [(u0.1, .inl (cA 0, 64, .inl (fun _ => 0)))], [(u0.2, .inl (cA 2, 64, .inr (.inl (fun _ => 0))))]]) H := tw_P pm2 hP15
  have hD : va_D A (List.flatten [[(h0, .inr (2, [.int 0, .int 0, .int 0, .int 0, .int 0, .int 0, .int 0, .ref q1, .ref q2, .ref q3, .ref q4, .ref q5, .ref q6, .ref q7, .ref q8, .ref q9, .ref q10, .ref q11, .ref q12]))], [(q1, .inl (cA 0, 5, .inl (fun _ => 0)))], [(q2, .inl (cA 0, 5, .inl (fun _ => 0)))], [(q3, .inl (cA 0, 6, .inl (fun _ => 0)))], [(q4, .inl (cA 0, 6, .inl (fun _ => 0)))], [(q5, .inl (cA 0, 6, .inl (fun _ => 0)))], [(q6, .inl (cA 0, 6, .inl (fun _ => 0)))], [(q7, .inl (cA 0, 10, .inl (fun _ => 0)))], [(q8, .inl (cA 0, 10, .inl (fun _ => 0)))], [(q9, .inl (cA 0, 10, .inl (fun _ => 0)))], [(q10, .inl (cA 0, 10, .inl (fun _ => 0)))], [(q11, .inl (cA 0, 21, .inl (fun _ => 0)))], [(q12, .inl (cA 4, 3, .inr (.inr (.inr (.inr (fun _ => none))))))], [(q13, .inr (1, [.ref u0.1, .int 0, .ref u0.2]))], [(u0.1, .inl (cA 0, 64, .inl (fun _ => 0)))], [(u0.2, .inl (cA 2, 64, .inr (.inl (fun _ => 0))))]]) := tw_D pm2 hD15
  refine va_astq (r := (RX1, TX1, 3)) (i := 0) hx hb hK hP hD hS 12 4 13 1 rfl rfl rfl rfl (tq_in (by decide)) dX2_init_117 (fun H locs hP hD hS => ?_)
  have hP : va_P G vwCl (List.flatten [[(h0, .inr (2, [.int 0, .int 0, .int 0, .int 0, .int 0, .int 0, .int 0, .ref q1, .ref q2, .ref q3, .ref q4, .ref q5, .ref q6, .ref q7, .ref q8, .ref q9, .ref q10, .ref q11, .ref q12]))], [(q1, .inl (cA 0, 5, .inl (fun _ => 0)))], [(q2, .inl (cA 0, 5, .inl (fun _ => 0)))], [(q3, .inl (cA 0, 6, .inl (fun _ => 0)))], [(q4, .inl (cA 0, 6, .inl (fun _ => 0)))], [(q5, .inl (cA 0, 6, .inl (fun _ => 0)))], [(q6, .inl (cA 0, 6, .inl (fun _ => 0)))], [(q7, .inl (cA 0, 10, .inl (fun _ => 0)))], [(q8, .inl (cA 0, 10, .inl (fun _ => 0)))], [(q9, .inl (cA 0, 10, .inl (fun _ => 0)))], [(q10, .inl (cA 0, 10, .inl (fun _ => 0)))], [(q11, .inl (cA 0, 21, .inl (fun _ => 0)))], [(q12, .inl (cA 4, 3, .inr (.inr (.inr (.inr (va_up (fun _ => none) 0 (some q13)))))))], [(q13, .inr (1, [.ref u0.1, .int 0, .ref u0.2]))], [(u0.1, .inl (cA 0, 64, .inl (fun _ => 0)))], [(u0.2, .inl (cA 2, 64, .inr (.inl (fun _ => 0))))]]) H := hP
  have hD : va_D A (List.flatten [[(h0, .inr (2, [.int 0, .int 0, .int 0, .int 0, .int 0, .int 0, .int 0, .ref q1, .ref q2, .ref q3, .ref q4, .ref q5, .ref q6, .ref q7, .ref q8, .ref q9, .ref q10, .ref q11, .ref q12]))], [(q1, .inl (cA 0, 5, .inl (fun _ => 0)))], [(q2, .inl (cA 0, 5, .inl (fun _ => 0)))], [(q3, .inl (cA 0, 6, .inl (fun _ => 0)))], [(q4, .inl (cA 0, 6, .inl (fun _ => 0)))], [(q5, .inl (cA 0, 6, .inl (fun _ => 0)))], [(q6, .inl (cA 0, 6, .inl (fun _ => 0)))], [(q7, .inl (cA 0, 10, .inl (fun _ => 0)))], [(q8, .inl (cA 0, 10, .inl (fun _ => 0)))], [(q9, .inl (cA 0, 10, .inl (fun _ => 0)))], [(q10, .inl (cA 0, 10, .inl (fun _ => 0)))], [(q11, .inl (cA 0, 21, .inl (fun _ => 0)))], [(q12, .inl (cA 4, 3, .inr (.inr (.inr (.inr (va_up (fun _ => none) 0 (some q13)))))))], [(q13, .inr (1, [.ref u0.1, .int 0, .ref u0.2]))], [(u0.1, .inl (cA 0, 64, .inl (fun _ => 0)))], [(u0.2, .inl (cA 2, 64, .inr (.inl (fun _ => 0))))]]) := hD
  refine lv_iinc (v := 1) (lv' := [(1, .int 1), (0, .ref h0)]) hx hb dX2_init_118 hl (k := 0) rfl (by decide) (by decide) rfl (fun ls hl => ?_)
  refine lv_goto (tgt := 100) hx hb dX2_init_121 (by decide) ?_
  refine lv_iload_n hx hb dX2_init_100 rfl (lv_at hl 0 rfl) ?_
  refine lv_iconst (v := 3) hx hb dX2_init_101 (by decide) ?_
  refine lv_icmp_ge (tgt := 124) hx hb dX2_init_102 (by decide) (fun c9 => absurd c9 (by decide)) (fun c9 => ?_)
  refine lv_aload_n hx hb dX2_init_105 rfl (lv_at hl 1 rfl) ?_
  refine va_get (D := G) (ci := 2) (v := .ref q12) (C := RX2) (T := TX2) (N := 19) hx hb hT ku_2 hown hK hP 0 rfl rfl 18 (by decide) (hT _ kw_6_6) (fun _ h9 => h9) rfl dX2_init_106 ?_
  refine lv_iload_n hx hb dX2_init_109 rfl (lv_at hl 0 rfl) ?_
  refine va_new (ci := 1) (fs := [.null, .int 0, .null]) (C := RX1) (T := TX1) (N := 3) hx hb hT ku_1 tyX1 tyX1_ok hown (hT _ kw_6_5) (hT _ kw_6_7) (hT _ kw_6_8) hK hP hD hS hA rfl tq_dfX1 (Nat.le_of_ble_eq_true rfl) (Nat.le_of_ble_eq_true rfl) dX2_init_110 (fun q14 H hP hD hS => ?_)
  refine W.widen (k := 16) (n := 232) (Nat.le_of_ble_eq_true rfl) (Nat.le_of_ble_eq_true rfl) ?_
  have hP : va_P G vwCl (List.flatten [[(h0, .inr (2, [.int 0, .int 0, .int 0, .int 0, .int 0, .int 0, .int 0, .ref q1, .ref q2, .ref q3, .ref q4, .ref q5, .ref q6, .ref q7, .ref q8, .ref q9, .ref q10, .ref q11, .ref q12]))], [(q1, .inl (cA 0, 5, .inl (fun _ => 0)))], [(q2, .inl (cA 0, 5, .inl (fun _ => 0)))], [(q3, .inl (cA 0, 6, .inl (fun _ => 0)))], [(q4, .inl (cA 0, 6, .inl (fun _ => 0)))], [(q5, .inl (cA 0, 6, .inl (fun _ => 0)))], [(q6, .inl (cA 0, 6, .inl (fun _ => 0)))], [(q7, .inl (cA 0, 10, .inl (fun _ => 0)))], [(q8, .inl (cA 0, 10, .inl (fun _ => 0)))], [(q9, .inl (cA 0, 10, .inl (fun _ => 0)))], [(q10, .inl (cA 0, 10, .inl (fun _ => 0)))], [(q11, .inl (cA 0, 21, .inl (fun _ => 0)))], [(q12, .inl (cA 4, 3, .inr (.inr (.inr (.inr (va_up (fun _ => none) 0 (some q13)))))))], [(q13, .inr (1, [.ref u0.1, .int 0, .ref u0.2]))], [(u0.1, .inl (cA 0, 64, .inl (fun _ => 0)))], [(u0.2, .inl (cA 2, 64, .inr (.inl (fun _ => 0))))], [(q14, .inr (1, [.null, .int 0, .null]))]]) H := by rw [fl_app] at hP; exact hP
  have hD : va_D A (List.flatten [[(h0, .inr (2, [.int 0, .int 0, .int 0, .int 0, .int 0, .int 0, .int 0, .ref q1, .ref q2, .ref q3, .ref q4, .ref q5, .ref q6, .ref q7, .ref q8, .ref q9, .ref q10, .ref q11, .ref q12]))], [(q1, .inl (cA 0, 5, .inl (fun _ => 0)))], [(q2, .inl (cA 0, 5, .inl (fun _ => 0)))], [(q3, .inl (cA 0, 6, .inl (fun _ => 0)))], [(q4, .inl (cA 0, 6, .inl (fun _ => 0)))], [(q5, .inl (cA 0, 6, .inl (fun _ => 0)))], [(q6, .inl (cA 0, 6, .inl (fun _ => 0)))], [(q7, .inl (cA 0, 10, .inl (fun _ => 0)))], [(q8, .inl (cA 0, 10, .inl (fun _ => 0)))], [(q9, .inl (cA 0, 10, .inl (fun _ => 0)))], [(q10, .inl (cA 0, 10, .inl (fun _ => 0)))], [(q11, .inl (cA 0, 21, .inl (fun _ => 0)))], [(q12, .inl (cA 4, 3, .inr (.inr (.inr (.inr (va_up (fun _ => none) 0 (some q13)))))))], [(q13, .inr (1, [.ref u0.1, .int 0, .ref u0.2]))], [(u0.1, .inl (cA 0, 64, .inl (fun _ => 0)))], [(u0.2, .inl (cA 2, 64, .inr (.inl (fun _ => 0))))], [(q14, .inr (1, [.null, .int 0, .null]))]]) := by rw [fl_app] at hD; exact hD
  refine lv_dup hx hb dX2_init_113 rfl ?_
  have pm := (pk_flat (α := Nat × va_E) (sel := [[(q14, .inr (1, [.null, .int 0, .null]))]]) (oth := [[(h0, .inr (2, [.int 0, .int 0, .int 0, .int 0, .int 0, .int 0, .int 0, .ref q1, .ref q2, .ref q3, .ref q4, .ref q5, .ref q6, .ref q7, .ref q8, .ref q9, .ref q10, .ref q11, .ref q12]))], [(q1, .inl (cA 0, 5, .inl (fun _ => 0)))], [(q2, .inl (cA 0, 5, .inl (fun _ => 0)))], [(q3, .inl (cA 0, 6, .inl (fun _ => 0)))], [(q4, .inl (cA 0, 6, .inl (fun _ => 0)))], [(q5, .inl (cA 0, 6, .inl (fun _ => 0)))], [(q6, .inl (cA 0, 6, .inl (fun _ => 0)))], [(q7, .inl (cA 0, 10, .inl (fun _ => 0)))], [(q8, .inl (cA 0, 10, .inl (fun _ => 0)))], [(q9, .inl (cA 0, 10, .inl (fun _ => 0)))], [(q10, .inl (cA 0, 10, .inl (fun _ => 0)))], [(q11, .inl (cA 0, 21, .inl (fun _ => 0)))], [(q12, .inl (cA 4, 3, .inr (.inr (.inr (.inr (va_up (fun _ => none) 0 (some q13)))))))], [(q13, .inr (1, [.ref u0.1, .int 0, .ref u0.2]))], [(u0.1, .inl (cA 0, 64, .inl (fun _ => 0)))], [(u0.2, .inl (cA 2, 64, .inr (.inl (fun _ => 0))))]]) ((by decide : List.Perm [0, 1, 2, 3, 4, 5, 6, 7, 8, 9, 10, 11, 12, 13, 14, 15, 16] [16, 0, 1, 2, 3, 4, 5, 6, 7, 8, 9, 10, 11, 12, 13, 14, 15]).map (fun k => List.getD [([(h0, .inr (2, [.int 0, .int 0, .int 0, .int 0, .int 0, .int 0, .int 0, .ref q1, .ref q2, .ref q3, .ref q4, .ref q5, .ref q6, .ref q7, .ref q8, .ref q9, .ref q10, .ref q11, .ref q12]))] : va_W), ([(q1, .inl (cA 0, 5, .inl (fun _ => 0)))] : va_W), ([(q2, .inl (cA 0, 5, .inl (fun _ => 0)))] : va_W), ([(q3, .inl (cA 0, 6, .inl (fun _ => 0)))] : va_W), ([(q4, .inl (cA 0, 6, .inl (fun _ => 0)))] : va_W), ([(q5, .inl (cA 0, 6, .inl (fun _ => 0)))] : va_W), ([(q6, .inl (cA 0, 6, .inl (fun _ => 0)))] : va_W), ([(q7, .inl (cA 0, 10, .inl (fun _ => 0)))] : va_W), ([(q8, .inl (cA 0, 10, .inl (fun _ => 0)))] : va_W), ([(q9, .inl (cA 0, 10, .inl (fun _ => 0)))] : va_W), ([(q10, .inl (cA 0, 10, .inl (fun _ => 0)))] : va_W), ([(q11, .inl (cA 0, 21, .inl (fun _ => 0)))] : va_W), ([(q12, .inl (cA 4, 3, .inr (.inr (.inr (.inr (va_up (fun _ => none) 0 (some q13)))))))] : va_W), ([(q13, .inr (1, [.ref u0.1, .int 0, .ref u0.2]))] : va_W), ([(u0.1, .inl (cA 0, 64, .inl (fun _ => 0)))] : va_W), ([(u0.2, .inl (cA 2, 64, .inr (.inl (fun _ => 0))))] : va_W), ([(q14, .inr (1, [.null, .int 0, .null]))] : va_W)] k [])))
  refine tw_cvm pm hP hD hS hA (va_runIN (As := []) (rest := [.ref q14, .int 1, .ref q12]) ⟨hx, hb, hml, hown, hT⟩ (k_X1_init l G cA H.size q14) ⟨va_cnB (host := "RackTrain") 0 hT (tq_gC kw_6_10) rfl rfl rfl hN.2.1 (hT _ kw_6_8) (by decide +kernel) ⟨Nat.le_of_ble_eq_true rfl, Nat.le_of_ble_eq_true rfl⟩, rfl, hT _ kw_6_9⟩ (tw_pre pm hP hD hK hN) rfl rfl hl.1 rfl (lv_room (Nat.le_of_ble_eq_true rfl)) dX2_init_114 ⟨Nat.le_of_ble_eq_true rfl, Nat.le_of_ble_eq_true rfl⟩) (fun u1 H locs _ hP18 hD18 hS18 => ?_)
  refine W.widen (k := 18) (n := 360) (Nat.le_of_ble_eq_true rfl) (Nat.le_of_ble_eq_true rfl) ?_
  have hS := hS18
  have pm2 := (pk_all (α := Nat × va_E) (a := 3) (it := [([(q14, .inr (1, [.ref u1.1, .int 0, .ref u1.2]))] : va_W), ([(u1.1, .inl (cA 0, 64, .inl (fun _ => 0)))] : va_W), ([(u1.2, .inl (cA 2, 64, .inr (.inl (fun _ => 0))))] : va_W), ([(h0, .inr (2, [.int 0, .int 0, .int 0, .int 0, .int 0, .int 0, .int 0, .ref q1, .ref q2, .ref q3, .ref q4, .ref q5, .ref q6, .ref q7, .ref q8, .ref q9, .ref q10, .ref q11, .ref q12]))] : va_W), ([(q1, .inl (cA 0, 5, .inl (fun _ => 0)))] : va_W), ([(q2, .inl (cA 0, 5, .inl (fun _ => 0)))] : va_W), ([(q3, .inl (cA 0, 6, .inl (fun _ => 0)))] : va_W), ([(q4, .inl (cA 0, 6, .inl (fun _ => 0)))] : va_W), ([(q5, .inl (cA 0, 6, .inl (fun _ => 0)))] : va_W), ([(q6, .inl (cA 0, 6, .inl (fun _ => 0)))] : va_W), ([(q7, .inl (cA 0, 10, .inl (fun _ => 0)))] : va_W), ([(q8, .inl (cA 0, 10, .inl (fun _ => 0)))] : va_W), ([(q9, .inl (cA 0, 10, .inl (fun _ => 0)))] : va_W), ([(q10, .inl (cA 0, 10, .inl (fun _ => 0)))] : va_W), ([(q11, .inl (cA 0, 21, .inl (fun _ => 0)))] : va_W), ([(q12, .inl (cA 4, 3, .inr (.inr (.inr (.inr (va_up (fun _ => none) 0 (some q13)))))))] : va_W), ([(q13, .inr (1, [.ref u0.1, .int 0, .ref u0.2]))] : va_W), ([(u0.1, .inl (cA 0, 64, .inl (fun _ => 0)))] : va_W), ([(u0.2, .inl (cA 2, 64, .inr (.inl (fun _ => 0))))] : va_W)]) (by decide : List.Perm [0, 1, 2, 3, 4, 5, 6, 7, 8, 9, 10, 11, 12, 13, 14, 15, 16, 17, 18] [3, 4, 5, 6, 7, 8, 9, 10, 11, 12, 13, 14, 15, 16, 17, 18, 0, 1, 2]))
  have hP : va_P G vwCl (List.flatten [[(h0, .inr (2, [.int 0, .int 0, .int 0, .int 0, .int 0, .int 0, .int 0, .ref q1, .ref q2, .ref q3, .ref q4, .ref q5, .ref q6, .ref q7, .ref q8, .ref q9, .ref q10, .ref q11, .ref q12]))], [(q1, .inl (cA 0, 5, .inl (fun _ => 0)))], [(q2, .inl (cA 0, 5, .inl (fun _ => 0)))], [(q3, .inl (cA 0, 6, .inl (fun _ => 0)))], [(q4, .inl (cA 0, 6, .inl (fun _ => 0)))], [(q5, .inl (cA 0, 6, .inl (fun _ => 0)))], [(q6, .inl (cA 0, 6, .inl (fun _ => 0)))], [(q7, .inl (cA 0, 10, .inl (fun _ => 0)))], [(q8, .inl (cA 0, 10, .inl (fun _ => 0)))], [(q9, .inl (cA 0, 10, .inl (fun _ => 0)))], [(q10, .inl (cA 0, 10, .inl (fun _ => 0)))], [(q11, .inl (cA 0, 21, .inl (fun _ => 0)))], [(q12, .inl (cA 4, 3, .inr (.inr (.inr (.inr (va_up (fun _ => none) 0 (some q13)))))))], [(q13, .inr (1, [.ref u0.1, .int 0, .ref u0.2]))], [(u0.1, .inl (cA 0, 64, .inl (fun _ => 0)))], [(u0.2, .inl (cA 2, 64, .inr (.inl (fun _ => 0))))], [(q14, .inr (1, [.ref u1.1, .int 0, .ref u1.2]))], [(u1.1, .inl (cA 0, 64, .inl (fun _ => 0)))], [(u1.2, .inl (cA 2, 64, .inr (.inl (fun _ => 0))))]]) H := tw_P pm2 hP18
  have hD : va_D A (List.flatten [[(h0, .inr (2, [.int 0, .int 0, .int 0, .int 0, .int 0, .int 0, .int 0, .ref q1, .ref q2, .ref q3, .ref q4, .ref q5, .ref q6, .ref q7, .ref q8, .ref q9, .ref q10, .ref q11, .ref q12]))], [(q1, .inl (cA 0, 5, .inl (fun _ => 0)))], [(q2, .inl (cA 0, 5, .inl (fun _ => 0)))], [(q3, .inl (cA 0, 6, .inl (fun _ => 0)))], [(q4, .inl (cA 0, 6, .inl (fun _ => 0)))], [(q5, .inl (cA 0, 6, .inl (fun _ => 0)))], [(q6, .inl (cA 0, 6, .inl (fun _ => 0)))], [(q7, .inl (cA 0, 10, .inl (fun _ => 0)))], [(q8, .inl (cA 0, 10, .inl (fun _ => 0)))], [(q9, .inl (cA 0, 10, .inl (fun _ => 0)))], [(q10, .inl (cA 0, 10, .inl (fun _ => 0)))], [(q11, .inl (cA 0, 21, .inl (fun _ => 0)))], [(q12, .inl (cA 4, 3, .inr (.inr (.inr (.inr (va_up (fun _ => none) 0 (some q13)))))))], [(q13, .inr (1, [.ref u0.1, .int 0, .ref u0.2]))], [(u0.1, .inl (cA 0, 64, .inl (fun _ => 0)))], [(u0.2, .inl (cA 2, 64, .inr (.inl (fun _ => 0))))], [(q14, .inr (1, [.ref u1.1, .int 0, .ref u1.2]))], [(u1.1, .inl (cA 0, 64, .inl (fun _ => 0)))], [(u1.2, .inl (cA 2, 64, .inr (.inl (fun _ => 0))))]]) := tw_D pm2 hD18
  refine va_astq (r := (RX1, TX1, 3)) (i := 1) hx hb hK hP hD hS 12 4 16 1 rfl rfl rfl rfl (tq_in (by decide)) dX2_init_117 (fun H locs hP hD hS => ?_)
  have hP : va_P G vwCl (List.flatten [[(h0, .inr (2, [.int 0, .int 0, .int 0, .int 0, .int 0, .int 0, .int 0, .ref q1, .ref q2, .ref q3, .ref q4, .ref q5, .ref q6, .ref q7, .ref q8, .ref q9, .ref q10, .ref q11, .ref q12]))], [(q1, .inl (cA 0, 5, .inl (fun _ => 0)))], [(q2, .inl (cA 0, 5, .inl (fun _ => 0)))], [(q3, .inl (cA 0, 6, .inl (fun _ => 0)))], [(q4, .inl (cA 0, 6, .inl (fun _ => 0)))], [(q5, .inl (cA 0, 6, .inl (fun _ => 0)))], [(q6, .inl (cA 0, 6, .inl (fun _ => 0)))], [(q7, .inl (cA 0, 10, .inl (fun _ => 0)))], [(q8, .inl (cA 0, 10, .inl (fun _ => 0)))], [(q9, .inl (cA 0, 10, .inl (fun _ => 0)))], [(q10, .inl (cA 0, 10, .inl (fun _ => 0)))], [(q11, .inl (cA 0, 21, .inl (fun _ => 0)))], [(q12, .inl (cA 4, 3, .inr (.inr (.inr (.inr (va_up (va_up (fun _ => none) 0 (some q13)) 1 (some q14)))))))], [(q13, .inr (1, [.ref u0.1, .int 0, .ref u0.2]))], [(u0.1, .inl (cA 0, 64, .inl (fun _ => 0)))], [(u0.2, .inl (cA 2, 64, .inr (.inl (fun _ => 0))))], [(q14, .inr (1, [.ref u1.1, .int 0, .ref u1.2]))], [(u1.1, .inl (cA 0, 64, .inl (fun _ => 0)))], [(u1.2, .inl (cA 2, 64, .inr (.inl (fun _ => 0))))]]) H := hP
  have hD : va_D A (List.flatten [[(h0, .inr (2, [.int 0, .int 0, .int 0, .int 0, .int 0, .int 0, .int 0, .ref q1, .ref q2, .ref q3, .ref q4, .ref q5, .ref q6, .ref q7, .ref q8, .ref q9, .ref q10, .ref q11, .ref q12]))], [(q1, .inl (cA 0, 5, .inl (fun _ => 0)))], [(q2, .inl (cA 0, 5, .inl (fun _ => 0)))], [(q3, .inl (cA 0, 6, .inl (fun _ => 0)))], [(q4, .inl (cA 0, 6, .inl (fun _ => 0)))], [(q5, .inl (cA 0, 6, .inl (fun _ => 0)))], [(q6, .inl (cA 0, 6, .inl (fun _ => 0)))], [(q7, .inl (cA 0, 10, .inl (fun _ => 0)))], [(q8, .inl (cA 0, 10, .inl (fun _ => 0)))], [(q9, .inl (cA 0, 10, .inl (fun _ => 0)))], [(q10, .inl (cA 0, 10, .inl (fun _ => 0)))], [(q11, .inl (cA 0, 21, .inl (fun _ => 0)))], [(q12, .inl (cA 4, 3, .inr (.inr (.inr (.inr (va_up (va_up (fun _ => none) 0 (some q13)) 1 (some q14)))))))], [(q13, .inr (1, [.ref u0.1, .int 0, .ref u0.2]))], [(u0.1, .inl (cA 0, 64, .inl (fun _ => 0)))], [(u0.2, .inl (cA 2, 64, .inr (.inl (fun _ => 0))))], [(q14, .inr (1, [.ref u1.1, .int 0, .ref u1.2]))], [(u1.1, .inl (cA 0, 64, .inl (fun _ => 0)))], [(u1.2, .inl (cA 2, 64, .inr (.inl (fun _ => 0))))]]) := hD
  refine lv_iinc (v := 2) (lv' := [(1, .int 2), (0, .ref h0)]) hx hb dX2_init_118 hl (k := 0) rfl (by decide) (by decide) rfl (fun ls hl => ?_)
  refine lv_goto (tgt := 100) hx hb dX2_init_121 (by decide) ?_
  refine lv_iload_n hx hb dX2_init_100 rfl (lv_at hl 0 rfl) ?_
  refine lv_iconst (v := 3) hx hb dX2_init_101 (by decide) ?_
  refine lv_icmp_ge (tgt := 124) hx hb dX2_init_102 (by decide) (fun c9 => absurd c9 (by decide)) (fun c9 => ?_)
  refine lv_aload_n hx hb dX2_init_105 rfl (lv_at hl 1 rfl) ?_
  refine va_get (D := G) (ci := 2) (v := .ref q12) (C := RX2) (T := TX2) (N := 19) hx hb hT ku_2 hown hK hP 0 rfl rfl 18 (by decide) (hT _ kw_6_6) (fun _ h9 => h9) rfl dX2_init_106 ?_
  refine lv_iload_n hx hb dX2_init_109 rfl (lv_at hl 0 rfl) ?_
  refine va_new (ci := 1) (fs := [.null, .int 0, .null]) (C := RX1) (T := TX1) (N := 3) hx hb hT ku_1 tyX1 tyX1_ok hown (hT _ kw_6_5) (hT _ kw_6_7) (hT _ kw_6_8) hK hP hD hS hA rfl tq_dfX1 (Nat.le_of_ble_eq_true rfl) (Nat.le_of_ble_eq_true rfl) dX2_init_110 (fun q15 H hP hD hS => ?_)
  refine W.widen (k := 19) (n := 363) (Nat.le_of_ble_eq_true rfl) (Nat.le_of_ble_eq_true rfl) ?_
  have hP : va_P G vwCl (List.flatten [[(h0, .inr (2, [.int 0, .int 0, .int 0, .int 0, .int 0, .int 0, .int 0, .ref q1, .ref q2, .ref q3, .ref q4, .ref q5, .ref q6, .ref q7, .ref q8, .ref q9, .ref q10, .ref q11, .ref q12]))], [(q1, .inl (cA 0, 5, .inl (fun _ => 0)))], [(q2, .inl (cA 0, 5, .inl (fun _ => 0)))], [(q3, .inl (cA 0, 6, .inl (fun _ => 0)))], [(q4, .inl (cA 0, 6, .inl (fun _ => 0)))], [(q5, .inl (cA 0, 6, .inl (fun _ => 0)))], [(q6, .inl (cA 0, 6, .inl (fun _ => 0)))], [(q7, .inl (cA 0, 10, .inl (fun _ => 0)))], [(q8, .inl (cA 0, 10, .inl (fun _ => 0)))], [(q9, .inl (cA 0, 10, .inl (fun _ => 0)))], [(q10, .inl (cA 0, 10, .inl (fun _ => 0)))], [(q11, .inl (cA 0, 21, .inl (fun _ => 0)))], [(q12, .inl (cA 4, 3, .inr (.inr (.inr (.inr (va_up (va_up (fun _ => none) 0 (some q13)) 1 (some q14)))))))], [(q13, .inr (1, [.ref u0.1, .int 0, .ref u0.2]))], [(u0.1, .inl (cA 0, 64, .inl (fun _ => 0)))], [(u0.2, .inl (cA 2, 64, .inr (.inl (fun _ => 0))))], [(q14, .inr (1, [.ref u1.1, .int 0, .ref u1.2]))], [(u1.1, .inl (cA 0, 64, .inl (fun _ => 0)))], [(u1.2, .inl (cA 2, 64, .inr (.inl (fun _ => 0))))], [(q15, .inr (1, [.null, .int 0, .null]))]]) H := by rw [fl_app] at hP; exact hP
  have hD : va_D A (List.flatten [[(h0, .inr (2, [.int 0, .int 0, .int 0, .int 0, .int 0, .int 0, .int 0, .ref q1, .ref q2, .ref q3, .ref q4, .ref q5, .ref q6, .ref q7, .ref q8, .ref q9, .ref q10, .ref q11, .ref q12]))], [(q1, .inl (cA 0, 5, .inl (fun _ => 0)))], [(q2, .inl (cA 0, 5, .inl (fun _ => 0)))], [(q3, .inl (cA 0, 6, .inl (fun _ => 0)))], [(q4, .inl (cA 0, 6, .inl (fun _ => 0)))], [(q5, .inl (cA 0, 6, .inl (fun _ => 0)))], [(q6, .inl (cA 0, 6, .inl (fun _ => 0)))], [(q7, .inl (cA 0, 10, .inl (fun _ => 0)))], [(q8, .inl (cA 0, 10, .inl (fun _ => 0)))], [(q9, .inl (cA 0, 10, .inl (fun _ => 0)))], [(q10, .inl (cA 0, 10, .inl (fun _ => 0)))], [(q11, .inl (cA 0, 21, .inl (fun _ => 0)))], [(q12, .inl (cA 4, 3, .inr (.inr (.inr (.inr (va_up (va_up (fun _ => none) 0 (some q13)) 1 (some q14)))))))], [(q13, .inr (1, [.ref u0.1, .int 0, .ref u0.2]))], [(u0.1, .inl (cA 0, 64, .inl (fun _ => 0)))], [(u0.2, .inl (cA 2, 64, .inr (.inl (fun _ => 0))))], [(q14, .inr (1, [.ref u1.1, .int 0, .ref u1.2]))], [(u1.1, .inl (cA 0, 64, .inl (fun _ => 0)))], [(u1.2, .inl (cA 2, 64, .inr (.inl (fun _ => 0))))], [(q15, .inr (1, [.null, .int 0, .null]))]]) := by rw [fl_app] at hD; exact hD
  refine lv_dup hx hb dX2_init_113 rfl ?_
  have pm := (pk_flat (α := Nat × va_E) (sel := [[(q15, .inr (1, [.null, .int 0, .null]))]]) (oth := [[(h0, .inr (2, [.int 0, .int 0, .int 0, .int 0, .int 0, .int 0, .int 0, .ref q1, .ref q2, .ref q3, .ref q4, .ref q5, .ref q6, .ref q7, .ref q8, .ref q9, .ref q10, .ref q11, .ref q12]))], [(q1, .inl (cA 0, 5, .inl (fun _ => 0)))], [(q2, .inl (cA 0, 5, .inl (fun _ => 0)))], [(q3, .inl (cA 0, 6, .inl (fun _ => 0)))], [(q4, .inl (cA 0, 6, .inl (fun _ => 0)))], [(q5, .inl (cA 0, 6, .inl (fun _ => 0)))], [(q6, .inl (cA 0, 6, .inl (fun _ => 0)))], [(q7, .inl (cA 0, 10, .inl (fun _ => 0)))], [(q8, .inl (cA 0, 10, .inl (fun _ => 0)))], [(q9, .inl (cA 0, 10, .inl (fun _ => 0)))], [(q10, .inl (cA 0, 10, .inl (fun _ => 0)))], [(q11, .inl (cA 0, 21, .inl (fun _ => 0)))], [(q12, .inl (cA 4, 3, .inr (.inr (.inr (.inr (va_up (va_up (fun _ => none) 0 (some q13)) 1 (some q14)))))))], [(q13, .inr (1, [.ref u0.1, .int 0, .ref u0.2]))], [(u0.1, .inl (cA 0, 64, .inl (fun _ => 0)))], [(u0.2, .inl (cA 2, 64, .inr (.inl (fun _ => 0))))], [(q14, .inr (1, [.ref u1.1, .int 0, .ref u1.2]))], [(u1.1, .inl (cA 0, 64, .inl (fun _ => 0)))], [(u1.2, .inl (cA 2, 64, .inr (.inl (fun _ => 0))))]]) ((by decide : List.Perm [0, 1, 2, 3, 4, 5, 6, 7, 8, 9, 10, 11, 12, 13, 14, 15, 16, 17, 18, 19] [19, 0, 1, 2, 3, 4, 5, 6, 7, 8, 9, 10, 11, 12, 13, 14, 15, 16, 17, 18]).map (fun k => List.getD [([(h0, .inr (2, [.int 0, .int 0, .int 0, .int 0, .int 0, .int 0, .int 0, .ref q1, .ref q2, .ref q3, .ref q4, .ref q5, .ref q6, .ref q7, .ref q8, .ref q9, .ref q10, .ref q11, .ref q12]))] : va_W), ([(q1, .inl (cA 0, 5, .inl (fun _ => 0)))] : va_W), ([(q2, .inl (cA 0, 5, .inl (fun _ => 0)))] : va_W), ([(q3, .inl (cA 0, 6, .inl (fun _ => 0)))] : va_W), ([(q4, .inl (cA 0, 6, .inl (fun _ => 0)))] : va_W), ([(q5, .inl (cA 0, 6, .inl (fun _ => 0)))] : va_W), ([(q6, .inl (cA 0, 6, .inl (fun _ => 0)))] : va_W), ([(q7, .inl (cA 0, 10, .inl (fun _ => 0)))] : va_W), ([(q8, .inl (cA 0, 10, .inl (fun _ => 0)))] : va_W), ([(q9, .inl (cA 0, 10, .inl (fun _ => 0)))] : va_W), ([(q10, .inl (cA 0, 10, .inl (fun _ => 0)))] : va_W), ([(q11, .inl (cA 0, 21, .inl (fun _ => 0)))] : va_W), ([(q12, .inl (cA 4, 3, .inr (.inr (.inr (.inr (va_up (va_up (fun _ => none) 0 (some q13)) 1 (some q14)))))))] : va_W), ([(q13, .inr (1, [.ref u0.1, .int 0, .ref u0.2]))] : va_W), ([(u0.1, .inl (cA 0, 64, .inl (fun _ => 0)))] : va_W), ([(u0.2, .inl (cA 2, 64, .inr (.inl (fun _ => 0))))] : va_W), ([(q14, .inr (1, [.ref u1.1, .int 0, .ref u1.2]))] : va_W), ([(u1.1, .inl (cA 0, 64, .inl (fun _ => 0)))] : va_W), ([(u1.2, .inl (cA 2, 64, .inr (.inl (fun _ => 0))))] : va_W), ([(q15, .inr (1, [.null, .int 0, .null]))] : va_W)] k [])))
  refine tw_cvm pm hP hD hS hA (va_runIN (As := []) (rest := [.ref q15, .int 2, .ref q12]) ⟨hx, hb, hml, hown, hT⟩ (k_X1_init l G cA H.size q15) ⟨va_cnB (host := "RackTrain") 0 hT (tq_gC kw_6_10) rfl rfl rfl hN.2.1 (hT _ kw_6_8) (by decide +kernel) ⟨Nat.le_of_ble_eq_true rfl, Nat.le_of_ble_eq_true rfl⟩, rfl, hT _ kw_6_9⟩ (tw_pre pm hP hD hK hN) rfl rfl hl.1 rfl (lv_room (Nat.le_of_ble_eq_true rfl)) dX2_init_114 ⟨Nat.le_of_ble_eq_true rfl, Nat.le_of_ble_eq_true rfl⟩) (fun u2 H locs _ hP21 hD21 hS21 => ?_)
  refine W.widen (k := 21) (n := 491) (Nat.le_of_ble_eq_true rfl) (Nat.le_of_ble_eq_true rfl) ?_
  have hS := hS21
  have pm2 := (pk_all (α := Nat × va_E) (a := 3) (it := [([(q15, .inr (1, [.ref u2.1, .int 0, .ref u2.2]))] : va_W), ([(u2.1, .inl (cA 0, 64, .inl (fun _ => 0)))] : va_W), ([(u2.2, .inl (cA 2, 64, .inr (.inl (fun _ => 0))))] : va_W), ([(h0, .inr (2, [.int 0, .int 0, .int 0, .int 0, .int 0, .int 0, .int 0, .ref q1, .ref q2, .ref q3, .ref q4, .ref q5, .ref q6, .ref q7, .ref q8, .ref q9, .ref q10, .ref q11, .ref q12]))] : va_W), ([(q1, .inl (cA 0, 5, .inl (fun _ => 0)))] : va_W), ([(q2, .inl (cA 0, 5, .inl (fun _ => 0)))] : va_W), ([(q3, .inl (cA 0, 6, .inl (fun _ => 0)))] : va_W), ([(q4, .inl (cA 0, 6, .inl (fun _ => 0)))] : va_W), ([(q5, .inl (cA 0, 6, .inl (fun _ => 0)))] : va_W), ([(q6, .inl (cA 0, 6, .inl (fun _ => 0)))] : va_W), ([(q7, .inl (cA 0, 10, .inl (fun _ => 0)))] : va_W), ([(q8, .inl (cA 0, 10, .inl (fun _ => 0)))] : va_W), ([(q9, .inl (cA 0, 10, .inl (fun _ => 0)))] : va_W), ([(q10, .inl (cA 0, 10, .inl (fun _ => 0)))] : va_W), ([(q11, .inl (cA 0, 21, .inl (fun _ => 0)))] : va_W), ([(q12, .inl (cA 4, 3, .inr (.inr (.inr (.inr (va_up (va_up (fun _ => none) 0 (some q13)) 1 (some q14)))))))] : va_W), ([(q13, .inr (1, [.ref u0.1, .int 0, .ref u0.2]))] : va_W), ([(u0.1, .inl (cA 0, 64, .inl (fun _ => 0)))] : va_W), ([(u0.2, .inl (cA 2, 64, .inr (.inl (fun _ => 0))))] : va_W), ([(q14, .inr (1, [.ref u1.1, .int 0, .ref u1.2]))] : va_W), ([(u1.1, .inl (cA 0, 64, .inl (fun _ => 0)))] : va_W), ([(u1.2, .inl (cA 2, 64, .inr (.inl (fun _ => 0))))] : va_W)]) (by decide : List.Perm [0, 1, 2, 3, 4, 5, 6, 7, 8, 9, 10, 11, 12, 13, 14, 15, 16, 17, 18, 19, 20, 21] [3, 4, 5, 6, 7, 8, 9, 10, 11, 12, 13, 14, 15, 16, 17, 18, 19, 20, 21, 0, 1, 2]))
  have hP : va_P G vwCl (List.flatten [[(h0, .inr (2, [.int 0, .int 0, .int 0, .int 0, .int 0, .int 0, .int 0, .ref q1, .ref q2, .ref q3, .ref q4, .ref q5, .ref q6, .ref q7, .ref q8, .ref q9, .ref q10, .ref q11, .ref q12]))], [(q1, .inl (cA 0, 5, .inl (fun _ => 0)))], [(q2, .inl (cA 0, 5, .inl (fun _ => 0)))], [(q3, .inl (cA 0, 6, .inl (fun _ => 0)))], [(q4, .inl (cA 0, 6, .inl (fun _ => 0)))], [(q5, .inl (cA 0, 6, .inl (fun _ => 0)))], [(q6, .inl (cA 0, 6, .inl (fun _ => 0)))], [(q7, .inl (cA 0, 10, .inl (fun _ => 0)))], [(q8, .inl (cA 0, 10, .inl (fun _ => 0)))], [(q9, .inl (cA 0, 10, .inl (fun _ => 0)))], [(q10, .inl (cA 0, 10, .inl (fun _ => 0)))], [(q11, .inl (cA 0, 21, .inl (fun _ => 0)))], [(q12, .inl (cA 4, 3, .inr (.inr (.inr (.inr (va_up (va_up (fun _ => none) 0 (some q13)) 1 (some q14)))))))], [(q13, .inr (1, [.ref u0.1, .int 0, .ref u0.2]))], [(u0.1, .inl (cA 0, 64, .inl (fun _ => 0)))], [(u0.2, .inl (cA 2, 64, .inr (.inl (fun _ => 0))))], [(q14, .inr (1, [.ref u1.1, .int 0, .ref u1.2]))], [(u1.1, .inl (cA 0, 64, .inl (fun _ => 0)))], [(u1.2, .inl (cA 2, 64, .inr (.inl (fun _ => 0))))], [(q15, .inr (1, [.ref u2.1, .int 0, .ref u2.2]))], [(u2.1, .inl (cA 0, 64, .inl (fun _ => 0)))], [(u2.2, .inl (cA 2, 64, .inr (.inl (fun _ => 0))))]]) H := tw_P pm2 hP21
  have hD : va_D A (List.flatten [[(h0, .inr (2, [.int 0, .int 0, .int 0, .int 0, .int 0, .int 0, .int 0, .ref q1, .ref q2, .ref q3, .ref q4, .ref q5, .ref q6, .ref q7, .ref q8, .ref q9, .ref q10, .ref q11, .ref q12]))], [(q1, .inl (cA 0, 5, .inl (fun _ => 0)))], [(q2, .inl (cA 0, 5, .inl (fun _ => 0)))], [(q3, .inl (cA 0, 6, .inl (fun _ => 0)))], [(q4, .inl (cA 0, 6, .inl (fun _ => 0)))], [(q5, .inl (cA 0, 6, .inl (fun _ => 0)))], [(q6, .inl (cA 0, 6, .inl (fun _ => 0)))], [(q7, .inl (cA 0, 10, .inl (fun _ => 0)))], [(q8, .inl (cA 0, 10, .inl (fun _ => 0)))], [(q9, .inl (cA 0, 10, .inl (fun _ => 0)))], [(q10, .inl (cA 0, 10, .inl (fun _ => 0)))], [(q11, .inl (cA 0, 21, .inl (fun _ => 0)))], [(q12, .inl (cA 4, 3, .inr (.inr (.inr (.inr (va_up (va_up (fun _ => none) 0 (some q13)) 1 (some q14)))))))], [(q13, .inr (1, [.ref u0.1, .int 0, .ref u0.2]))], [(u0.1, .inl (cA 0, 64, .inl (fun _ => 0)))], [(u0.2, .inl (cA 2, 64, .inr (.inl (fun _ => 0))))], [(q14, .inr (1, [.ref u1.1, .int 0, .ref u1.2]))], [(u1.1, .inl (cA 0, 64, .inl (fun _ => 0)))], [(u1.2, .inl (cA 2, 64, .inr (.inl (fun _ => 0))))], [(q15, .inr (1, [.ref u2.1, .int 0, .ref u2.2]))], [(u2.1, .inl (cA 0, 64, .inl (fun _ => 0)))], [(u2.2, .inl (cA 2, 64, .inr (.inl (fun _ => 0))))]]) := tw_D pm2 hD21
  refine va_astq (r := (RX1, TX1, 3)) (i := 2) hx hb hK hP hD hS 12 4 19 1 rfl rfl rfl rfl (tq_in (by decide)) dX2_init_117 (fun H locs hP hD hS => ?_)
  have hP : va_P G vwCl (List.flatten [[(h0, .inr (2, [.int 0, .int 0, .int 0, .int 0, .int 0, .int 0, .int 0, .ref q1, .ref q2, .ref q3, .ref q4, .ref q5, .ref q6, .ref q7, .ref q8, .ref q9, .ref q10, .ref q11, .ref q12]))], [(q1, .inl (cA 0, 5, .inl (fun _ => 0)))], [(q2, .inl (cA 0, 5, .inl (fun _ => 0)))], [(q3, .inl (cA 0, 6, .inl (fun _ => 0)))], [(q4, .inl (cA 0, 6, .inl (fun _ => 0)))], [(q5, .inl (cA 0, 6, .inl (fun _ => 0)))], [(q6, .inl (cA 0, 6, .inl (fun _ => 0)))], [(q7, .inl (cA 0, 10, .inl (fun _ => 0)))], [(q8, .inl (cA 0, 10, .inl (fun _ => 0)))], [(q9, .inl (cA 0, 10, .inl (fun _ => 0)))], [(q10, .inl (cA 0, 10, .inl (fun _ => 0)))], [(q11, .inl (cA 0, 21, .inl (fun _ => 0)))], [(q12, .inl (cA 4, 3, .inr (.inr (.inr (.inr (va_up (va_up (va_up (fun _ => none) 0 (some q13)) 1 (some q14)) 2 (some q15)))))))], [(q13, .inr (1, [.ref u0.1, .int 0, .ref u0.2]))], [(u0.1, .inl (cA 0, 64, .inl (fun _ => 0)))], [(u0.2, .inl (cA 2, 64, .inr (.inl (fun _ => 0))))], [(q14, .inr (1, [.ref u1.1, .int 0, .ref u1.2]))], [(u1.1, .inl (cA 0, 64, .inl (fun _ => 0)))], [(u1.2, .inl (cA 2, 64, .inr (.inl (fun _ => 0))))], [(q15, .inr (1, [.ref u2.1, .int 0, .ref u2.2]))], [(u2.1, .inl (cA 0, 64, .inl (fun _ => 0)))], [(u2.2, .inl (cA 2, 64, .inr (.inl (fun _ => 0))))]]) H := hP
  have hD : va_D A (List.flatten [[(h0, .inr (2, [.int 0, .int 0, .int 0, .int 0, .int 0, .int 0, .int 0, .ref q1, .ref q2, .ref q3, .ref q4, .ref q5, .ref q6, .ref q7, .ref q8, .ref q9, .ref q10, .ref q11, .ref q12]))], [(q1, .inl (cA 0, 5, .inl (fun _ => 0)))], [(q2, .inl (cA 0, 5, .inl (fun _ => 0)))], [(q3, .inl (cA 0, 6, .inl (fun _ => 0)))], [(q4, .inl (cA 0, 6, .inl (fun _ => 0)))], [(q5, .inl (cA 0, 6, .inl (fun _ => 0)))], [(q6, .inl (cA 0, 6, .inl (fun _ => 0)))], [(q7, .inl (cA 0, 10, .inl (fun _ => 0)))], [(q8, .inl (cA 0, 10, .inl (fun _ => 0)))], [(q9, .inl (cA 0, 10, .inl (fun _ => 0)))], [(q10, .inl (cA 0, 10, .inl (fun _ => 0)))], [(q11, .inl (cA 0, 21, .inl (fun _ => 0)))], [(q12, .inl (cA 4, 3, .inr (.inr (.inr (.inr (va_up (va_up (va_up (fun _ => none) 0 (some q13)) 1 (some q14)) 2 (some q15)))))))], [(q13, .inr (1, [.ref u0.1, .int 0, .ref u0.2]))], [(u0.1, .inl (cA 0, 64, .inl (fun _ => 0)))], [(u0.2, .inl (cA 2, 64, .inr (.inl (fun _ => 0))))], [(q14, .inr (1, [.ref u1.1, .int 0, .ref u1.2]))], [(u1.1, .inl (cA 0, 64, .inl (fun _ => 0)))], [(u1.2, .inl (cA 2, 64, .inr (.inl (fun _ => 0))))], [(q15, .inr (1, [.ref u2.1, .int 0, .ref u2.2]))], [(u2.1, .inl (cA 0, 64, .inl (fun _ => 0)))], [(u2.2, .inl (cA 2, 64, .inr (.inl (fun _ => 0))))]]) := hD
  refine lv_iinc (v := 3) (lv' := [(1, .int 3), (0, .ref h0)]) hx hb dX2_init_118 hl (k := 0) rfl (by decide) (by decide) rfl (fun ls hl => ?_)
  refine lv_goto (tgt := 100) hx hb dX2_init_121 (by decide) ?_
  refine lv_iload_n hx hb dX2_init_100 rfl (lv_at hl 0 rfl) ?_
  refine lv_iconst (v := 3) hx hb dX2_init_101 (by decide) ?_
  refine lv_icmp_ge (tgt := 124) hx hb dX2_init_102 (by decide) (fun c9 => ?_) (fun c9 => absurd (by decide) c9)
  refine lv_aload_n hx hb dX2_init_124 rfl (lv_at hl 1 rfl) ?_
  have hP : va_P G vwCl (wPL cA (fun k => bif Nat.beq k 8 then q1 else bif Nat.beq k 9 then q2 else bif Nat.beq k 10 then q3 else bif Nat.beq k 11 then q4 else bif Nat.beq k 12 then q5 else bif Nat.beq k 13 then q6 else bif Nat.beq k 14 then q7 else bif Nat.beq k 15 then q8 else bif Nat.beq k 16 then q9 else bif Nat.beq k 17 then q10 else bif Nat.beq k 18 then q11 else bif Nat.beq k 19 then q12 else bif Nat.beq k 30 then q13 else bif Nat.beq k 31 then u0.1 else bif Nat.beq k 32 then u0.2 else bif Nat.beq k 33 then q14 else bif Nat.beq k 34 then u1.1 else bif Nat.beq k 35 then u1.2 else bif Nat.beq k 36 then q15 else bif Nat.beq k 37 then u2.1 else bif Nat.beq k 38 then u2.2 else h0) T0Z L0Z) H := hP
  have hD : va_D A (wPL cA (fun k => bif Nat.beq k 8 then q1 else bif Nat.beq k 9 then q2 else bif Nat.beq k 10 then q3 else bif Nat.beq k 11 then q4 else bif Nat.beq k 12 then q5 else bif Nat.beq k 13 then q6 else bif Nat.beq k 14 then q7 else bif Nat.beq k 15 then q8 else bif Nat.beq k 16 then q9 else bif Nat.beq k 17 then q10 else bif Nat.beq k 18 then q11 else bif Nat.beq k 19 then q12 else bif Nat.beq k 30 then q13 else bif Nat.beq k 31 then u0.1 else bif Nat.beq k 32 then u0.2 else bif Nat.beq k 33 then q14 else bif Nat.beq k 34 then u1.1 else bif Nat.beq k 35 then u1.2 else bif Nat.beq k 36 then q15 else bif Nat.beq k 37 then u2.1 else bif Nat.beq k 38 then u2.2 else h0) T0Z L0Z) := hD
  have hl : lv_has ls 2 [(1, .int 3), (0, .ref ((fun k => bif Nat.beq k 8 then q1 else bif Nat.beq k 9 then q2 else bif Nat.beq k 10 then q3 else bif Nat.beq k 11 then q4 else bif Nat.beq k 12 then q5 else bif Nat.beq k 13 then q6 else bif Nat.beq k 14 then q7 else bif Nat.beq k 15 then q8 else bif Nat.beq k 16 then q9 else bif Nat.beq k 17 then q10 else bif Nat.beq k 18 then q11 else bif Nat.beq k 19 then q12 else bif Nat.beq k 30 then q13 else bif Nat.beq k 31 then u0.1 else bif Nat.beq k 32 then u0.2 else bif Nat.beq k 33 then q14 else bif Nat.beq k 34 then u1.1 else bif Nat.beq k 35 then u1.2 else bif Nat.beq k 36 then q15 else bif Nat.beq k 37 then u2.1 else bif Nat.beq k 38 then u2.2 else h0) 0))] := hl
  have h0e : (fun k => bif Nat.beq k 8 then q1 else bif Nat.beq k 9 then q2 else bif Nat.beq k 10 then q3 else bif Nat.beq k 11 then q4 else bif Nat.beq k 12 then q5 else bif Nat.beq k 13 then q6 else bif Nat.beq k 14 then q7 else bif Nat.beq k 15 then q8 else bif Nat.beq k 16 then q9 else bif Nat.beq k 17 then q10 else bif Nat.beq k 18 then q11 else bif Nat.beq k 19 then q12 else bif Nat.beq k 30 then q13 else bif Nat.beq k 31 then u0.1 else bif Nat.beq k 32 then u0.2 else bif Nat.beq k 33 then q14 else bif Nat.beq k 34 then u1.1 else bif Nat.beq k 35 then u1.2 else bif Nat.beq k 36 then q15 else bif Nat.beq k 37 then u2.1 else bif Nat.beq k 38 then u2.2 else h0) 0 = h0 := rfl
  generalize (fun k => bif Nat.beq k 8 then q1 else bif Nat.beq k 9 then q2 else bif Nat.beq k 10 then q3 else bif Nat.beq k 11 then q4 else bif Nat.beq k 12 then q5 else bif Nat.beq k 13 then q6 else bif Nat.beq k 14 then q7 else bif Nat.beq k 15 then q8 else bif Nat.beq k 16 then q9 else bif Nat.beq k 17 then q10 else bif Nat.beq k 18 then q11 else bif Nat.beq k 19 then q12 else bif Nat.beq k 30 then q13 else bif Nat.beq k 31 then u0.1 else bif Nat.beq k 32 then u0.2 else bif Nat.beq k 33 then q14 else bif Nat.beq k 34 then u1.1 else bif Nat.beq k 35 then u1.2 else bif Nat.beq k 36 then q15 else bif Nat.beq k 37 then u2.1 else bif Nat.beq k 38 then u2.2 else h0) = pa at hP hD hl h0e
  refine W.eq (g2 := F0 m 125 ls [.ref (pa 0)]) (by rw [h0e]) ?_
  obtain ⟨P1, hc, hq⟩ := t_X2_clear T0Z (iR_Z okZ_P)
  have hc0 := hc
  rw [← e_clear] at hc
  refine tw_cv tw_all hP hD hS hA (va_runV (As := []) (rest := []) ⟨hx, hb, hml, hown, hT⟩ (c_X2_clear_p l G cA H.size pa T0Z L0Z P1 hc) (cwV 0 hT (tq_gV kw_6_14 kw_6_15 kw_6_16 kw_1_19 kw_6_17) rfl rfl rfl dkdV_yX2_clear_0 ⟨Nat.le_of_ble_eq_true rfl, Nat.le_of_ble_eq_true rfl⟩) ⟨(tw_pre tw_all hP hD hK hN).1, va_recv hK hP (ci := 2) (q0 := 0) rfl rfl, (tw_pre tw_all hP hD hK hN).2⟩ rfl rfl hl.1 rfl (lv_room (Nat.le_of_ble_eq_true rfl)) dX2_init_125 ⟨Nat.le_of_ble_eq_true rfl, Nat.le_of_ble_eq_true rfl⟩) (fun _ H locs _ hP hD hS => ?_)
  rw [List.append_nil] at hP hD
  exact W.vret hx hb hr (fun t ht hW => ⟨⟨(pa, P1), rfl, ⟨h0e, hq, hc0⟩, by rw [ht]; exact hP, hD⟩, hS.F ht⟩) hS.2.2 dX2_init_128
-- 72.a
/-! the text constant of the tokens: its object, its bytes, the statics that its members read -/
def tqS (sA vA : Nat) (fb : Nat → Int32) (A : Nat → Prop) (U : State) (H : Heap) : Prop := va_O "java/lang/String" sA A U H ∧ va_OF "java/lang/String" "coder" "B" (.int 0) sA A U H ∧ va_OF "java/lang/String" "value" "[B" (.ref vA) sA A U H ∧ va_T .byte vA 153 (fun j => .int (fb j)) A U H ∧ va_Z "java/lang/String" "COMPACT_STRINGS" "Z" (.int 1) A U H ∧ va_Zq "jdk/internal/util/Preconditions" "SIOOBE_FORMATTER" "Ljava/util/function/BiFunction;" A U H
theorem tqS.moved {sA vA : Nat} {fb : Nat → Int32} {A : Nat → Prop} {u U : State} {H : Heap} (hvm : u.vm.Alike U.vm) (h : tqS sA vA fb A u H) : tqS sA vA fb A U H := ⟨h.1.moved hvm, h.2.1.moved hvm, h.2.2.1.moved hvm, h.2.2.2.1.moved hvm, h.2.2.2.2.1.moved hvm, h.2.2.2.2.2.moved hvm⟩
theorem tqS.kept {sA vA : Nat} {fb : Nat → Int32} {A : Nat → Prop} {U : State} {H H1 : Heap} (h : tqS sA vA fb A U H) (hq : ∀ a : Nat, a < H.size → ¬ A a → H1[a]? = H[a]?) : tqS sA vA fb A U H1 := ⟨h.1.kept hq, h.2.1.kept hq, h.2.2.1.kept hq, h.2.2.2.1.kept hq, h.2.2.2.2.1.kept hq, h.2.2.2.2.2.kept hq⟩
theorem tqS.narrow {sA vA : Nat} {fb : Nat → Int32} {A B : Nat → Prop} {U : State} {H : Heap} (h : tqS sA vA fb A U H) (hAB : ∀ q, B q → A q) : tqS sA vA fb B U H := ⟨h.1.narrow hAB, h.2.1.narrow hAB, h.2.2.1.narrow hAB, h.2.2.2.1.narrow hAB, h.2.2.2.2.1.narrow hAB, h.2.2.2.2.2.narrow hAB⟩
abbrev tqTX : String := "place person piece wait rule curve seed law net shelf floor seat hall first light last lift fall steal or and not heavy frail above kind able stop bears "
def tqP2 (G : va_G) (cA : Nat → ClassId) (sA vA : Nat) (fb : Nat → Int32) (av : List Value) (ws : va_W) (sz : Nat) : Array Value → State → Prop := va_Pc av (fun U => U.heap.size = sz ∧ va_P G vwCl ws U.heap ∧ va_K G vwCl (tyL cA) U ∧ va_D (fun _ => True) ws ∧ tqN U ∧ tqS sA vA fb (va_A ws sz) U U.heap ∧ vk_R "RackTrain$Tokens" 19 tqTX sA U)
theorem tqP2.blind {G : va_G} {cA : Nat → ClassId} {sA vA : Nat} {fb : Nat → Int32} {av : List Value} {ws : va_W} {sz : Nat} : FrameBlind (tqP2 G cA sA vA fb av ws sz) := fun _ U _ _ q => ⟨q.1, q.2.1, q.2.2.1, va_K.moved (u := U) (Vm.Alike.refl U.vm) q.2.2.2.1, q.2.2.2.2.1, q.2.2.2.2.2.1.call, tqS.moved (u := U) (Vm.Alike.refl U.vm) q.2.2.2.2.2.2.1, vk_R.same (u := U) rfl q.2.2.2.2.2.2.2⟩
theorem tq_pre2 {s : State} {H : Heap} {locs : List Loc} {G : va_G} {cA : Nat → ClassId} {ws wc : va_W} {A : Nat → Prop} {sA vA : Nat} {fb : Nat → Int32} {isC : List Nat} {av : List Value} (hP : va_P G vwCl ws H) (hD : va_D A ws) (hK : va_K G vwCl (tyL cA) s) (hN : tqN s) (hC : isC.map (fun i => ws[i]?) = wc.map some) (hn : va_nd isC = true) (hS : va_S A s.heap H locs) (hA : ∀ q : Nat, s.heap.size ≤ q → A q) (hSt : tqS sA vA fb A s s.heap) (hR : vk_R "RackTrain$Tokens" 19 tqTX sA s) : PreS s H (tqP2 G cA sA vA fb av wc H.size) av := by
  obtain ⟨hP1, hD1⟩ := tq_cut hP hD hC hn
  have hFc := va_free (wc := wc) hD hS hA isC hC
  exact ⟨tqP2.blind, fun U hU hW => ⟨rfl, by rw [hU], by rw [hU]; exact hP1, va_K.moved hW.alike hK, hD1, hN.warm hW, by rw [hU]; exact ((hSt.kept hS.2.1).narrow hFc).moved hW.alike, hR.warm hW⟩⟩
theorem tq_inc {x y : Int32} (e : y = x + Int32.ofInt 1) (h0 : 0 ≤ x.toInt) (h : x.toInt < 1000) : y.toInt = x.toInt + 1 := by
  have e1 : (Int32.ofInt 1).toInt = 1 := by decide
  rw [e, Int32.toInt_add, e1]
  rw [Int.bmod_eq_of_le (by omega) (by omega)]
-- 72.b
set_option maxHeartbeats 4000000 in
set_option maxRecDepth 100000 in
theorem c_J0_coder_7d493 (l : Launch) (G : va_G) (cA : Nat → ClassId) (sz : Nat) (sA : Nat) (vA : Nat) (fb : Nat → Int32)  : Met l yJ0_coder_7d493 (.code yJ0_coder_7d493 cJ0_coder_7d493 1 (some .byte) :: T0) ({ frames := 0, cells := 0, slots := 0, locals := 0 }) (tqP2 G cA sA vA fb [.ref sA] [] sz) (tqQi G cA (fun (r : Int32) (u : Unit) => r = 0) (fun (u : Unit) => []) (va_A [] sz)) 0 0 (va_A [] sz) := by
  refine Met.ofW (cc := cJ0_coder_7d493) (maxL := 1) (ret := (some .byte)) (by decide) rfl ?_
  intro p e s m args below meth c s₁ B hml hv
  obtain ⟨rfl, hsz, hP, hK, hD0, hN, hSt, hR⟩ := hv
  have hx := B.exec
  have hb := B.bytes
  have hr := B.returns
  have hts := atoms_spec (ws := .code yJ0_coder_7d493 cJ0_coder_7d493 1 (some .byte) :: T0) B.pre
  have hT : ∀ w ∈ T0, w.before _ s = true := fun w h => hts w (List.mem_cons_of_mem _ h)
  have hown : s.vm.findClass RJ0 = some m.cls := findClass_of_methodNamed B.named
  have hlocks := B.notSynchronized
  subst hsz
  have hD := hD0.self (sz := s.heap.size)
  generalize hAe : va_A [] s.heap.size = A at hD hSt ⊢
  have hA : ∀ q : Nat, s.heap.size ≤ q → A q := fun q h => by rw [← hAe]; exact Or.inr h
  have hS : va_S A s.heap s.heap [] := va_S.rf
  have hl := lv_entry ([.ref sA]) (n := 1) (Nat.le_of_ble_eq_true rfl)
  rw [lg_entry_eq]
  generalize (lg_sl ([.ref sA]) ++ List.replicate (1 - (lg_sl ([.ref sA])).length) Slot.unset).toArray = ls at hl ⊢
  have hl : lv_has ls 1 [(0, .ref sA)] := hl
  obtain ⟨H, hH⟩ : ∃ z, z = s.heap := ⟨_, rfl⟩
  rw [← hH] at hP
  have hS : va_S A s.heap H [] := by rw [hH]; exact hS
  suffices hgo : W p l e _ s m _ below meth c H [] 0 0 _ _ by rw [hH] at hgo; exact hgo
  have hO := hN.2.2.2.2
  refine va_gets hx hb hSt.2.2.2.2.1 hS hown (hT _ kw_3_23) (fun _ h9 => h9) dJ0_coder_7d493_0 ?_
  refine lv_if_eq (tgt := 13) hx hb dJ0_coder_7d493_3 (by decide) (fun c101 => absurd c101 (by decide)) (fun c101 => ?_)
  refine lv_aload_n hx hb dJ0_coder_7d493_6 rfl (lv_at hl 0 rfl) ?_
  refine vk_getf hx hb hSt.2.1 hS hown (hT _ kw_4_0) (fun _ h9 => h9) dJ0_coder_7d493_7 ?_
  refine lv_goto (tgt := 14) hx hb dJ0_coder_7d493_10 (by decide) ?_
  exact W.zret (v := 0) (ty := .byte) hx hb hr rfl (fun t ht hW => ⟨⟨0, (), rfl, rfl, by rw [ht]; exact hP, hD⟩, hS.F ht⟩) hS.2.2 dJ0_coder_7d493_14

set_option maxHeartbeats 4000000 in
set_option maxRecDepth 100000 in
theorem c_J0_length_8abf5 (l : Launch) (G : va_G) (cA : Nat → ClassId) (sz : Nat) (sA : Nat) (vA : Nat) (fb : Nat → Int32)  : Met l yJ0_length_8abf5 (.code yJ0_length_8abf5 cJ0_length_8abf5 1 (some .int) :: T0) ({ frames := 1, cells := 0, slots := 0, locals := 20 }) (tqP2 G cA sA vA fb [.ref sA] [] sz) (tqQi G cA (fun (r : Int32) (u : Unit) => r = 153) (fun (u : Unit) => []) (va_A [] sz)) 0 0 (va_A [] sz) := by
  refine Met.ofW (cc := cJ0_length_8abf5) (maxL := 1) (ret := (some .int)) (by decide) rfl ?_
  intro p e s m args below meth c s₁ B hml hv
  obtain ⟨rfl, hsz, hP, hK, hD0, hN, hSt, hR⟩ := hv
  have hx := B.exec
  have hb := B.bytes
  have hr := B.returns
  have hts := atoms_spec (ws := .code yJ0_length_8abf5 cJ0_length_8abf5 1 (some .int) :: T0) B.pre
  have hT : ∀ w ∈ T0, w.before _ s = true := fun w h => hts w (List.mem_cons_of_mem _ h)
  have hown : s.vm.findClass RJ0 = some m.cls := findClass_of_methodNamed B.named
  have hlocks := B.notSynchronized
  subst hsz
  have hD := hD0.self (sz := s.heap.size)
  generalize hAe : va_A [] s.heap.size = A at hD hSt ⊢
  have hA : ∀ q : Nat, s.heap.size ≤ q → A q := fun q h => by rw [← hAe]; exact Or.inr h
  have hS : va_S A s.heap s.heap [] := va_S.rf
  have hl := lv_entry ([.ref sA]) (n := 1) (Nat.le_of_ble_eq_true rfl)
  rw [lg_entry_eq]
  generalize (lg_sl ([.ref sA]) ++ List.replicate (1 - (lg_sl ([.ref sA])).length) Slot.unset).toArray = ls at hl ⊢
  have hl : lv_has ls 1 [(0, .ref sA)] := hl
  obtain ⟨H, hH⟩ : ∃ z, z = s.heap := ⟨_, rfl⟩
  rw [← hH] at hP
  have hS : va_S A s.heap H [] := by rw [hH]; exact hS
  suffices hgo : W p l e _ s m _ below meth c H [] 0 0 _ _ by rw [hH] at hgo; exact hgo
  have hO := hN.2.2.2.2
  refine lv_aload_n hx hb dJ0_length_8abf5_0 rfl (lv_at hl 0 rfl) ?_
  refine vk_getf hx hb hSt.2.2.1 hS hown (hT _ kw_3_18) (fun _ h9 => h9) dJ0_length_8abf5_1 ?_
  refine va_tlen (v := 153) hx hb hSt.2.2.2.1 hS (by decide) dJ0_length_8abf5_4 ?_
  refine lv_aload_n hx hb dJ0_length_8abf5_5 rfl (lv_at hl 0 rfl) ?_
  refine tq_ci (wr := []) hP hD hS hA [] [] rfl rfl (by decide) (by decide) (va_runV (As := []) (rest := [.int 153]) ⟨hx, hb, hml, hown, hT⟩ (c_J0_coder_7d493 l G cA H.size sA vA fb ) (cwV 0 hT (tq_gV kw_3_19 kw_3_20 kw_3_21 kw_3_16 kw_3_22) rfl rfl rfl dkdV_yJ0_coder_7d493_0 ⟨Nat.le_of_ble_eq_true rfl, Nat.le_of_ble_eq_true rfl⟩) ⟨(tq_pre2 (isC := []) hP hD hK hN rfl (by decide) hS hA hSt hR).1, va_Orecv hSt.1 hS, (tq_pre2 (isC := []) hP hD hK hN rfl (by decide) hS hA hSt hR).2⟩ rfl rfl hl.1 rfl (lv_room (Nat.le_of_ble_eq_true rfl)) dJ0_length_8abf5_6 ⟨Nat.le_of_ble_eq_true rfl, Nat.le_of_ble_eq_true rfl⟩) (fun r101 u102 H locs hw103 hP hD hS => ?_)
  refine W.widen (k := 0) (n := 0) (Nat.le_of_ble_eq_true rfl) (Nat.le_of_ble_eq_true rfl) ?_
  have hr104 := hw103
  subst hr104
  have hP : va_P G vwCl [] H := hP
  have hD : va_D A [] := hD
  refine lv_ishr hx hb dJ0_length_8abf5_9 ?_
  refine tq_i (w := 153) (by decide) ?_
  exact W.iret (v := 153) hx hb hr (fun t ht hW => ⟨⟨153, (), rfl, rfl, by rw [ht]; exact hP, hD⟩, hS.F ht⟩) hS.2.2 dJ0_length_8abf5_10

set_option maxHeartbeats 4000000 in
set_option maxRecDepth 100000 in
theorem c_J0_isLatin1_aae02 (l : Launch) (G : va_G) (cA : Nat → ClassId) (sz : Nat) (sA : Nat) (vA : Nat) (fb : Nat → Int32)  : Met l yJ0_isLatin1_aae02 (.code yJ0_isLatin1_aae02 cJ0_isLatin1_aae02 1 (some .boolean) :: T0) ({ frames := 0, cells := 0, slots := 0, locals := 0 }) (tqP2 G cA sA vA fb [.ref sA] [] sz) (tqQi G cA (fun (r : Int32) (u : Unit) => r = 1) (fun (u : Unit) => []) (va_A [] sz)) 0 0 (va_A [] sz) := by
  refine Met.ofW (cc := cJ0_isLatin1_aae02) (maxL := 1) (ret := (some .boolean)) (by decide) rfl ?_
  intro p e s m args below meth c s₁ B hml hv
  obtain ⟨rfl, hsz, hP, hK, hD0, hN, hSt, hR⟩ := hv
  have hx := B.exec
  have hb := B.bytes
  have hr := B.returns
  have hts := atoms_spec (ws := .code yJ0_isLatin1_aae02 cJ0_isLatin1_aae02 1 (some .boolean) :: T0) B.pre
  have hT : ∀ w ∈ T0, w.before _ s = true := fun w h => hts w (List.mem_cons_of_mem _ h)
  have hown : s.vm.findClass RJ0 = some m.cls := findClass_of_methodNamed B.named
  have hlocks := B.notSynchronized
  subst hsz
  have hD := hD0.self (sz := s.heap.size)
  generalize hAe : va_A [] s.heap.size = A at hD hSt ⊢
  have hA : ∀ q : Nat, s.heap.size ≤ q → A q := fun q h => by rw [← hAe]; exact Or.inr h
  have hS : va_S A s.heap s.heap [] := va_S.rf
  have hl := lv_entry ([.ref sA]) (n := 1) (Nat.le_of_ble_eq_true rfl)
  rw [lg_entry_eq]
  generalize (lg_sl ([.ref sA]) ++ List.replicate (1 - (lg_sl ([.ref sA])).length) Slot.unset).toArray = ls at hl ⊢
  have hl : lv_has ls 1 [(0, .ref sA)] := hl
  obtain ⟨H, hH⟩ : ∃ z, z = s.heap := ⟨_, rfl⟩
  rw [← hH] at hP
  have hS : va_S A s.heap H [] := by rw [hH]; exact hS
  suffices hgo : W p l e _ s m _ below meth c H [] 0 0 _ _ by rw [hH] at hgo; exact hgo
  have hO := hN.2.2.2.2
  refine va_gets hx hb hSt.2.2.2.2.1 hS hown (hT _ kw_3_23) (fun _ h9 => h9) dJ0_isLatin1_aae02_0 ?_
  refine lv_if_eq (tgt := 17) hx hb dJ0_isLatin1_aae02_3 (by decide) (fun c101 => absurd c101 (by decide)) (fun c101 => ?_)
  refine lv_aload_n hx hb dJ0_isLatin1_aae02_6 rfl (lv_at hl 0 rfl) ?_
  refine vk_getf hx hb hSt.2.1 hS hown (hT _ kw_4_0) (fun _ h9 => h9) dJ0_isLatin1_aae02_7 ?_
  refine lv_if_ne (tgt := 17) hx hb dJ0_isLatin1_aae02_10 (by decide) (fun c102 => absurd (by decide) c102) (fun c102 => ?_)
  refine lv_iconst (v := 1) hx hb dJ0_isLatin1_aae02_13 (by decide) ?_
  refine lv_goto (tgt := 18) hx hb dJ0_isLatin1_aae02_14 (by decide) ?_
  exact W.zret (v := 1) (ty := .boolean) hx hb hr rfl (fun t ht hW => ⟨⟨1, (), rfl, rfl, by rw [ht]; exact hP, hD⟩, hS.F ht⟩) hS.2.2 dJ0_isLatin1_aae02_18

set_option maxHeartbeats 4000000 in
set_option maxRecDepth 100000 in
theorem c_J3_ck0 (l : Launch) (G : va_G) (cA : Nat → ClassId) (sz : Nat) (x : Int32) (sA : Nat) (vA : Nat) (fb : Nat → Int32) (hq : 0 ≤ x.toInt ∧ x.toInt ≤ 152) : Met l yJ3_checkIndex_8e157 (.code yJ3_checkIndex_8e157 cJ3_checkIndex_8e157 3 (some .int) :: T0) ({ frames := 0, cells := 0, slots := 0, locals := 0 }) (tqP2 G cA sA vA fb [.int x, .int 153, .null] [] sz) (tqQi G cA (fun (r : Int32) (u : Unit) => r = x) (fun (u : Unit) => []) (va_A [] sz)) 0 0 (va_A [] sz) := by
  refine Met.ofW (cc := cJ3_checkIndex_8e157) (maxL := 3) (ret := (some .int)) (by decide) rfl ?_
  intro p e s m args below meth c s₁ B hml hv
  obtain ⟨rfl, hsz, hP, hK, hD0, hN, hSt, hR⟩ := hv
  have hx := B.exec
  have hb := B.bytes
  have hr := B.returns
  have hts := atoms_spec (ws := .code yJ3_checkIndex_8e157 cJ3_checkIndex_8e157 3 (some .int) :: T0) B.pre
  have hT : ∀ w ∈ T0, w.before _ s = true := fun w h => hts w (List.mem_cons_of_mem _ h)
  have hown : s.vm.findClass RJ3 = some m.cls := findClass_of_methodNamed B.named
  have hlocks := B.notSynchronized
  subst hsz
  have hD := hD0.self (sz := s.heap.size)
  generalize hAe : va_A [] s.heap.size = A at hD hSt ⊢
  have hA : ∀ q : Nat, s.heap.size ≤ q → A q := fun q h => by rw [← hAe]; exact Or.inr h
  have hS : va_S A s.heap s.heap [] := va_S.rf
  have hl := lv_entry ([.int x, .int 153, .null]) (n := 3) (Nat.le_of_ble_eq_true rfl)
  rw [lg_entry_eq]
  generalize (lg_sl ([.int x, .int 153, .null]) ++ List.replicate (3 - (lg_sl ([.int x, .int 153, .null])).length) Slot.unset).toArray = ls at hl ⊢
  have hl : lv_has ls 3 [(0, .int x), (1, .int 153), (2, .null)] := hl
  obtain ⟨H, hH⟩ : ∃ z, z = s.heap := ⟨_, rfl⟩
  rw [← hH] at hP
  have hS : va_S A s.heap H [] := by rw [hH]; exact hS
  suffices hgo : W p l e _ s m _ below meth c H [] 0 0 _ _ by rw [hH] at hgo; exact hgo
  have hO := hN.2.2.2.2
  refine lv_iload_n hx hb dJ3_checkIndex_8e157_0 rfl (lv_at hl 0 rfl) ?_
  refine lv_if_lt (tgt := 9) hx hb dJ3_checkIndex_8e157_1 (by decide) (fun c101 => ?_) (fun c101 => ?_)
  · have k101 := tq_lt (a := x.toInt) (b := 0) rfl (by decide) c101
    exfalso
    omega
  · have k101 := tq_ltn (a := x.toInt) (b := 0) rfl (by decide) c101
    refine lv_iload_n hx hb dJ3_checkIndex_8e157_4 rfl (lv_at hl 0 rfl) ?_
    refine lv_iload_n hx hb dJ3_checkIndex_8e157_5 rfl (lv_at hl 1 rfl) ?_
    refine lv_icmp_lt (tgt := 16) hx hb dJ3_checkIndex_8e157_6 (by decide) (fun c102 => ?_) (fun c102 => ?_)
    · have k102 := tq_lt (a := x.toInt) (b := 153) rfl (by decide) c102
      refine lv_iload_n hx hb dJ3_checkIndex_8e157_16 rfl (lv_at hl 0 rfl) ?_
      exact W.iret (v := x) hx hb hr (fun t ht hW => ⟨⟨x, (), rfl, rfl, by rw [ht]; exact hP, hD⟩, hS.F ht⟩) hS.2.2 dJ3_checkIndex_8e157_17
    · have k102 := tq_ltn (a := x.toInt) (b := 153) rfl (by decide) c102
      exfalso
      omega

set_option maxHeartbeats 4000000 in
set_option maxRecDepth 100000 in
theorem c_J3_ck1 (l : Launch) (G : va_G) (cA : Nat → ClassId) (sz : Nat) (x : Int32) (tt : Nat) (sA : Nat) (vA : Nat) (fb : Nat → Int32) (hq : 0 ≤ x.toInt ∧ x.toInt ≤ 152) : Met l yJ3_checkIndex_8e157 (.code yJ3_checkIndex_8e157 cJ3_checkIndex_8e157 3 (some .int) :: T0) ({ frames := 0, cells := 0, slots := 0, locals := 0 }) (tqP2 G cA sA vA fb [.int x, .int 153, .ref tt] [] sz) (tqQi G cA (fun (r : Int32) (u : Unit) => r = x) (fun (u : Unit) => []) (va_A [] sz)) 0 0 (va_A [] sz) := by
  refine Met.ofW (cc := cJ3_checkIndex_8e157) (maxL := 3) (ret := (some .int)) (by decide) rfl ?_
  intro p e s m args below meth c s₁ B hml hv
  obtain ⟨rfl, hsz, hP, hK, hD0, hN, hSt, hR⟩ := hv
  have hx := B.exec
  have hb := B.bytes
  have hr := B.returns
  have hts := atoms_spec (ws := .code yJ3_checkIndex_8e157 cJ3_checkIndex_8e157 3 (some .int) :: T0) B.pre
  have hT : ∀ w ∈ T0, w.before _ s = true := fun w h => hts w (List.mem_cons_of_mem _ h)
  have hown : s.vm.findClass RJ3 = some m.cls := findClass_of_methodNamed B.named
  have hlocks := B.notSynchronized
  subst hsz
  have hD := hD0.self (sz := s.heap.size)
  generalize hAe : va_A [] s.heap.size = A at hD hSt ⊢
  have hA : ∀ q : Nat, s.heap.size ≤ q → A q := fun q h => by rw [← hAe]; exact Or.inr h
  have hS : va_S A s.heap s.heap [] := va_S.rf
  have hl := lv_entry ([.int x, .int 153, .ref tt]) (n := 3) (Nat.le_of_ble_eq_true rfl)
  rw [lg_entry_eq]
  generalize (lg_sl ([.int x, .int 153, .ref tt]) ++ List.replicate (3 - (lg_sl ([.int x, .int 153, .ref tt])).length) Slot.unset).toArray = ls at hl ⊢
  have hl : lv_has ls 3 [(0, .int x), (1, .int 153), (2, .ref tt)] := hl
  obtain ⟨H, hH⟩ : ∃ z, z = s.heap := ⟨_, rfl⟩
  rw [← hH] at hP
  have hS : va_S A s.heap H [] := by rw [hH]; exact hS
  suffices hgo : W p l e _ s m _ below meth c H [] 0 0 _ _ by rw [hH] at hgo; exact hgo
  have hO := hN.2.2.2.2
  refine lv_iload_n hx hb dJ3_checkIndex_8e157_0 rfl (lv_at hl 0 rfl) ?_
  refine lv_if_lt (tgt := 9) hx hb dJ3_checkIndex_8e157_1 (by decide) (fun c101 => ?_) (fun c101 => ?_)
  · have k101 := tq_lt (a := x.toInt) (b := 0) rfl (by decide) c101
    exfalso
    omega
  · have k101 := tq_ltn (a := x.toInt) (b := 0) rfl (by decide) c101
    refine lv_iload_n hx hb dJ3_checkIndex_8e157_4 rfl (lv_at hl 0 rfl) ?_
    refine lv_iload_n hx hb dJ3_checkIndex_8e157_5 rfl (lv_at hl 1 rfl) ?_
    refine lv_icmp_lt (tgt := 16) hx hb dJ3_checkIndex_8e157_6 (by decide) (fun c102 => ?_) (fun c102 => ?_)
    · have k102 := tq_lt (a := x.toInt) (b := 153) rfl (by decide) c102
      refine lv_iload_n hx hb dJ3_checkIndex_8e157_16 rfl (lv_at hl 0 rfl) ?_
      exact W.iret (v := x) hx hb hr (fun t ht hW => ⟨⟨x, (), rfl, rfl, by rw [ht]; exact hP, hD⟩, hS.F ht⟩) hS.2.2 dJ3_checkIndex_8e157_17
    · have k102 := tq_ltn (a := x.toInt) (b := 153) rfl (by decide) c102
      exfalso
      omega

set_option maxHeartbeats 4000000 in
set_option maxRecDepth 100000 in
theorem c_J0_checkIndex_df160 (l : Launch) (G : va_G) (cA : Nat → ClassId) (sz : Nat) (x : Int32) (sA : Nat) (vA : Nat) (fb : Nat → Int32) (hq : 0 ≤ x.toInt ∧ x.toInt ≤ 152) : Met l yJ0_checkIndex_df160 (.code yJ0_checkIndex_df160 cJ0_checkIndex_df160 2 none :: T0) ({ frames := 1, cells := 0, slots := 0, locals := 22 }) (tqP2 G cA sA vA fb [.int x, .int 153] [] sz) (tqQv G cA (fun (u : Unit) => True) (fun (u : Unit) => []) (va_A [] sz)) 0 0 (va_A [] sz) := by
  refine Met.ofW (cc := cJ0_checkIndex_df160) (maxL := 2) (ret := none) (by decide) rfl ?_
  intro p e s m args below meth c s₁ B hml hv
  obtain ⟨rfl, hsz, hP, hK, hD0, hN, hSt, hR⟩ := hv
  have hx := B.exec
  have hb := B.bytes
  have hr := B.returns
  have hts := atoms_spec (ws := .code yJ0_checkIndex_df160 cJ0_checkIndex_df160 2 none :: T0) B.pre
  have hT : ∀ w ∈ T0, w.before _ s = true := fun w h => hts w (List.mem_cons_of_mem _ h)
  have hown : s.vm.findClass RJ0 = some m.cls := findClass_of_methodNamed B.named
  have hlocks := B.notSynchronized
  subst hsz
  have hD := hD0.self (sz := s.heap.size)
  generalize hAe : va_A [] s.heap.size = A at hD hSt ⊢
  have hA : ∀ q : Nat, s.heap.size ≤ q → A q := fun q h => by rw [← hAe]; exact Or.inr h
  have hS : va_S A s.heap s.heap [] := va_S.rf
  have hl := lv_entry ([.int x, .int 153]) (n := 2) (Nat.le_of_ble_eq_true rfl)
  rw [lg_entry_eq]
  generalize (lg_sl ([.int x, .int 153]) ++ List.replicate (2 - (lg_sl ([.int x, .int 153])).length) Slot.unset).toArray = ls at hl ⊢
  have hl : lv_has ls 2 [(0, .int x), (1, .int 153)] := hl
  obtain ⟨H, hH⟩ : ∃ z, z = s.heap := ⟨_, rfl⟩
  rw [← hH] at hP
  have hS : va_S A s.heap H [] := by rw [hH]; exact hS
  suffices hgo : W p l e _ s m _ below meth c H [] 0 0 _ _ by rw [hH] at hgo; exact hgo
  have hO := hN.2.2.2.2
  refine lv_iload_n hx hb dJ0_checkIndex_df160_0 rfl (lv_at hl 0 rfl) ?_
  refine lv_iload_n hx hb dJ0_checkIndex_df160_1 rfl (lv_at hl 1 rfl) ?_
  rcases hSt.2.2.2.2.2 with hz101 | ⟨q102, hz101⟩
  · refine va_gets hx hb hz101 hS hown (hT _ kw_4_16) (fun _ h9 => h9) dJ0_checkIndex_df160_2 ?_
    refine tq_ci (wr := []) hP hD hS hA [] [] rfl rfl (by decide) (by decide) (va_runS (As := [.int x, .int 153, .null]) (rest := []) ⟨hx, hb, hml, hown, hT⟩ (c_J3_ck0 l G cA H.size x sA vA fb (by omega)) (va_cwS 3 hT (tq_gS kw_4_17 kw_4_18 kw_4_19 kw_4_20) rfl rfl rfl dkdS_yJ3_checkIndex_8e157_3 ⟨Nat.le_of_ble_eq_true rfl, Nat.le_of_ble_eq_true rfl⟩) (tq_pre2 (isC := []) hP hD hK hN rfl (by decide) hS hA hSt hR) rfl rfl hl.1 rfl (lv_room (Nat.le_of_ble_eq_true rfl)) dJ0_checkIndex_df160_5 ⟨Nat.le_of_ble_eq_true rfl, Nat.le_of_ble_eq_true rfl⟩) (fun r103 u104 H locs hw105 hP hD hS => ?_)
    refine W.widen (k := 0) (n := 0) (Nat.le_of_ble_eq_true rfl) (Nat.le_of_ble_eq_true rfl) ?_
    have hr106 := hw105
    subst hr106
    have hP : va_P G vwCl [] H := hP
    have hD : va_D A [] := hD
    refine lv_pop hx hb dJ0_checkIndex_df160_8 rfl ?_
    exact W.vret hx hb hr (fun t ht hW => ⟨⟨(), rfl, trivial, by rw [ht]; exact hP, hD⟩, hS.F ht⟩) hS.2.2 dJ0_checkIndex_df160_9
  · refine va_gets hx hb hz101 hS hown (hT _ kw_4_16) (fun _ h9 => h9) dJ0_checkIndex_df160_2 ?_
    refine tq_ci (wr := []) hP hD hS hA [] [] rfl rfl (by decide) (by decide) (va_runS (As := [.int x, .int 153, .ref q102]) (rest := []) ⟨hx, hb, hml, hown, hT⟩ (c_J3_ck1 l G cA H.size x q102 sA vA fb (by omega)) (va_cwS 3 hT (tq_gS kw_4_17 kw_4_18 kw_4_19 kw_4_20) rfl rfl rfl dkdS_yJ3_checkIndex_8e157_3 ⟨Nat.le_of_ble_eq_true rfl, Nat.le_of_ble_eq_true rfl⟩) (tq_pre2 (isC := []) hP hD hK hN rfl (by decide) hS hA hSt hR) rfl rfl hl.1 rfl (lv_room (Nat.le_of_ble_eq_true rfl)) dJ0_checkIndex_df160_5 ⟨Nat.le_of_ble_eq_true rfl, Nat.le_of_ble_eq_true rfl⟩) (fun r107 u108 H locs hw109 hP hD hS => ?_)
    refine W.widen (k := 0) (n := 0) (Nat.le_of_ble_eq_true rfl) (Nat.le_of_ble_eq_true rfl) ?_
    have hr110 := hw109
    subst hr110
    have hP : va_P G vwCl [] H := hP
    have hD : va_D A [] := hD
    refine lv_pop hx hb dJ0_checkIndex_df160_8 rfl ?_
    exact W.vret hx hb hr (fun t ht hW => ⟨⟨(), rfl, trivial, by rw [ht]; exact hP, hD⟩, hS.F ht⟩) hS.2.2 dJ0_checkIndex_df160_9

set_option maxHeartbeats 4000000 in
set_option maxRecDepth 100000 in
theorem c_J1_charAt_3b067 (l : Launch) (G : va_G) (cA : Nat → ClassId) (sz : Nat) (vA : Nat) (x : Int32) (sA : Nat) (fb : Nat → Int32) (hq : 0 ≤ x.toInt ∧ x.toInt ≤ 152) : Met l yJ1_charAt_3b067 (.code yJ1_charAt_3b067 cJ1_charAt_3b067 2 (some .char) :: T0) ({ frames := 2, cells := 0, slots := 0, locals := 43 }) (tqP2 G cA sA vA fb [.ref vA, .int x] [] sz) (tqQi G cA (fun (r : Int32) (u : Unit) => narrow .char (.int r) = .int r ∧ r = (((fb x.toNatClampNeg) &&& 255).toUInt32 % 65536).toInt32) (fun (u : Unit) => []) (va_A [] sz)) 0 0 (va_A [] sz) := by
  refine Met.ofW (cc := cJ1_charAt_3b067) (maxL := 2) (ret := (some .char)) (by decide) rfl ?_
  intro p e s m args below meth c s₁ B hml hv
  obtain ⟨rfl, hsz, hP, hK, hD0, hN, hSt, hR⟩ := hv
  have hx := B.exec
  have hb := B.bytes
  have hr := B.returns
  have hts := atoms_spec (ws := .code yJ1_charAt_3b067 cJ1_charAt_3b067 2 (some .char) :: T0) B.pre
  have hT : ∀ w ∈ T0, w.before _ s = true := fun w h => hts w (List.mem_cons_of_mem _ h)
  have hown : s.vm.findClass RJ1 = some m.cls := findClass_of_methodNamed B.named
  have hlocks := B.notSynchronized
  subst hsz
  have hD := hD0.self (sz := s.heap.size)
  generalize hAe : va_A [] s.heap.size = A at hD hSt ⊢
  have hA : ∀ q : Nat, s.heap.size ≤ q → A q := fun q h => by rw [← hAe]; exact Or.inr h
  have hS : va_S A s.heap s.heap [] := va_S.rf
  have hl := lv_entry ([.ref vA, .int x]) (n := 2) (Nat.le_of_ble_eq_true rfl)
  rw [lg_entry_eq]
  generalize (lg_sl ([.ref vA, .int x]) ++ List.replicate (2 - (lg_sl ([.ref vA, .int x])).length) Slot.unset).toArray = ls at hl ⊢
  have hl : lv_has ls 2 [(0, .ref vA), (1, .int x)] := hl
  obtain ⟨H, hH⟩ : ∃ z, z = s.heap := ⟨_, rfl⟩
  rw [← hH] at hP
  have hS : va_S A s.heap H [] := by rw [hH]; exact hS
  suffices hgo : W p l e _ s m _ below meth c H [] 0 0 _ _ by rw [hH] at hgo; exact hgo
  have hO := hN.2.2.2.2
  refine lv_iload_n hx hb dJ1_charAt_3b067_0 rfl (lv_at hl 1 rfl) ?_
  refine lv_aload_n hx hb dJ1_charAt_3b067_1 rfl (lv_at hl 0 rfl) ?_
  refine va_tlen (v := 153) hx hb hSt.2.2.2.1 hS (by decide) dJ1_charAt_3b067_2 ?_
  refine tq_cv (wr := []) hP hD hS hA [] [] rfl rfl (by decide) (by decide) (va_runS (As := [.int x, .int 153]) (rest := []) ⟨hx, hb, hml, hown, hT⟩ (c_J0_checkIndex_df160 l G cA H.size x sA vA fb (by omega)) (va_cwS 2 hT (tq_gS kw_4_13 kw_4_14 kw_3_16 kw_4_15) rfl rfl rfl dkdS_yJ0_checkIndex_df160_2 ⟨Nat.le_of_ble_eq_true rfl, Nat.le_of_ble_eq_true rfl⟩) (tq_pre2 (isC := []) hP hD hK hN rfl (by decide) hS hA hSt hR) rfl rfl hl.1 rfl (lv_room (Nat.le_of_ble_eq_true rfl)) dJ1_charAt_3b067_3 ⟨Nat.le_of_ble_eq_true rfl, Nat.le_of_ble_eq_true rfl⟩) (fun u101 H locs hw102 hP hD hS => ?_)
  refine W.widen (k := 0) (n := 0) (Nat.le_of_ble_eq_true rfl) (Nat.le_of_ble_eq_true rfl) ?_
  have hP : va_P G vwCl [] H := hP
  have hD : va_D A [] := hD
  refine lv_aload_n hx hb dJ1_charAt_3b067_6 rfl (lv_at hl 0 rfl) ?_
  refine lv_iload_n hx hb dJ1_charAt_3b067_7 rfl (lv_at hl 1 rfl) ?_
  have hin103 : vp_in x 153 := vp_in_iff.mpr ⟨by omega, by omega⟩
  refine va_tb hx hb hSt.2.2.2.1 hS hin103 rfl dJ1_charAt_3b067_8 ?_
  refine lv_topi (fun x104 ex104 => ?_)
  refine lv_sipush (v := 255) hx hb dJ1_charAt_3b067_9 (by decide) ?_
  refine lv_iand hx hb dJ1_charAt_3b067_12 ?_
  refine lv_topi (fun x105 ex105 => ?_)
  refine lv_i2c hx hb dJ1_charAt_3b067_13 rfl ?_
  refine lv_topi (fun x106 ex106 => ?_)
  exact W.zret (v := x106) (ty := .char) hx hb hr (by rw [ex106]; exact pk_nc _) (fun t ht hW => ⟨⟨x106, (), rfl, ⟨(by rw [ex106]; exact pk_nc _), by rw [ex106, ex105, ex104]⟩, by rw [ht]; exact hP, hD⟩, hS.F ht⟩) hS.2.2 dJ1_charAt_3b067_14

set_option maxHeartbeats 4000000 in
set_option maxRecDepth 100000 in
theorem c_J0_charAt_5068e (l : Launch) (G : va_G) (cA : Nat → ClassId) (sz : Nat) (sA : Nat) (x : Int32) (vA : Nat) (fb : Nat → Int32) (hq : 0 ≤ x.toInt ∧ x.toInt ≤ 152) : Met l yJ0_charAt_5068e (.code yJ0_charAt_5068e cJ0_charAt_5068e 2 (some .char) :: T0) ({ frames := 3, cells := 0, slots := 0, locals := 64 }) (tqP2 G cA sA vA fb [.ref sA, .int x] [] sz) (tqQi G cA (fun (r : Int32) (u : Unit) => narrow .char (.int r) = .int r ∧ r = (((fb x.toNatClampNeg) &&& 255).toUInt32 % 65536).toInt32) (fun (u : Unit) => []) (va_A [] sz)) 0 0 (va_A [] sz) := by
  refine Met.ofW (cc := cJ0_charAt_5068e) (maxL := 2) (ret := (some .char)) (by decide) rfl ?_
  intro p e s m args below meth c s₁ B hml hv
  obtain ⟨rfl, hsz, hP, hK, hD0, hN, hSt, hR⟩ := hv
  have hx := B.exec
  have hb := B.bytes
  have hr := B.returns
  have hts := atoms_spec (ws := .code yJ0_charAt_5068e cJ0_charAt_5068e 2 (some .char) :: T0) B.pre
  have hT : ∀ w ∈ T0, w.before _ s = true := fun w h => hts w (List.mem_cons_of_mem _ h)
  have hown : s.vm.findClass RJ0 = some m.cls := findClass_of_methodNamed B.named
  have hlocks := B.notSynchronized
  subst hsz
  have hD := hD0.self (sz := s.heap.size)
  generalize hAe : va_A [] s.heap.size = A at hD hSt ⊢
  have hA : ∀ q : Nat, s.heap.size ≤ q → A q := fun q h => by rw [← hAe]; exact Or.inr h
  have hS : va_S A s.heap s.heap [] := va_S.rf
  have hl := lv_entry ([.ref sA, .int x]) (n := 2) (Nat.le_of_ble_eq_true rfl)
  rw [lg_entry_eq]
  generalize (lg_sl ([.ref sA, .int x]) ++ List.replicate (2 - (lg_sl ([.ref sA, .int x])).length) Slot.unset).toArray = ls at hl ⊢
  have hl : lv_has ls 2 [(0, .ref sA), (1, .int x)] := hl
  obtain ⟨H, hH⟩ : ∃ z, z = s.heap := ⟨_, rfl⟩
  rw [← hH] at hP
  have hS : va_S A s.heap H [] := by rw [hH]; exact hS
  suffices hgo : W p l e _ s m _ below meth c H [] 0 0 _ _ by rw [hH] at hgo; exact hgo
  have hO := hN.2.2.2.2
  refine lv_aload_n hx hb dJ0_charAt_5068e_0 rfl (lv_at hl 0 rfl) ?_
  refine tq_ci (wr := []) hP hD hS hA [] [] rfl rfl (by decide) (by decide) (va_runV (As := []) (rest := []) ⟨hx, hb, hml, hown, hT⟩ (c_J0_isLatin1_aae02 l G cA H.size sA vA fb ) (cwV 0 hT (tq_gV kw_4_5 kw_4_6 kw_4_7 kw_3_16 kw_4_8) rfl rfl rfl dkdV_yJ0_isLatin1_aae02_0 ⟨Nat.le_of_ble_eq_true rfl, Nat.le_of_ble_eq_true rfl⟩) ⟨(tq_pre2 (isC := []) hP hD hK hN rfl (by decide) hS hA hSt hR).1, va_Orecv hSt.1 hS, (tq_pre2 (isC := []) hP hD hK hN rfl (by decide) hS hA hSt hR).2⟩ rfl rfl hl.1 rfl (lv_room (Nat.le_of_ble_eq_true rfl)) dJ0_charAt_5068e_1 ⟨Nat.le_of_ble_eq_true rfl, Nat.le_of_ble_eq_true rfl⟩) (fun r101 u102 H locs hw103 hP hD hS => ?_)
  refine W.widen (k := 0) (n := 0) (Nat.le_of_ble_eq_true rfl) (Nat.le_of_ble_eq_true rfl) ?_
  have hr104 := hw103
  subst hr104
  have hP : va_P G vwCl [] H := hP
  have hD : va_D A [] := hD
  refine lv_if_eq (tgt := 16) hx hb dJ0_charAt_5068e_4 (by decide) (fun c105 => absurd c105 (by decide)) (fun c105 => ?_)
  refine lv_aload_n hx hb dJ0_charAt_5068e_7 rfl (lv_at hl 0 rfl) ?_
  refine vk_getf hx hb hSt.2.2.1 hS hown (hT _ kw_3_18) (fun _ h9 => h9) dJ0_charAt_5068e_8 ?_
  refine lv_iload_n hx hb dJ0_charAt_5068e_11 rfl (lv_at hl 1 rfl) ?_
  refine tq_ci (wr := []) hP hD hS hA [] [] rfl rfl (by decide) (by decide) (va_runS (As := [.ref vA, .int x]) (rest := []) ⟨hx, hb, hml, hown, hT⟩ (c_J1_charAt_3b067 l G cA H.size vA x sA fb (by omega)) (va_cwS 2 hT (tq_gS kw_4_9 kw_4_10 kw_4_11 kw_4_12) rfl rfl rfl dkdS_yJ1_charAt_3b067_2 ⟨Nat.le_of_ble_eq_true rfl, Nat.le_of_ble_eq_true rfl⟩) (tq_pre2 (isC := []) hP hD hK hN rfl (by decide) hS hA hSt hR) rfl rfl hl.1 rfl (lv_room (Nat.le_of_ble_eq_true rfl)) dJ0_charAt_5068e_12 ⟨Nat.le_of_ble_eq_true rfl, Nat.le_of_ble_eq_true rfl⟩) (fun r106 u107 H locs hw108 hP hD hS => ?_)
  refine W.widen (k := 0) (n := 0) (Nat.le_of_ble_eq_true rfl) (Nat.le_of_ble_eq_true rfl) ?_
  have hp109 := hw108
  have hP : va_P G vwCl [] H := hP
  have hD : va_D A [] := hD
  exact W.zret (v := r106) (ty := .char) hx hb hr hp109.1 (fun t ht hW => ⟨⟨r106, (), rfl, hp109, by rw [ht]; exact hP, hD⟩, hS.F ht⟩) hS.2.2 dJ0_charAt_5068e_15
-- 72.c
/-! the words, as the constructor of Tokens packs them: the class tells 'or' ahead of 'and' -/
def wrX (j : Nat) : Int32 := if 103 ≤ j ∧ j ≤ 109 then List.getD [111, 114, 32, 97, 110, 100, 32] (j - 103) 0 else wr j
def wrdS : Nat → Int32 × Int32 × Int32
  | 0 => (0, 0, 0)
  | i + 1 => bif wrX i == 32 then ((wrdS i).1 + 1, 0, 0) else ((wrdS i).1, ((wrdS i).2.1 <<< ((5 : Int32) &&& 31)) ||| ((wrX i - 97) + 1), (wrdS i).2.2 + 1)
def wrdI (ii wd le si : Int32) (fw : Nat → Int32) : Prop := (wd, le, si) = wrdS ii.toNatClampNeg ∧ ∀ k, k < wd.toNatClampNeg → fw k = wv k
theorem ws_32 : ∀ i, i < 153 → wrX i = 32 → ((wrdS i).2.1 <<< (((5 : Int32) * ((6 : Int32) - (wrdS i).2.2)) &&& 31)) = wv (wrdS i).1.toNatClampNeg := by decide +kernel
theorem ws_ch : ∀ i, i < 153 → (((wrX i) &&& 255).toUInt32 % 65536).toInt32 = wrX i := by decide +kernel
theorem ws_end : (wrdS 153).1 = 29 := by decide +kernel
theorem wrdI_0 {fw : Nat → Int32} : wrdI 0 0 0 0 fw := ⟨rfl, fun k hk => absurd hk (Nat.not_lt_zero k)⟩
theorem wrdI_e2 {ii wd le si : Int32} {fw : Nat → Int32} (h : wrdI ii wd le si fw) (hw : 0 ≤ wd.toInt ∧ wd.toInt ≤ 29) (h29 : 29 ≤ wd.toInt) : ∀ k, k < 29 → fw k = wv k := fun k hk => h.2 k (by rw [i_cn (n := 29) (by omega)]; exact hk)
theorem wrdI_e1 {ii wd le si : Int32} {fw : Nat → Int32} (h : wrdI ii wd le si fw) (hi : 0 ≤ ii.toInt ∧ ii.toInt ≤ 153) (h3 : 153 ≤ ii.toInt) : ∀ k, k < 29 → fw k = wv k := fun k hk => by
  have e := h.1
  rw [i_cn (x := ii) (n := 153) (by omega)] at e
  have e1 : wd = 29 := by rw [← ws_end, ← e]
  refine h.2 k ?_
  rw [e1]; exact hk
theorem wrdI_r {fb : Nat → Int32} (hfb : ∀ j, j < 153 → fb j = wrX j) {ii r : Int32} (hi : 0 ≤ ii.toInt ∧ ii.toInt ≤ 153) (hl : ii.toInt < 153) (hr : r = (((fb ii.toNatClampNeg) &&& 255).toUInt32 % 65536).toInt32) : r = wrX ii.toNatClampNeg := by
  have hn : ii.toNatClampNeg < 153 := by simp only [i_cl]; omega
  rw [hr, hfb _ hn]; exact ws_ch _ hn
theorem wrdI_n {ii x : Int32} (hi : 0 ≤ ii.toInt ∧ ii.toInt ≤ 153) (e : x = ii + Int32.ofInt 1) : x.toNatClampNeg = ii.toNatClampNeg + 1 := by
  have z : x.toInt = ii.toInt + 1 := by rw [e]; exact i_addK rfl (by decide) (by omega) (by omega)
  simp only [i_cl]; omega
theorem wrdI_s1 {fb : Nat → Int32} (hfb : ∀ j, j < 153 → fb j = wrX j) {ii wd le si r x123 x124 x125 : Int32} {fw : Nat → Int32} (h : wrdI ii wd le si fw) (hi : 0 ≤ ii.toInt ∧ ii.toInt ≤ 153) (hl : ii.toInt < 153) (hr : r = (((fb ii.toNatClampNeg) &&& 255).toUInt32 % 65536).toInt32) (c : ¬ r = 32) (e1 : x123 = (le <<< ((5 : Int32) &&& 31)) ||| ((r - 97) + 1)) (e2 : x124 = si + Int32.ofInt 1) (e3 : x125 = ii + Int32.ofInt 1) : wrdI x125 wd x123 x124 fw := by
  have er := wrdI_r hfb hi hl hr
  refine ⟨?_, h.2⟩
  rw [wrdI_n hi e3]
  have hb : (wrX ii.toNatClampNeg == 32) = false := by rw [← er]; exact beq_false_of_ne c
  have e : wrdS (ii.toNatClampNeg + 1) = bif wrX ii.toNatClampNeg == 32 then ((wrdS ii.toNatClampNeg).1 + 1, 0, 0) else ((wrdS ii.toNatClampNeg).1, ((wrdS ii.toNatClampNeg).2.1 <<< ((5 : Int32) &&& 31)) ||| ((wrX ii.toNatClampNeg - 97) + 1), (wrdS ii.toNatClampNeg).2.2 + 1) := rfl
  rw [e, hb, ← h.1, ← er, e1, e2]
  rfl
theorem wrdI_s2 {fb : Nat → Int32} (hfb : ∀ j, j < 153 → fb j = wrX j) {ii wd le si r x131 x132 : Int32} {fw f130 : Nat → Int32} (h : wrdI ii wd le si fw) (hi : 0 ≤ ii.toInt ∧ ii.toInt ≤ 153) (hl : ii.toInt < 153) (hw : 0 ≤ wd.toInt ∧ wd.toInt ≤ 29) (hw2 : wd.toInt < 29) (hr : r = (((fb ii.toNatClampNeg) &&& 255).toUInt32 % 65536).toInt32) (c : r = 32) (e1 : f130 = upd fw wd.toNatClampNeg (le <<< (((5 : Int32) * ((6 : Int32) - si)) &&& 31))) (e2 : x131 = wd + Int32.ofInt 1) (e3 : x132 = ii + Int32.ofInt 1) : wrdI x132 x131 0 0 f130 := by
  have er := wrdI_r hfb hi hl hr
  have hn : ii.toNatClampNeg < 153 := by simp only [i_cl]; omega
  have w32 : wrX ii.toNatClampNeg = 32 := er.symm.trans c
  have zw : x131.toNatClampNeg = wd.toNatClampNeg + 1 := by
    have z : x131.toInt = wd.toInt + 1 := by rw [e2]; exact i_addK rfl (by decide) (by omega) (by omega)
    simp only [i_cl]; omega
  constructor
  · rw [wrdI_n hi e3]
    have hb : (wrX ii.toNatClampNeg == 32) = true := by rw [w32]; rfl
    have e : wrdS (ii.toNatClampNeg + 1) = bif wrX ii.toNatClampNeg == 32 then ((wrdS ii.toNatClampNeg).1 + 1, 0, 0) else ((wrdS ii.toNatClampNeg).1, ((wrdS ii.toNatClampNeg).2.1 <<< ((5 : Int32) &&& 31)) ||| ((wrX ii.toNatClampNeg - 97) + 1), (wrdS ii.toNatClampNeg).2.2 + 1) := rfl
    rw [e, hb, ← h.1, e2]
    rfl
  · intro k hk
    rw [zw] at hk
    rw [e1]
    have v := ws_32 _ hn w32
    rw [← h.1] at v
    rcases Nat.lt_succ_iff_lt_or_eq.mp hk with g | g
    · have : upd fw wd.toNatClampNeg (le <<< (((5 : Int32) * ((6 : Int32) - si)) &&& 31)) k = fw k := by simp [upd, Nat.ne_of_lt g]
      rw [this]; exact h.2 k g
    · have : upd fw wd.toNatClampNeg (le <<< (((5 : Int32) * ((6 : Int32) - si)) &&& 31)) k = (le <<< (((5 : Int32) * ((6 : Int32) - si)) &&& 31)) := by rw [g]; simp [upd]
      rw [this, g]; exact v
set_option maxHeartbeats 4000000 in
set_option maxRecDepth 100000 in
theorem c_X5_init (l : Launch) (G : va_G) (cA : Nat → ClassId) (sz : Nat) (h0 : Nat) (fs : List Value) (sA : Nat) (vA : Nat) (fb : Nat → Int32) (hfb : ∀ j, j < 153 → fb j = wrX j) (hf : fh fs 8 [(0, .int 0), (1, .int 0), (2, .int 0), (3, .int 0), (4, .null), (5, .null), (6, .int 0), (7, .int 0)]) : Met l yX5_init (.code yX5_init cX5_init 6 none :: T0) ({ frames := 4, cells := 2, slots := 729, locals := 85 }) (tqP2 G cA sA vA fb [.ref h0] [(h0, .inr (5, fs))] sz) (tqQv G cA (fun (u : List Value × Nat × (Nat → Int32) × Nat × (Nat → Int32)) => (fo fs u.1 [5, 4] ∧ fh u.1 8 [(5, .ref u.2.2.2.1), (4, .ref u.2.1)]) ∧ ∀ k, k < 29 → u.2.2.2.2 k = wv k) (fun (u : List Value × Nat × (Nat → Int32) × Nat × (Nat → Int32)) => [(h0, .inr (5, u.1)), (u.2.1, .inl (cA 3, 700, .inl u.2.2.1)), (u.2.2.2.1, .inl (cA 0, 29, .inl u.2.2.2.2))]) (va_A [(h0, .inr (5, fs))] sz)) 2 729 (va_A [(h0, .inr (5, fs))] sz) := by
  refine Met.ofW (cc := cX5_init) (maxL := 6) (ret := none) (by decide) rfl ?_
  intro p e s m args below meth c s₁ B hml hv
  obtain ⟨rfl, hsz, hP, hK, hD0, hN, hSt, hR⟩ := hv
  have hx := B.exec
  have hb := B.bytes
  have hr := B.returns
  have hts := atoms_spec (ws := .code yX5_init cX5_init 6 none :: T0) B.pre
  have hT : ∀ w ∈ T0, w.before _ s = true := fun w h => hts w (List.mem_cons_of_mem _ h)
  have hown : s.vm.findClass RX5 = some m.cls := findClass_of_methodNamed B.named
  have hlocks := B.notSynchronized
  have hin : meth.name = "<init>" := (name_of_methodNamed B.named B.method).1
  subst hsz
  have hD := hD0.self (sz := s.heap.size)
  generalize hAe : va_A [(h0, .inr (5, fs))] s.heap.size = A at hD hSt ⊢
  have hA : ∀ q : Nat, s.heap.size ≤ q → A q := fun q h => by rw [← hAe]; exact Or.inr h
  have hS : va_S A s.heap s.heap [] := va_S.rf
  have hl := lv_entry ([.ref h0]) (n := 6) (Nat.le_of_ble_eq_true rfl)
  rw [lg_entry_eq]
  generalize (lg_sl ([.ref h0]) ++ List.replicate (6 - (lg_sl ([.ref h0])).length) Slot.unset).toArray = ls at hl ⊢
  have hl : lv_has ls 6 [(0, .ref h0)] := hl
  obtain ⟨H, hH⟩ : ∃ z, z = s.heap := ⟨_, rfl⟩
  rw [← hH] at hP
  have hS : va_S A s.heap H [] := by rw [hH]; exact hS
  suffices hgo : W p l e _ s m _ below meth c H [] 0 0 _ _ by rw [hH] at hgo; exact hgo
  have hO := hN.2.2.2.2
  have ho_hf := fo_refl fs
  refine lv_aload_n hx hb dX5_init_0 rfl (lv_at hl 0 rfl) ?_
  refine W.objInit hx hb hown (hT _ kw_3_9) (hT _ kw_1_11) (hT _ kw_1_12) rfl (by rw [hml]; exact hl.1) rfl dX5_init_1 (Nat.le_of_ble_eq_true rfl) (Nat.le_of_ble_eq_true rfl) ?_
  refine W.eq (g2 := F0 m 4 ls []) rfl ?_
  refine lv_aload_n hx hb dX5_init_4 rfl (lv_at hl 0 rfl) ?_
  refine lv_sipush (v := 700) hx hb dX5_init_5 (by decide) ?_
  refine tq_newa (atype := .byte) (ty := .byte) (n := 700) (N' := 700) (a0 := (700, .inl (fun _ => 0))) hx hb (hT _ kw_3_10) rfl hK hP hD hS hA 3 (cA 3) rfl (fun _ => rfl) (by decide) (by decide) (by decide) (Nat.le_of_ble_eq_true rfl) (Nat.le_of_ble_eq_true rfl) dX5_init_8 (fun q101 H hP hD hS => ?_)
  have hP : va_P G vwCl [(h0, .inr (5, fs)), (q101, .inl (cA 3, 700, .inl ((fun _ => 0))))] H := hP
  have hD : va_D A [(h0, .inr (5, fs)), (q101, .inl (cA 3, 700, .inl ((fun _ => 0))))] := hD
  refine W.widen (k := 1) (n := 700) (Nat.le_of_ble_eq_true rfl) (Nat.le_of_ble_eq_true rfl) ?_
  obtain ⟨f102, ef102⟩ : ∃ z : Nat → Int32, z = (fun _ => 0) := ⟨_, rfl⟩
  rw [← ef102] at hP hD
  refine va_putF (D := G) (ci := 5) (v := .ref q101) (ty := (.array .byte)) (C := RX5) (T := TX5) (N := 8) hx hb hT ku_5 tyX5 tyX5_ok nmX5 hown hK hP hD hS 0 rfl rfl 4 (by decide) (hT _ kw_3_11) (fun _ h9 => h9) rfl hin rfl (by decide +kernel) rfl rfl (fh_lt hf (by decide)) dX5_init_10 (fun H locs hP hD hS => ?_)
  have hP : va_P G vwCl [(h0, .inr (5, (fs.set 4 (.ref q101)))), (q101, .inl (cA 3, 700, .inl f102))] H := hP
  have hD : va_D A [(h0, .inr (5, (fs.set 4 (.ref q101)))), (q101, .inl (cA 3, 700, .inl f102))] := hD
  have hf := fh_set (l' := [(4, .ref q101), (0, .int 0), (1, .int 0), (2, .int 0), (3, .int 0), (5, .null), (6, .int 0), (7, .int 0)]) hf 4 (.ref q101) (by decide) rfl
  have ho104 := fo_set ho_hf 4 (.ref q101)
  generalize (fs.set 4 (.ref q101)) = fs103 at hP hD hf ho104
  refine lv_aload_n hx hb dX5_init_13 rfl (lv_at hl 0 rfl) ?_
  refine lv_bipush (v := 29) hx hb dX5_init_14 (by decide) ?_
  refine tq_newa (atype := .int) (ty := .int) (n := 29) (N' := 29) (a0 := (29, .inl (fun _ => 0))) hx hb (hT _ kw_2_13) rfl hK hP hD hS hA 0 (cA 0) rfl (fun _ => rfl) (by decide) (by decide) (by decide) (Nat.le_of_ble_eq_true rfl) (Nat.le_of_ble_eq_true rfl) dX5_init_16 (fun q105 H hP hD hS => ?_)
  have hP : va_P G vwCl [(h0, .inr (5, fs103)), (q101, .inl (cA 3, 700, .inl f102)), (q105, .inl (cA 0, 29, .inl ((fun _ => 0))))] H := hP
  have hD : va_D A [(h0, .inr (5, fs103)), (q101, .inl (cA 3, 700, .inl f102)), (q105, .inl (cA 0, 29, .inl ((fun _ => 0))))] := hD
  refine W.widen (k := 2) (n := 729) (Nat.le_of_ble_eq_true rfl) (Nat.le_of_ble_eq_true rfl) ?_
  obtain ⟨f106, ef106⟩ : ∃ z : Nat → Int32, z = (fun _ => 0) := ⟨_, rfl⟩
  rw [← ef106] at hP hD
  refine va_putF (D := G) (ci := 5) (v := .ref q105) (ty := (.array .int)) (C := RX5) (T := TX5) (N := 8) hx hb hT ku_5 tyX5 tyX5_ok nmX5 hown hK hP hD hS 0 rfl rfl 5 (by decide) (hT _ kw_3_12) (fun _ h9 => h9) rfl hin rfl (by decide +kernel) rfl rfl (fh_lt hf (by decide)) dX5_init_18 (fun H locs hP hD hS => ?_)
  have hP : va_P G vwCl [(h0, .inr (5, (fs103.set 5 (.ref q105)))), (q101, .inl (cA 3, 700, .inl f102)), (q105, .inl (cA 0, 29, .inl f106))] H := hP
  have hD : va_D A [(h0, .inr (5, (fs103.set 5 (.ref q105)))), (q101, .inl (cA 3, 700, .inl f102)), (q105, .inl (cA 0, 29, .inl f106))] := hD
  have hf := fh_set (l' := [(5, .ref q105), (4, .ref q101), (0, .int 0), (1, .int 0), (2, .int 0), (3, .int 0), (6, .int 0), (7, .int 0)]) hf 5 (.ref q105) (by decide) rfl
  have ho108 := fo_set ho104 5 (.ref q105)
  generalize (fs103.set 5 (.ref q105)) = fs107 at hP hD hf ho108
  refine lv_iconst (v := 0) hx hb dX5_init_21 (by decide) ?_
  refine lv_istore_n (lv' := [(1, .int 0), (0, .ref h0)]) hx hb dX5_init_22 rfl hl (by decide) rfl (fun ls hl => ?_)
  refine lv_iconst (v := 0) hx hb dX5_init_23 (by decide) ?_
  refine lv_istore_n (lv' := [(2, .int 0), (1, .int 0), (0, .ref h0)]) hx hb dX5_init_24 rfl hl (by decide) rfl (fun ls hl => ?_)
  refine lv_iconst (v := 0) hx hb dX5_init_25 (by decide) ?_
  refine lv_istore_n (lv' := [(3, .int 0), (2, .int 0), (1, .int 0), (0, .ref h0)]) hx hb dX5_init_26 rfl hl (by decide) rfl (fun ls hl => ?_)
  refine lv_iconst (v := 0) hx hb dX5_init_27 (by decide) ?_
  refine lv_istore (lv' := [(4, .int 0), (3, .int 0), (2, .int 0), (1, .int 0), (0, .ref h0)]) hx hb dX5_init_28 hl (by decide) rfl (fun ls hl => ?_)
  have loop : ∀ (n : Nat) (wd le si ii : Int32) (fw : Nat → Int32) (H : Heap) (locs : List Loc) (ls : Array Slot), (0 ≤ ii.toInt ∧ ii.toInt ≤ 153) → (0 ≤ wd.toInt ∧ wd.toInt ≤ 29) → (153 < ii.toInt + n) → wrdI ii wd le si fw → va_P G vwCl [(h0, .inr (5, fs107)), (q101, .inl (cA 3, 700, .inl f102)), (q105, .inl (cA 0, 29, .inl fw))] H → va_D A [(h0, .inr (5, fs107)), (q101, .inl (cA 3, 700, .inl f102)), (q105, .inl (cA 0, 29, .inl fw))] → va_S A s.heap H locs → lv_has ls 6 [(4, .int ii), (3, .int si), (2, .int le), (1, .int wd), (0, .ref h0)] → W p l e (headSpec (.code yX5_init cX5_init 6 none :: T0) ({ frames := 4, cells := 2, slots := 729, locals := 85 })).room s m ([.ref h0] : List Value).toArray below meth c H locs 2 729 (MQ below (tqQv G cA (fun (u : List Value × Nat × (Nat → Int32) × Nat × (Nat → Int32)) => (fo fs u.1 [5, 4] ∧ fh u.1 8 [(5, .ref u.2.2.2.1), (4, .ref u.2.1)]) ∧ ∀ k, k < 29 → u.2.2.2.2 k = wv k) (fun (u : List Value × Nat × (Nat → Int32) × Nat × (Nat → Int32)) => [(h0, .inr (5, u.1)), (u.2.1, .inl (cA 3, 700, .inl u.2.2.1)), (u.2.2.2.1, .inl (cA 0, 29, .inl u.2.2.2.2))]) A) ([.ref h0] : List Value).toArray s 2 729 A) (F0 m 30 ls []) := by
    intro n
    induction n with
    | zero => intro wd le si ii fw H locs ls h1 h2 h3 _; exfalso; omega
    | succ n ih =>
      intro wd le si ii fw H locs ls hi hw hn hI hP hD hS hl
      refine lv_iload hx hb dX5_init_30 (lv_at hl 0 rfl) ?_
      refine va_ldcS (tx := tqTX) hx hb hown hR dX5_init_32 ?_
      refine tq_ci (wr := [(h0, .inr (5, fs107)), (q101, .inl (cA 3, 700, .inl f102)), (q105, .inl (cA 0, 29, .inl fw))]) hP hD hS hA [] [0, 1, 2] rfl rfl (by decide) (by decide) (va_runV (As := []) (rest := [.int ii]) ⟨hx, hb, hml, hown, hT⟩ (c_J0_length_8abf5 l G cA H.size sA vA fb ) (cwV 0 hT (tq_gV kw_3_13 kw_3_14 kw_3_15 kw_3_16 kw_3_17) rfl rfl rfl dkdV_yJ0_length_8abf5_0 ⟨Nat.le_of_ble_eq_true rfl, Nat.le_of_ble_eq_true rfl⟩) ⟨(tq_pre2 (isC := []) hP hD hK hN rfl (by decide) hS hA hSt hR).1, va_Orecv hSt.1 hS, (tq_pre2 (isC := []) hP hD hK hN rfl (by decide) hS hA hSt hR).2⟩ rfl rfl hl.1 rfl (lv_room (Nat.le_of_ble_eq_true rfl)) dX5_init_34 ⟨Nat.le_of_ble_eq_true rfl, Nat.le_of_ble_eq_true rfl⟩) (fun r109 u110 H locs hw111 hP hD hS => ?_)
      refine W.widen (k := 2) (n := 729) (Nat.le_of_ble_eq_true rfl) (Nat.le_of_ble_eq_true rfl) ?_
      have hr112 := hw111
      subst hr112
      have hP : va_P G vwCl [(h0, .inr (5, fs107)), (q101, .inl (cA 3, 700, .inl f102)), (q105, .inl (cA 0, 29, .inl fw))] H := hP
      have hD : va_D A [(h0, .inr (5, fs107)), (q101, .inl (cA 3, 700, .inl f102)), (q105, .inl (cA 0, 29, .inl fw))] := hD
      refine lv_icmp_ge (tgt := 107) hx hb dX5_init_37 (by decide) (fun c113 => ?_) (fun c113 => ?_)
      · have k113 := tq_le (a := 153) (b := ii.toInt) (by decide) rfl c113
        have qho108 := fo_mono (k2 := [5, 4]) ho108 (by decide)
        exact W.vret hx hb hr (fun t ht hW => ⟨⟨(fs107, q101, f102, q105, fw), rfl, ⟨⟨qho108, fh_sub hf [0, 1] rfl⟩, wrdI_e1 hI hi (by omega)⟩, by rw [ht]; exact hP, hD⟩, hS.F ht⟩) hS.2.2 dX5_init_107
      · have k113 := tq_len (a := 153) (b := ii.toInt) (by decide) rfl c113
        refine lv_iload_n hx hb dX5_init_40 rfl (lv_at hl 3 rfl) ?_
        refine lv_bipush (v := 29) hx hb dX5_init_41 (by decide) ?_
        refine lv_icmp_ge (tgt := 107) hx hb dX5_init_43 (by decide) (fun c114 => ?_) (fun c114 => ?_)
        · have k114 := tq_le (a := 29) (b := wd.toInt) (by decide) rfl c114
          have qho108 := fo_mono (k2 := [5, 4]) ho108 (by decide)
          exact W.vret hx hb hr (fun t ht hW => ⟨⟨(fs107, q101, f102, q105, fw), rfl, ⟨⟨qho108, fh_sub hf [0, 1] rfl⟩, wrdI_e2 hI hw (by omega)⟩, by rw [ht]; exact hP, hD⟩, hS.F ht⟩) hS.2.2 dX5_init_107
        · have k114 := tq_len (a := 29) (b := wd.toInt) (by decide) rfl c114
          refine va_ldcS (tx := tqTX) hx hb hown hR dX5_init_46 ?_
          refine lv_iload hx hb dX5_init_48 (lv_at hl 0 rfl) ?_
          refine tq_ci (wr := [(h0, .inr (5, fs107)), (q101, .inl (cA 3, 700, .inl f102)), (q105, .inl (cA 0, 29, .inl fw))]) hP hD hS hA [] [0, 1, 2] rfl rfl (by decide) (by decide) (va_runV (As := [.int ii]) (rest := []) ⟨hx, hb, hml, hown, hT⟩ (c_J0_charAt_5068e l G cA H.size sA ii vA fb (by omega)) (cwV 1 hT (tq_gV kw_4_1 kw_4_2 kw_4_3 kw_3_16 kw_4_4) rfl rfl rfl dkdV_yJ0_charAt_5068e_1 ⟨Nat.le_of_ble_eq_true rfl, Nat.le_of_ble_eq_true rfl⟩) ⟨(tq_pre2 (isC := []) hP hD hK hN rfl (by decide) hS hA hSt hR).1, va_Orecv hSt.1 hS, (tq_pre2 (isC := []) hP hD hK hN rfl (by decide) hS hA hSt hR).2⟩ rfl rfl hl.1 rfl (lv_room (Nat.le_of_ble_eq_true rfl)) dX5_init_50 ⟨Nat.le_of_ble_eq_true rfl, Nat.le_of_ble_eq_true rfl⟩) (fun r115 u116 H locs hw117 hP hD hS => ?_)
          refine W.widen (k := 2) (n := 729) (Nat.le_of_ble_eq_true rfl) (Nat.le_of_ble_eq_true rfl) ?_
          have hp118 := hw117.2
          have hP : va_P G vwCl [(h0, .inr (5, fs107)), (q101, .inl (cA 3, 700, .inl f102)), (q105, .inl (cA 0, 29, .inl fw))] H := hP
          have hD : va_D A [(h0, .inr (5, fs107)), (q101, .inl (cA 3, 700, .inl f102)), (q105, .inl (cA 0, 29, .inl fw))] := hD
          refine lv_istore (lv' := [(5, .int r115), (4, .int ii), (3, .int si), (2, .int le), (1, .int wd), (0, .ref h0)]) hx hb dX5_init_53 hl (by decide) rfl (fun ls hl => ?_)
          refine lv_iload hx hb dX5_init_55 (lv_at hl 0 rfl) ?_
          refine lv_bipush (v := 32) hx hb dX5_init_57 (by decide) ?_
          refine lv_icmp_ne (tgt := 86) hx hb dX5_init_59 (by decide) (fun c119 => ?_) (fun c119 => ?_)
          · have k119 := tq_eqn (a := r115.toInt) (b := 32) rfl (by decide) c119
            refine lv_iload_n hx hb dX5_init_86 rfl (lv_at hl 3 rfl) ?_
            refine lv_iconst (v := 5) hx hb dX5_init_87 (by decide) ?_
            refine lv_ishl hx hb dX5_init_88 ?_
            refine lv_topi (fun x120 ex120 => ?_)
            refine lv_iload hx hb dX5_init_89 (lv_at hl 0 rfl) ?_
            refine lv_bipush (v := 97) hx hb dX5_init_91 (by decide) ?_
            refine lv_isub hx hb dX5_init_93 ?_
            refine lv_topi (fun x121 ex121 => ?_)
            refine lv_iconst (v := 1) hx hb dX5_init_94 (by decide) ?_
            refine lv_iadd hx hb dX5_init_95 ?_
            refine lv_topi (fun x122 ex122 => ?_)
            refine lv_ior hx hb dX5_init_96 ?_
            refine lv_topi (fun x123 ex123 => ?_)
            refine lv_istore_n (lv' := [(2, .int x123), (5, .int r115), (4, .int ii), (3, .int si), (1, .int wd), (0, .ref h0)]) hx hb dX5_init_97 rfl hl (by decide) rfl (fun ls hl => ?_)
            obtain ⟨x124, ex124⟩ : ∃ y : Int32, y = si + Int32.ofInt 1 := ⟨_, rfl⟩
            refine lv_iinc (v := x124) (lv' := [(3, .int x124), (2, .int x123), (5, .int r115), (4, .int ii), (1, .int wd), (0, .ref h0)]) hx hb dX5_init_98 hl (k := 3) rfl ex124.symm (by decide) rfl (fun ls hl => ?_)
            obtain ⟨x125, ex125⟩ : ∃ y : Int32, y = ii + Int32.ofInt 1 := ⟨_, rfl⟩
            refine lv_iinc (v := x125) (lv' := [(4, .int x125), (3, .int x124), (2, .int x123), (5, .int r115), (1, .int wd), (0, .ref h0)]) hx hb dX5_init_101 hl (k := 3) rfl ex125.symm (by decide) rfl (fun ls hl => ?_)
            refine lv_goto (tgt := 30) hx hb dX5_init_104 (by decide) ?_
            have qii := tq_inc ex125 (by omega) (by omega)
            exact ih wd x123 x124 x125 fw H locs ls ⟨by omega, by omega⟩ ⟨by omega, by omega⟩ (by omega) (wrdI_s1 hfb hI hi (by omega) hp118 c119 (by rw [ex123, ex120, ex122, ex121]) ex124 ex125) hP hD hS (lv_sub hl [0, 1, 2, 4, 5] rfl)
          · have k119 := tq_eq (a := r115.toInt) (b := 32) rfl (by decide) c119
            refine lv_aload_n hx hb dX5_init_62 rfl (lv_at hl 5 rfl) ?_
            refine va_get (D := G) (ci := 5) (v := .ref q105) (C := RX5) (T := TX5) (N := 8) hx hb hT ku_5 hown hK hP 0 rfl rfl 5 (by decide) (hT _ kw_3_12) (fun _ h9 => h9) (fh_at hf 0 rfl) dX5_init_63 ?_
            refine lv_iload_n hx hb dX5_init_66 rfl (lv_at hl 4 rfl) ?_
            refine lv_iload_n hx hb dX5_init_67 rfl (lv_at hl 3 rfl) ?_
            refine lv_iconst (v := 5) hx hb dX5_init_68 (by decide) ?_
            refine lv_bipush (v := 6) hx hb dX5_init_69 (by decide) ?_
            refine lv_iload_n hx hb dX5_init_71 rfl (lv_at hl 2 rfl) ?_
            refine lv_isub hx hb dX5_init_72 ?_
            refine lv_topi (fun x126 ex126 => ?_)
            refine lv_imul hx hb dX5_init_73 ?_
            refine lv_topi (fun x127 ex127 => ?_)
            refine lv_ishl hx hb dX5_init_74 ?_
            refine lv_topi (fun x128 ex128 => ?_)
            have hin129 : vp_in wd 29 := vp_in_iff.mpr ⟨by omega, by omega⟩
            refine va_iast (i := wd) hx hb hK hP hD hS 2 0 rfl rfl hin129 dX5_init_75 (fun H locs hP hD hS => ?_)
            have hP : va_P G vwCl [(h0, .inr (5, fs107)), (q101, .inl (cA 3, 700, .inl f102)), (q105, .inl (cA 0, 29, .inl ((upd fw (wd : Int32).toNatClampNeg x128))))] H := hP
            have hD : va_D A [(h0, .inr (5, fs107)), (q101, .inl (cA 3, 700, .inl f102)), (q105, .inl (cA 0, 29, .inl ((upd fw (wd : Int32).toNatClampNeg x128))))] := hD
            obtain ⟨f130, ef130⟩ : ∃ z : Nat → Int32, z = (upd fw (wd : Int32).toNatClampNeg x128) := ⟨_, rfl⟩
            rw [← ef130] at hP hD
            obtain ⟨x131, ex131⟩ : ∃ y : Int32, y = wd + Int32.ofInt 1 := ⟨_, rfl⟩
            refine lv_iinc (v := x131) (lv' := [(1, .int x131), (5, .int r115), (4, .int ii), (3, .int si), (2, .int le), (0, .ref h0)]) hx hb dX5_init_76 hl (k := 4) rfl ex131.symm (by decide) rfl (fun ls hl => ?_)
            refine lv_iconst (v := 0) hx hb dX5_init_79 (by decide) ?_
            refine lv_istore_n (lv' := [(2, .int 0), (1, .int x131), (5, .int r115), (4, .int ii), (3, .int si), (0, .ref h0)]) hx hb dX5_init_80 rfl hl (by decide) rfl (fun ls hl => ?_)
            refine lv_iconst (v := 0) hx hb dX5_init_81 (by decide) ?_
            refine lv_istore_n (lv' := [(3, .int 0), (2, .int 0), (1, .int x131), (5, .int r115), (4, .int ii), (0, .ref h0)]) hx hb dX5_init_82 rfl hl (by decide) rfl (fun ls hl => ?_)
            refine lv_goto (tgt := 101) hx hb dX5_init_83 (by decide) ?_
            obtain ⟨x132, ex132⟩ : ∃ y : Int32, y = ii + Int32.ofInt 1 := ⟨_, rfl⟩
            refine lv_iinc (v := x132) (lv' := [(4, .int x132), (3, .int 0), (2, .int 0), (1, .int x131), (5, .int r115), (0, .ref h0)]) hx hb dX5_init_101 hl (k := 4) rfl ex132.symm (by decide) rfl (fun ls hl => ?_)
            refine lv_goto (tgt := 30) hx hb dX5_init_104 (by decide) ?_
            have qii := tq_inc ex132 (by omega) (by omega)
            have qwd := tq_inc ex131 (by omega) (by omega)
            exact ih x131 0 0 x132 f130 H locs ls ⟨by omega, by omega⟩ ⟨by omega, by omega⟩ (by omega) (wrdI_s2 hfb hI hi (by omega) hw (by omega) hp118 c119 (by rw [ef130, ex128, ex127, ex126]) ex131 ex132) hP hD hS (lv_sub hl [0, 1, 2, 3, 5] rfl)
  exact loop 154 0 0 0 0 f106 H locs ls (by decide) (by decide) (by decide) wrdI_0 hP hD hS (lv_sub hl [0, 1, 2, 3, 4] rfl)

theorem tw_pre2 {s : State} {H : Heap} {locs : List Loc} {A : Nat → Prop} {G : va_G} {cA : Nat → ClassId} {ws wc wr : va_W} {sA vA : Nat} {fb : Nat → Int32} {av : List Value} (hp : ws.Perm (wc ++ wr)) (hP : va_P G vwCl ws H) (hD : va_D A ws) (hK : va_K G vwCl (tyL cA) s) (hN : tqN s) (hS : va_S A s.heap H locs) (hA : ∀ q : Nat, s.heap.size ≤ q → A q) (hSt : tqS sA vA fb A s s.heap) (hR : vk_R "RackTrain$Tokens" 19 tqTX sA s) : PreS s H (tqP2 G cA sA vA fb av wc H.size) av := by
  obtain ⟨hP1, hD1, -⟩ := tw_cut hp hP hD
  have hFc := tw_free hp hD hS hA
  exact ⟨tqP2.blind, fun U hU hW => ⟨rfl, by rw [hU], by rw [hU]; exact hP1, va_K.moved hW.alike hK, hD1.weaken (fun _ _ _ _ => trivial), hN.warm hW, by rw [hU]; exact ((hSt.kept hS.2.1).narrow hFc).moved hW.alike, hR.warm hW⟩⟩
theorem x5_list {u : List Value} {q1 q2 : Nat} (h : fo [.int 0, .int 0, .int 0, .int 0, .null, .null, .int 0, .int 0] u [5, 4] ∧ fh u 8 [(5, .ref q2), (4, .ref q1)]) : u = [.int 0, .int 0, .int 0, .int 0, .ref q1, .ref q2, .int 0, .int 0] := by
  obtain ⟨⟨h1, h2⟩, h3, h4⟩ := h
  have g0 := h2 0 (by decide)
  have g1 := h2 1 (by decide)
  have g2 := h2 2 (by decide)
  have g3 := h2 3 (by decide)
  have g6 := h2 6 (by decide)
  have g7 := h2 7 (by decide)
  have g4 : u[4]? = some (.ref q1) := h4 (4, .ref q1) (by simp)
  have g5 : u[5]? = some (.ref q2) := h4 (5, .ref q2) (by simp)
  apply List.ext_getElem?
  intro i
  match i with
  | 0 => exact g0
  | 1 => exact g1
  | 2 => exact g2
  | 3 => exact g3
  | 4 => exact g4
  | 5 => exact g5
  | 6 => exact g6
  | 7 => exact g7
  | k + 8 => rw [List.getElem?_eq_none (by omega), List.getElem?_eq_none (by simp)]
-- 72.d
def R0Z : Tr := fun a j => bif Nat.beq a 0 then (bif Nat.beq j 2 then -1 else 0) else 0
def Z0Z : Tr := fun a j => bif Nat.beq a 0 then (bif Nat.beq j 1 then -1 else 0) else 0
def KZ (f1 f2 : Nat → Int32) : Tr := fun a => bif Nat.beq a 5 then f1 else bif Nat.beq a 6 then f2 else fun _ => 0
theorem okZ_R (a j : Nat) : okZ (BR a j) := by
  unfold BR fullB
  repeat (first | exact (show okZ _ from ⟨by decide, by decide⟩) | refine okZ_c ?_ ?_)
theorem okZ_K (a j : Nat) : okZ (BK a j) := by
  unfold BK fullB
  repeat (first | exact (show okZ _ from ⟨by decide, by decide⟩) | refine okZ_c ?_ ?_)
theorem okZ_C (a j : Nat) : okZ (BC a j) := by
  unfold BC rB fullB
  repeat (first | exact (show okZ _ from ⟨by decide, by decide⟩) | refine okZ_c ?_ ?_)
theorem okZ_Z (a j : Nat) : okZ (BZ a j) := by
  unfold BZ fullB
  repeat (first | exact (show okZ _ from ⟨by decide, by decide⟩) | refine okZ_c ?_ ?_)
theorem okZ_X (a j : Nat) : okZ (BX a j) := by
  unfold BX fullB
  repeat (first | exact (show okZ _ from ⟨by decide, by decide⟩) | refine okZ_c ?_ ?_)
theorem iR_one {B : Nat → Nat → Int × Int} (h : ∀ a j, okZ (B a j)) {k : Nat} (hk : (B 0 k).1 ≤ -1) : iR B (fun a j => bif Nat.beq a 0 then (bif Nat.beq j k then -1 else 0) else 0) := fun a j => by
  have l0 : (0 : Int32).toInt = 0 := by decide
  have l1 : (-1 : Int32).toInt = -1 := by decide
  have z := h a j
  unfold okZ at z
  cases ha : Nat.beq a 0 with
  | false => show (B a j).1 ≤ ((bif Nat.beq a 0 then (bif Nat.beq j k then (-1 : Int32) else 0) else 0)).toInt ∧ ((bif Nat.beq a 0 then (bif Nat.beq j k then (-1 : Int32) else 0) else 0)).toInt ≤ (B a j).2; rw [ha]; exact (by rw [show (bif false then (bif Nat.beq j k then (-1 : Int32) else 0) else 0) = 0 from rfl, l0]; exact z)
  | true =>
    have ea := Nat.eq_of_beq_eq_true ha
    subst ea
    cases hj : Nat.beq j k with
    | false => show (B 0 j).1 ≤ (bif Nat.beq j k then (-1 : Int32) else 0).toInt ∧ (bif Nat.beq j k then (-1 : Int32) else 0).toInt ≤ (B 0 j).2; rw [hj]; exact (by rw [show (bif false then (-1 : Int32) else 0) = 0 from rfl, l0]; exact z)
    | true =>
      have ej := Nat.eq_of_beq_eq_true hj
      subst ej
      show (B 0 j).1 ≤ (bif Nat.beq j j then (-1 : Int32) else 0).toInt ∧ (bif Nat.beq j j then (-1 : Int32) else 0).toInt ≤ (B 0 j).2
      rw [hj]
      exact (by rw [show (bif true then (-1 : Int32) else 0) = -1 from rfl, l1]; omega)
theorem iR_R0 : iR BR R0Z := iR_one okZ_R (by decide)
theorem iR_Z0 : iR BZ Z0Z := iR_one okZ_Z (by decide)
theorem dZ_Z0 : dZ Z0Z := fun i _ => by show (0 : Int32).toInt ≤ 9; decide
theorem iR_KZ (f1 f2 : Nat → Int32) : iR BK (KZ f1 f2) := fun a j => by
  have l0 : (0 : Int32).toInt = 0 := by decide
  by_cases h0 : a = 0
  · subst h0
    have e : KZ f1 f2 0 j = 0 := rfl
    rw [e, l0]; exact okZ_K 0 j
  · have eb : BK a j = fullB := by unfold BK; rw [tq_bne h0]; rfl
    have r := i_rng (KZ f1 f2 a j)
    rw [eb]
    refine ⟨?_, ?_⟩
    · show (-2147483648 : Int) ≤ _; omega
    · show _ ≤ (2147483647 : Int); omega
-- 72.e
set_option maxHeartbeats 8000000 in
set_option maxRecDepth 100000 in
theorem k_X3_init (l : Launch) (G : va_G) (cA : Nat → ClassId) (sz : Nat) (h0 : Nat) (sA vA : Nat) (fb : Nat → Int32) (hfb : ∀ j, j < 153 → fb j = wrX j) : Met l yX3_init (.code yX3_init cX3_init 1 none :: T0) ({ frames := 5, cells := 26, slots := 1319, locals := 110 } : Room) (tqP2 G cA sA vA fb [.ref h0] ([(h0, .inr (3, [.null, .int 0, .int 0, .int 0, .null, .int 0, .int 0, .null, .int 0, .int 0]))]) sz) (tqQv G cA (fun (u : (Nat → Nat) × (Nat → Nat) × (Nat → Nat) × Tr × Tr) => u.2.1 0 = h0 ∧ iR BK u.2.2.2.1 ∧ (u.2.2.2.1 0 0 = 0 ∧ wC u.2.2.2.1) ∧ iR BP u.2.2.2.2) (fun (u : (Nat → Nat) × (Nat → Nat) × (Nat → Nat) × Tr × Tr) => List.flatten [gK cA u.1 u.2.2.2.1, gR cA u.2.1 (u.1 0) (u.2.2.1 0) R0Z, gP cA u.2.2.1 u.2.2.2.2, gL cA u.2.2.1 u.2.2.2.2 L0Z]) (va_A ([(h0, .inr (3, [.null, .int 0, .int 0, .int 0, .null, .int 0, .int 0, .null, .int 0, .int 0]))]) sz)) 26 1319 (va_A ([(h0, .inr (3, [.null, .int 0, .int 0, .int 0, .null, .int 0, .int 0, .null, .int 0, .int 0]))]) sz) := by
  refine Met.ofW (cc := cX3_init) (maxL := 1) (ret := none) (by decide) rfl ?_
  intro p e s m args below meth c s₁ B hml hv
  obtain ⟨rfl, hsz, hP, hK, hD0, hN, hSt, hR⟩ := hv
  have hx := B.exec
  have hb := B.bytes
  have hr := B.returns
  have hts := atoms_spec (ws := .code yX3_init cX3_init 1 none :: T0) B.pre
  have hT : ∀ w ∈ T0, w.before _ s = true := fun w h => hts w (List.mem_cons_of_mem _ h)
  have hown : s.vm.findClass RX3 = some m.cls := findClass_of_methodNamed B.named
  have hlocks := B.notSynchronized
  have hin : meth.name = "<init>" := (name_of_methodNamed B.named B.method).1
  subst hsz
  have hD := hD0.self (sz := s.heap.size)
  generalize hAe : va_A ([(h0, .inr (3, [.null, .int 0, .int 0, .int 0, .null, .int 0, .int 0, .null, .int 0, .int 0]))]) s.heap.size = A at hD hSt ⊢
  have hA : ∀ q : Nat, s.heap.size ≤ q → A q := fun q h => by rw [← hAe]; exact Or.inr h
  have hS : va_S A s.heap s.heap [] := va_S.rf
  have hl := lv_entry ([.ref h0]) (n := 1) (Nat.le_of_ble_eq_true rfl)
  rw [lg_entry_eq]
  generalize (lg_sl ([.ref h0]) ++ List.replicate (1 - (lg_sl ([.ref h0])).length) Slot.unset).toArray = ls at hl ⊢
  have hl : lv_has ls 1 [(0, .ref h0)] := hl
  obtain ⟨H, hH⟩ : ∃ z, z = s.heap := ⟨_, rfl⟩
  rw [← hH] at hP
  have hS : va_S A s.heap H [] := by rw [hH]; exact hS
  suffices hgo : W p l e _ s m _ below meth c H [] 0 0 _ _ by rw [hH] at hgo; exact hgo
  have hO := hN.2.2.2.2
  have hP : va_P G vwCl (List.flatten [[(h0, .inr (3, [.null, .int 0, .int 0, .int 0, .null, .int 0, .int 0, .null, .int 0, .int 0]))]]) H := hP
  have hD : va_D A (List.flatten [[(h0, .inr (3, [.null, .int 0, .int 0, .int 0, .null, .int 0, .int 0, .null, .int 0, .int 0]))]]) := hD
  refine lv_aload_n hx hb dX3_init_0 rfl (lv_at hl 0 rfl) ?_
  refine W.objInit hx hb hown (hT _ kw_2_19) (hT _ kw_1_11) (hT _ kw_1_12) rfl (by rw [hml]; exact hl.1) rfl dX3_init_1 (Nat.le_of_ble_eq_true rfl) (Nat.le_of_ble_eq_true rfl) ?_
  refine W.eq (g2 := F0 m 4 ls []) rfl ?_
  refine lv_aload_n hx hb dX3_init_4 rfl (lv_at hl 0 rfl) ?_
  refine va_new (ci := 5) (fs := [.int 0, .int 0, .int 0, .int 0, .null, .null, .int 0, .int 0]) (C := RX5) (T := TX5) (N := 8) hx hb hT ku_5 tyX5 tyX5_ok hown (hT _ kw_2_20) (hT _ kw_2_21) (hT _ kw_2_22) hK hP hD hS hA rfl tq_dfX5 (Nat.le_of_ble_eq_true rfl) (Nat.le_of_ble_eq_true rfl) dX3_init_5 (fun q1 H hP hD hS => ?_)
  refine W.widen (k := 1) (n := 8) (Nat.le_of_ble_eq_true rfl) (Nat.le_of_ble_eq_true rfl) ?_
  have hP : va_P G vwCl (List.flatten [[(h0, .inr (3, [.null, .int 0, .int 0, .int 0, .null, .int 0, .int 0, .null, .int 0, .int 0]))], [(q1, .inr (5, [.int 0, .int 0, .int 0, .int 0, .null, .null, .int 0, .int 0]))]]) H := by rw [fl_app] at hP; exact hP
  have hD : va_D A (List.flatten [[(h0, .inr (3, [.null, .int 0, .int 0, .int 0, .null, .int 0, .int 0, .null, .int 0, .int 0]))], [(q1, .inr (5, [.int 0, .int 0, .int 0, .int 0, .null, .null, .int 0, .int 0]))]]) := by rw [fl_app] at hD; exact hD
  refine lv_dup hx hb dX3_init_8 rfl ?_
  have pm := (pk_flat (α := Nat × va_E) (sel := [[(q1, .inr (5, [.int 0, .int 0, .int 0, .int 0, .null, .null, .int 0, .int 0]))]]) (oth := [[(h0, .inr (3, [.null, .int 0, .int 0, .int 0, .null, .int 0, .int 0, .null, .int 0, .int 0]))]]) ((by decide : List.Perm [0, 1] [1, 0]).map (fun k => List.getD [([(h0, .inr (3, [.null, .int 0, .int 0, .int 0, .null, .int 0, .int 0, .null, .int 0, .int 0]))] : va_W), ([(q1, .inr (5, [.int 0, .int 0, .int 0, .int 0, .null, .null, .int 0, .int 0]))] : va_W)] k [])))
  refine tw_cvm pm hP hD hS hA (va_runI (As := []) (rest := [.ref q1, .ref h0]) ⟨hx, hb, hml, hown, hT⟩ (c_X5_init l G cA H.size q1 [.int 0, .int 0, .int 0, .int 0, .null, .null, .int 0, .int 0] sA vA fb hfb fh_dfX5) (cwI 0 hT (tq_gC kw_3_8) rfl rfl rfl (hT _ kw_2_22) (hT _ kw_3_6) (hT _ kw_3_7) rfl (by decide +kernel) ⟨Nat.le_of_ble_eq_true rfl, Nat.le_of_ble_eq_true rfl⟩) (tw_pre2 pm hP hD hK hN hS hA hSt hR) rfl rfl hl.1 rfl (lv_room (Nat.le_of_ble_eq_true rfl)) dX3_init_9 ⟨Nat.le_of_ble_eq_true rfl, Nat.le_of_ble_eq_true rfl⟩) (fun u H locs hw hP3 hD3 hS3 => ?_)
  refine W.widen (k := 3) (n := 737) (Nat.le_of_ble_eq_true rfl) (Nat.le_of_ble_eq_true rfl) ?_
  obtain ⟨fsK, tp, f1, wd, f2⟩ := u
  have hu : fsK = [.int 0, .int 0, .int 0, .int 0, .ref tp, .ref wd, .int 0, .int 0] := x5_list hw.1
  have hwC := hw.2
  subst hu
  have hS := hS3
  have pm2 := (pk_all (α := Nat × va_E) (a := 1) (it := [([(q1, .inr (5, [.int 0, .int 0, .int 0, .int 0, .ref tp, .ref wd, .int 0, .int 0])), (tp, .inl (cA 3, 700, .inl f1)), (wd, .inl (cA 0, 29, .inl f2))] : va_W), ([(h0, .inr (3, [.null, .int 0, .int 0, .int 0, .null, .int 0, .int 0, .null, .int 0, .int 0]))] : va_W)]) (by decide : List.Perm [0, 1] [1, 0]))
  have hP : va_P G vwCl (List.flatten [[(h0, .inr (3, [.null, .int 0, .int 0, .int 0, .null, .int 0, .int 0, .null, .int 0, .int 0]))], [(q1, .inr (5, [.int 0, .int 0, .int 0, .int 0, .ref tp, .ref wd, .int 0, .int 0])), (tp, .inl (cA 3, 700, .inl f1)), (wd, .inl (cA 0, 29, .inl f2))]]) H := tw_P pm2 hP3
  have hD : va_D A (List.flatten [[(h0, .inr (3, [.null, .int 0, .int 0, .int 0, .null, .int 0, .int 0, .null, .int 0, .int 0]))], [(q1, .inr (5, [.int 0, .int 0, .int 0, .int 0, .ref tp, .ref wd, .int 0, .int 0])), (tp, .inl (cA 3, 700, .inl f1)), (wd, .inl (cA 0, 29, .inl f2))]]) := tw_D pm2 hD3
  refine va_putF (D := G) (ci := 3) (v := .ref q1) (ty := (.object "RackTrain$Tokens")) (C := RX3) (T := TX3) (N := 10) hx hb hT ku_3 tyX3 tyX3_ok nmX3 hown hK hP hD hS 0 rfl rfl 0 (by decide) (hT _ kw_2_23) (fun _ h9 => h9) rfl hin rfl (by decide +kernel) rfl rfl (Nat.le_of_ble_eq_true rfl) dX3_init_12 (fun H locs hP hD hS => ?_)
  have hP : va_P G vwCl (List.flatten [[(h0, .inr (3, [.ref q1, .int 0, .int 0, .int 0, .null, .int 0, .int 0, .null, .int 0, .int 0]))], [(q1, .inr (5, [.int 0, .int 0, .int 0, .int 0, .ref tp, .ref wd, .int 0, .int 0])), (tp, .inl (cA 3, 700, .inl f1)), (wd, .inl (cA 0, 29, .inl f2))]]) H := hP
  have hD : va_D A (List.flatten [[(h0, .inr (3, [.ref q1, .int 0, .int 0, .int 0, .null, .int 0, .int 0, .null, .int 0, .int 0]))], [(q1, .inr (5, [.int 0, .int 0, .int 0, .int 0, .ref tp, .ref wd, .int 0, .int 0])), (tp, .inl (cA 3, 700, .inl f1)), (wd, .inl (cA 0, 29, .inl f2))]]) := hD
  refine lv_aload_n hx hb dX3_init_15 rfl (lv_at hl 0 rfl) ?_
  refine lv_iconst (v := 0) hx hb dX3_init_16 (by decide) ?_
  refine va_put (D := G) (ci := 3) (v := .int 0) (ty := .int) (C := RX3) (T := TX3) (N := 10) hx hb hT ku_3 tyX3 tyX3_ok nmX3 hown hK hP hD hS 0 rfl rfl 1 (by decide) (hT _ kw_3_0) (fun _ h9 => h9) rfl (by decide +kernel) rfl rfl (Nat.le_of_ble_eq_true rfl) dX3_init_17 (fun H locs hP hD hS => ?_)
  have hP : va_P G vwCl (List.flatten [[(h0, .inr (3, [.ref q1, .int 0, .int 0, .int 0, .null, .int 0, .int 0, .null, .int 0, .int 0]))], [(q1, .inr (5, [.int 0, .int 0, .int 0, .int 0, .ref tp, .ref wd, .int 0, .int 0])), (tp, .inl (cA 3, 700, .inl f1)), (wd, .inl (cA 0, 29, .inl f2))]]) H := hP
  have hD : va_D A (List.flatten [[(h0, .inr (3, [.ref q1, .int 0, .int 0, .int 0, .null, .int 0, .int 0, .null, .int 0, .int 0]))], [(q1, .inr (5, [.int 0, .int 0, .int 0, .int 0, .ref tp, .ref wd, .int 0, .int 0])), (tp, .inl (cA 3, 700, .inl f1)), (wd, .inl (cA 0, 29, .inl f2))]]) := hD
  refine lv_aload_n hx hb dX3_init_20 rfl (lv_at hl 0 rfl) ?_
  refine lv_iconst (v := (-1)) hx hb dX3_init_21 (by decide) ?_
  refine va_put (D := G) (ci := 3) (v := .int (-1)) (ty := .int) (C := RX3) (T := TX3) (N := 10) hx hb hT ku_3 tyX3 tyX3_ok nmX3 hown hK hP hD hS 0 rfl rfl 2 (by decide) (hT _ kw_3_1) (fun _ h9 => h9) rfl (by decide +kernel) rfl rfl (Nat.le_of_ble_eq_true rfl) dX3_init_22 (fun H locs hP hD hS => ?_)
  have hP : va_P G vwCl (List.flatten [[(h0, .inr (3, [.ref q1, .int 0, .int (-1), .int 0, .null, .int 0, .int 0, .null, .int 0, .int 0]))], [(q1, .inr (5, [.int 0, .int 0, .int 0, .int 0, .ref tp, .ref wd, .int 0, .int 0])), (tp, .inl (cA 3, 700, .inl f1)), (wd, .inl (cA 0, 29, .inl f2))]]) H := hP
  have hD : va_D A (List.flatten [[(h0, .inr (3, [.ref q1, .int 0, .int (-1), .int 0, .null, .int 0, .int 0, .null, .int 0, .int 0]))], [(q1, .inr (5, [.int 0, .int 0, .int 0, .int 0, .ref tp, .ref wd, .int 0, .int 0])), (tp, .inl (cA 3, 700, .inl f1)), (wd, .inl (cA 0, 29, .inl f2))]]) := hD
  refine lv_aload_n hx hb dX3_init_25 rfl (lv_at hl 0 rfl) ?_
  refine lv_iconst (v := 0) hx hb dX3_init_26 (by decide) ?_
  refine va_put (D := G) (ci := 3) (v := .int 0) (ty := .int) (C := RX3) (T := TX3) (N := 10) hx hb hT ku_3 tyX3 tyX3_ok nmX3 hown hK hP hD hS 0 rfl rfl 3 (by decide) (hT _ kw_3_2) (fun _ h9 => h9) rfl (by decide +kernel) rfl rfl (Nat.le_of_ble_eq_true rfl) dX3_init_27 (fun H locs hP hD hS => ?_)
  have hP : va_P G vwCl (List.flatten [[(h0, .inr (3, [.ref q1, .int 0, .int (-1), .int 0, .null, .int 0, .int 0, .null, .int 0, .int 0]))], [(q1, .inr (5, [.int 0, .int 0, .int 0, .int 0, .ref tp, .ref wd, .int 0, .int 0])), (tp, .inl (cA 3, 700, .inl f1)), (wd, .inl (cA 0, 29, .inl f2))]]) H := hP
  have hD : va_D A (List.flatten [[(h0, .inr (3, [.ref q1, .int 0, .int (-1), .int 0, .null, .int 0, .int 0, .null, .int 0, .int 0]))], [(q1, .inr (5, [.int 0, .int 0, .int 0, .int 0, .ref tp, .ref wd, .int 0, .int 0])), (tp, .inl (cA 3, 700, .inl f1)), (wd, .inl (cA 0, 29, .inl f2))]]) := hD
  refine lv_aload_n hx hb dX3_init_30 rfl (lv_at hl 0 rfl) ?_
  refine va_new (ci := 2) (fs := [.int 0, .int 0, .int 0, .int 0, .int 0, .int 0, .int 0, .null, .null, .null, .null, .null, .null, .null, .null, .null, .null, .null, .null]) (C := RX2) (T := TX2) (N := 19) hx hb hT ku_2 tyX2 tyX2_ok hown (hT _ kw_3_3) (hT _ kw_1_18) (hT _ kw_1_19) hK hP hD hS hA rfl tq_dfX2 (Nat.le_of_ble_eq_true rfl) (Nat.le_of_ble_eq_true rfl) dX3_init_31 (fun q2 H hP hD hS => ?_)
  refine W.widen (k := 4) (n := 756) (Nat.le_of_ble_eq_true rfl) (Nat.le_of_ble_eq_true rfl) ?_
  have hP : va_P G vwCl (List.flatten [[(h0, .inr (3, [.ref q1, .int 0, .int (-1), .int 0, .null, .int 0, .int 0, .null, .int 0, .int 0]))], [(q1, .inr (5, [.int 0, .int 0, .int 0, .int 0, .ref tp, .ref wd, .int 0, .int 0])), (tp, .inl (cA 3, 700, .inl f1)), (wd, .inl (cA 0, 29, .inl f2))], [(q2, .inr (2, [.int 0, .int 0, .int 0, .int 0, .int 0, .int 0, .int 0, .null, .null, .null, .null, .null, .null, .null, .null, .null, .null, .null, .null]))]]) H := by rw [fl_app] at hP; exact hP
  have hD : va_D A (List.flatten [[(h0, .inr (3, [.ref q1, .int 0, .int (-1), .int 0, .null, .int 0, .int 0, .null, .int 0, .int 0]))], [(q1, .inr (5, [.int 0, .int 0, .int 0, .int 0, .ref tp, .ref wd, .int 0, .int 0])), (tp, .inl (cA 3, 700, .inl f1)), (wd, .inl (cA 0, 29, .inl f2))], [(q2, .inr (2, [.int 0, .int 0, .int 0, .int 0, .int 0, .int 0, .int 0, .null, .null, .null, .null, .null, .null, .null, .null, .null, .null, .null, .null]))]]) := by rw [fl_app] at hD; exact hD
  refine lv_dup hx hb dX3_init_34 rfl ?_
  have pm := (pk_flat (α := Nat × va_E) (sel := [[(q2, .inr (2, [.int 0, .int 0, .int 0, .int 0, .int 0, .int 0, .int 0, .null, .null, .null, .null, .null, .null, .null, .null, .null, .null, .null, .null]))]]) (oth := [[(h0, .inr (3, [.ref q1, .int 0, .int (-1), .int 0, .null, .int 0, .int 0, .null, .int 0, .int 0]))], [(q1, .inr (5, [.int 0, .int 0, .int 0, .int 0, .ref tp, .ref wd, .int 0, .int 0])), (tp, .inl (cA 3, 700, .inl f1)), (wd, .inl (cA 0, 29, .inl f2))]]) ((by decide : List.Perm [0, 1, 2] [2, 0, 1]).map (fun k => List.getD [([(h0, .inr (3, [.ref q1, .int 0, .int (-1), .int 0, .null, .int 0, .int 0, .null, .int 0, .int 0]))] : va_W), ([(q1, .inr (5, [.int 0, .int 0, .int 0, .int 0, .ref tp, .ref wd, .int 0, .int 0])), (tp, .inl (cA 3, 700, .inl f1)), (wd, .inl (cA 0, 29, .inl f2))] : va_W), ([(q2, .inr (2, [.int 0, .int 0, .int 0, .int 0, .int 0, .int 0, .int 0, .null, .null, .null, .null, .null, .null, .null, .null, .null, .null, .null, .null]))] : va_W)] k [])))
  refine tw_cvm pm hP hD hS hA (va_runI (As := []) (rest := [.ref q2, .ref h0]) ⟨hx, hb, hml, hown, hT⟩ (k_X2_init l G cA H.size q2) (cwI 0 hT (tq_gC kw_5_16) rfl rfl rfl (hT _ kw_1_19) (hT _ kw_5_14) (hT _ kw_5_15) rfl (by decide +kernel) ⟨Nat.le_of_ble_eq_true rfl, Nat.le_of_ble_eq_true rfl⟩) (tw_pre pm hP hD hK hN) rfl rfl hl.1 rfl (lv_room (Nat.le_of_ble_eq_true rfl)) dX3_init_35 ⟨Nat.le_of_ble_eq_true rfl, Nat.le_of_ble_eq_true rfl⟩) (fun u H locs hw hP25 hD25 hS25 => ?_)
  refine W.widen (k := 25) (n := 1247) (Nat.le_of_ble_eq_true rfl) (Nat.le_of_ble_eq_true rfl) ?_
  obtain ⟨pa, P⟩ := u
  obtain ⟨e9, hPb, _⟩ := hw
  have e9 : pa 0 = q2 := e9
  have hPb : iR BP P := hPb
  subst e9
  have hS := hS25
  have pm2 := (pk_all (α := Nat × va_E) (a := 2) (it := [(gP cA pa P : va_W), (gL cA pa P L0Z : va_W), ([(h0, .inr (3, [.ref q1, .int 0, .int (-1), .int 0, .null, .int 0, .int 0, .null, .int 0, .int 0]))] : va_W), ([(q1, .inr (5, [.int 0, .int 0, .int 0, .int 0, .ref tp, .ref wd, .int 0, .int 0])), (tp, .inl (cA 3, 700, .inl f1)), (wd, .inl (cA 0, 29, .inl f2))] : va_W)]) (by decide : List.Perm [0, 1, 2, 3] [2, 3, 0, 1]))
  have hP : va_P G vwCl (List.flatten [[(h0, .inr (3, [.ref q1, .int 0, .int (-1), .int 0, .null, .int 0, .int 0, .null, .int 0, .int 0]))], [(q1, .inr (5, [.int 0, .int 0, .int 0, .int 0, .ref tp, .ref wd, .int 0, .int 0])), (tp, .inl (cA 3, 700, .inl f1)), (wd, .inl (cA 0, 29, .inl f2))], gP cA pa P, gL cA pa P L0Z]) H := tw_P pm2 hP25
  have hD : va_D A (List.flatten [[(h0, .inr (3, [.ref q1, .int 0, .int (-1), .int 0, .null, .int 0, .int 0, .null, .int 0, .int 0]))], [(q1, .inr (5, [.int 0, .int 0, .int 0, .int 0, .ref tp, .ref wd, .int 0, .int 0])), (tp, .inl (cA 3, 700, .inl f1)), (wd, .inl (cA 0, 29, .inl f2))], gP cA pa P, gL cA pa P L0Z]) := tw_D pm2 hD25
  refine va_put (D := G) (ci := 3) (v := .ref (pa 0)) (ty := (.object "RackTrain$Plan")) (C := RX3) (T := TX3) (N := 10) hx hb hT ku_3 tyX3 tyX3_ok nmX3 hown hK hP hD hS 0 rfl rfl 4 (by decide) (hT _ kw_3_4) (fun _ h9 => h9) rfl (by decide +kernel) rfl rfl (Nat.le_of_ble_eq_true rfl) dX3_init_38 (fun H locs hP hD hS => ?_)
  have hP : va_P G vwCl (List.flatten [[(h0, .inr (3, [.ref q1, .int 0, .int (-1), .int 0, .ref (pa 0), .int 0, .int 0, .null, .int 0, .int 0]))], [(q1, .inr (5, [.int 0, .int 0, .int 0, .int 0, .ref tp, .ref wd, .int 0, .int 0])), (tp, .inl (cA 3, 700, .inl f1)), (wd, .inl (cA 0, 29, .inl f2))], gP cA pa P, gL cA pa P L0Z]) H := hP
  have hD : va_D A (List.flatten [[(h0, .inr (3, [.ref q1, .int 0, .int (-1), .int 0, .ref (pa 0), .int 0, .int 0, .null, .int 0, .int 0]))], [(q1, .inr (5, [.int 0, .int 0, .int 0, .int 0, .ref tp, .ref wd, .int 0, .int 0])), (tp, .inl (cA 3, 700, .inl f1)), (wd, .inl (cA 0, 29, .inl f2))], gP cA pa P, gL cA pa P L0Z]) := hD
  refine lv_aload_n hx hb dX3_init_41 rfl (lv_at hl 0 rfl) ?_
  refine lv_bipush (v := 72) hx hb dX3_init_42 (by decide) ?_
  refine tq_newa (atype := .int) (ty := .int) (n := 72) (N' := 72) (a0 := (72, .inl (fun _ => 0))) hx hb (hT _ kw_2_13) rfl hK hP hD hS hA 0 (cA 0) rfl (fun _ => rfl) (by decide) (by decide) (by decide) (Nat.le_of_ble_eq_true rfl) (Nat.le_of_ble_eq_true rfl) dX3_init_44 (fun q3 H hP hD hS => ?_)
  refine W.widen (k := 26) (n := 1319) (Nat.le_of_ble_eq_true rfl) (Nat.le_of_ble_eq_true rfl) ?_
  have hP : va_P G vwCl (List.flatten [[(h0, .inr (3, [.ref q1, .int 0, .int (-1), .int 0, .ref (pa 0), .int 0, .int 0, .null, .int 0, .int 0]))], [(q1, .inr (5, [.int 0, .int 0, .int 0, .int 0, .ref tp, .ref wd, .int 0, .int 0])), (tp, .inl (cA 3, 700, .inl f1)), (wd, .inl (cA 0, 29, .inl f2))], gP cA pa P, gL cA pa P L0Z, [(q3, .inl (cA 0, 72, .inl (fun _ => 0)))]]) H := by rw [fl_app] at hP; exact hP
  have hD : va_D A (List.flatten [[(h0, .inr (3, [.ref q1, .int 0, .int (-1), .int 0, .ref (pa 0), .int 0, .int 0, .null, .int 0, .int 0]))], [(q1, .inr (5, [.int 0, .int 0, .int 0, .int 0, .ref tp, .ref wd, .int 0, .int 0])), (tp, .inl (cA 3, 700, .inl f1)), (wd, .inl (cA 0, 29, .inl f2))], gP cA pa P, gL cA pa P L0Z, [(q3, .inl (cA 0, 72, .inl (fun _ => 0)))]]) := by rw [fl_app] at hD; exact hD
  refine va_putF (D := G) (ci := 3) (v := .ref q3) (ty := (.array .int)) (C := RX3) (T := TX3) (N := 10) hx hb hT ku_3 tyX3 tyX3_ok nmX3 hown hK hP hD hS 0 rfl rfl 7 (by decide) (hT _ kw_3_5) (fun _ h9 => h9) rfl hin rfl (by decide +kernel) rfl rfl (Nat.le_of_ble_eq_true rfl) dX3_init_46 (fun H locs hP hD hS => ?_)
  have hP : va_P G vwCl (List.flatten [[(h0, .inr (3, [.ref q1, .int 0, .int (-1), .int 0, .ref (pa 0), .int 0, .int 0, .ref q3, .int 0, .int 0]))], [(q1, .inr (5, [.int 0, .int 0, .int 0, .int 0, .ref tp, .ref wd, .int 0, .int 0])), (tp, .inl (cA 3, 700, .inl f1)), (wd, .inl (cA 0, 29, .inl f2))], gP cA pa P, gL cA pa P L0Z, [(q3, .inl (cA 0, 72, .inl (fun _ => 0)))]]) H := hP
  have hD : va_D A (List.flatten [[(h0, .inr (3, [.ref q1, .int 0, .int (-1), .int 0, .ref (pa 0), .int 0, .int 0, .ref q3, .int 0, .int 0]))], [(q1, .inr (5, [.int 0, .int 0, .int 0, .int 0, .ref tp, .ref wd, .int 0, .int 0])), (tp, .inl (cA 3, 700, .inl f1)), (wd, .inl (cA 0, 29, .inl f2))], gP cA pa P, gL cA pa P L0Z, [(q3, .inl (cA 0, 72, .inl (fun _ => 0)))]]) := hD
  have pm := (pk_flat (α := Nat × va_E) (sel := [[(q1, .inr (5, [.int 0, .int 0, .int 0, .int 0, .ref tp, .ref wd, .int 0, .int 0])), (tp, .inl (cA 3, 700, .inl f1)), (wd, .inl (cA 0, 29, .inl f2))], [(h0, .inr (3, [.ref q1, .int 0, .int (-1), .int 0, .ref (pa 0), .int 0, .int 0, .ref q3, .int 0, .int 0]))], [(q3, .inl (cA 0, 72, .inl (fun _ => 0)))], gP cA pa P, gL cA pa P L0Z]) (oth := []) ((by decide : List.Perm [0, 1, 2, 3, 4] [1, 0, 4, 2, 3]).map (fun k => List.getD [([(h0, .inr (3, [.ref q1, .int 0, .int (-1), .int 0, .ref (pa 0), .int 0, .int 0, .ref q3, .int 0, .int 0]))] : va_W), ([(q1, .inr (5, [.int 0, .int 0, .int 0, .int 0, .ref tp, .ref wd, .int 0, .int 0])), (tp, .inl (cA 3, 700, .inl f1)), (wd, .inl (cA 0, 29, .inl f2))] : va_W), (gP cA pa P : va_W), (gL cA pa P L0Z : va_W), ([(q3, .inl (cA 0, 72, .inl (fun _ => 0)))] : va_W)] k [])))
  have hP : va_P G vwCl (List.flatten [gK cA (fun k => bif Nat.beq k 5 then tp else bif Nat.beq k 6 then wd else q1) (KZ f1 f2), gR cA (fun k => bif Nat.beq k 8 then q3 else h0) ((fun k => bif Nat.beq k 5 then tp else bif Nat.beq k 6 then wd else q1) 0) (pa 0) R0Z, gP cA pa P, gL cA pa P L0Z]) H := by have h9 := tw_P pm hP; rw [List.flatten_nil, List.append_nil] at h9; exact h9
  have hD : va_D A (List.flatten [gK cA (fun k => bif Nat.beq k 5 then tp else bif Nat.beq k 6 then wd else q1) (KZ f1 f2), gR cA (fun k => bif Nat.beq k 8 then q3 else h0) ((fun k => bif Nat.beq k 5 then tp else bif Nat.beq k 6 then wd else q1) 0) (pa 0) R0Z, gP cA pa P, gL cA pa P L0Z]) := by have h9 := tw_D pm hD; rw [List.flatten_nil, List.append_nil] at h9; exact h9
  exact W.vret hx hb hr (fun t ht hW => ⟨⟨((fun k => bif Nat.beq k 5 then tp else bif Nat.beq k 6 then wd else q1), (fun k => bif Nat.beq k 8 then q3 else h0), pa, KZ f1 f2, P), rfl, ⟨rfl, iR_KZ f1 f2, ⟨rfl, fun j hj => hwC j hj⟩, hPb⟩, by rw [ht]; exact hP, hD⟩, hS.F ht⟩) hS.2.2 dX3_init_49
