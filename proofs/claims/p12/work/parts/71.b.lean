def fB_X2_clear_p_L59  (k59 : Int32 → Tr → Option (Tr)) (x1 : Int32) (P : Tr) : Option (Tr) :=
  if 3 ≤ x1 then (some P) else (ck (okI x1 3) (lt (st P (30 + 3 * x1.toNatClampNeg) 1 0) fun P_11 => lt (x1 + 1) fun y12 => k59 y12 P_11))
def fL_X2_clear_p_L59  : Int32 → Tr → Option (Tr) := lpF (fun _ _ => none) (fB_X2_clear_p_L59 ) 2000
def fB_X2_clear_p_L37  (k37 : Int32 → Tr → Option (Tr)) (x1 : Int32) (P : Tr) : Option (Tr) :=
  if 20 < x1 then (fL_X2_clear_p_L59  0 P) else (ck (okI x1 21) (lt (st P 18 x1.toNatClampNeg 60) fun P_14 => lt (x1 + 1) fun y15 => k37 y15 P_14))
def fL_X2_clear_p_L37  : Int32 → Tr → Option (Tr) := lpF (fun _ _ => none) (fB_X2_clear_p_L37 ) 2000
def f_X2_clear_p (P : Tr) : Option (Tr) :=
  lt (st P 0 0 0) fun P_1 => lt (st P_1 0 1 0) fun P_2 => lt (st P_2 0 2 0) fun P_3 => lt (st P_3 0 3 0) fun P_4 => lt (st P_4 0 4 0) fun P_5 => lt (st P_5 0 5 0) fun P_6 => lt (st P_6 0 6 0) fun P_7 => fL_X2_clear_p_L37  0 P_7
abbrev G_X2_clear_p (p : Program) (l : Launch) (e : Env) (s : State) (m : MethodId) (below : List Frame) (meth : Method) (c : Code) (G : va_G) (cA : Nat → ClassId) (A : Nat → Prop) (pa : Nat → Nat) (L : Lo) (P' : Tr) (H : Heap) (locs : List Loc) (g : JFrame) : Prop := W p l e (headSpec (.code yX2_clear cX2_clear 2 none :: T0) ({ frames := 0, cells := 0, slots := 0, locals := 0 } : Room)).room s m ([.ref (pa 0)] : List Value).toArray below meth c H locs 0 0 (MQ below (tqQv G cA (fun (_ : Unit) => True) (fun (_ : Unit) => wPL cA pa (P') L) A) ([.ref (pa 0)] : List Value).toArray s 0 0 A) g
set_option maxHeartbeats 4000000 in
set_option maxRecDepth 100000 in
theorem w_X2_clear_p_L59 {p : Program} {l : Launch} {e : Env} {s : State} {m : MethodId} {below : List Frame} {meth : Method} {c : Code} {G : va_G} {cA : Nat → ClassId} {A : Nat → Prop} {pa : Nat → Nat} {L : Lo} {P' : Tr} (F : tF p s m ([.ref (pa 0)] : List Value).toArray meth c G cA A RX2 cX2_clear 2 none)    (N : Nat) : ∀ (x1 : Int32) (P : Tr) (H : Heap) (locs : List Loc) (ls : Array Slot), lpF (fun _ _ => none) (fB_X2_clear_p_L59 ) N x1 P = some P' → va_P G vwCl (wPL cA pa P L) H → va_D A (wPL cA pa P L) → va_S A s.heap H locs → lv_has ls 2 [(0, .ref (pa 0)), (1, .int x1)] → G_X2_clear_p p l e s m below meth c G cA A pa L P' H locs (F0 m 59 ls []) := by
  obtain ⟨hx, hb, hr, hml, hT, hown, hlocks, hK, hN, hA⟩ := id F
  induction N with
  | zero =>
    intro x1 P H locs ls h
    have h : (none : Option (Tr)) = some P' := h
    cases h
  | succ N hk59 =>
    intro x1 P H locs ls h hP hD hS hl
    have h : fB_X2_clear_p_L59  (lpF (fun _ _ => none) (fB_X2_clear_p_L59 ) N) x1 P = some P' := h
    generalize hk59e : lpF (fun _ _ => none) (fB_X2_clear_p_L59 ) N = k59 at h hk59
    unfold fB_X2_clear_p_L59 at h
    refine lv_iload_n hx hb dX2_clear_59 rfl (lv_at hl 1 rfl) ?_
    refine lv_iconst (v := 3) hx hb dX2_clear_60 (by decide) ?_
    refine lv_icmp_ge (tgt := 80) hx hb dX2_clear_61 (by decide) (fun c9 => ?_) (fun c9 => ?_)
    · have h := tx_pos c9 h
      obtain rfl := tx_1 h
      exact W.vret hx hb hr (fun t ht hW => ⟨⟨(), rfl, trivial, by rw [ht]; exact hP, hD⟩, hS.F ht⟩) hS.2.2 dX2_clear_80
    · have h := tx_neg c9 h
      refine lv_aload_n hx hb dX2_clear_64 rfl (lv_at hl 0 rfl) ?_
      refine va_get (D := G) (ci := 2) (v := .ref (pa 19)) (C := RX2) (T := TX2) (N := 19) hx hb hT ku_2 hown hK hP 0 rfl rfl 18 (by decide) (hT _ kw_6_6) (fun _ h9 => h9) rfl dX2_clear_65 ?_
      refine lv_iload_n hx hb dX2_clear_68 rfl (lv_at hl 1 rfl) ?_
      obtain ⟨g10, h⟩ := tx_ck h
      refine va_aldq (i := x1) hx hb hK hP 12 4 rfl rfl (tx_in g10) dX2_clear_69 ?_
      refine W.eq (g2 := F0 m 70 ls (.ref (pa (30 + 3 * x1.toNatClampNeg)) :: [])) (by rw [lawsf_at _ (tx_n3 g10)]; rfl) ?_
      refine lv_iconst (v := 0) hx hb dX2_clear_70 (by decide) ?_
      refine va_put (D := G) (ci := 1) (v := .int 0) (ty := .int) (C := RX1) (T := TX1) (N := 3) hx hb hT ku_1 tyX1 tyX1_ok nmX1 hown hK hP hD hS (13 + 3 * x1.toNatClampNeg) (aLPL_0 (tx_n3 g10)) rfl 1 (by decide) (hT _ kw_7_1) (fun _ h9 => h9) rfl (by decide +kernel) rfl rfl (Nat.le_of_ble_eq_true rfl) dX2_clear_71 (fun H locs hP hD hS => ?_)
      obtain ⟨P_11, eP_11, h⟩ := tx_lt h
      rw [(sLPL_f1 (tx_n3 g10)), eP_11] at hP hD
      obtain ⟨y12, ey12, h⟩ := tx_lt h
      refine lv_iinc (v := y12) (lv' := [(1, .int y12), (0, .ref (pa 0))]) hx hb dX2_clear_74 hl (k := 1) rfl ey12 (by decide) rfl (fun ls hl => ?_)
      refine lv_goto (tgt := 59) hx hb dX2_clear_77 (by decide) ?_
      exact hk59 y12 P_11 H locs ls h hP hD hS (lv_sub hl [1, 0] rfl)
set_option maxHeartbeats 4000000 in
set_option maxRecDepth 100000 in
theorem w_X2_clear_p_L37 {p : Program} {l : Launch} {e : Env} {s : State} {m : MethodId} {below : List Frame} {meth : Method} {c : Code} {G : va_G} {cA : Nat → ClassId} {A : Nat → Prop} {pa : Nat → Nat} {L : Lo} {P' : Tr} (F : tF p s m ([.ref (pa 0)] : List Value).toArray meth c G cA A RX2 cX2_clear 2 none)    (N : Nat) : ∀ (x1 : Int32) (P : Tr) (H : Heap) (locs : List Loc) (ls : Array Slot), lpF (fun _ _ => none) (fB_X2_clear_p_L37 ) N x1 P = some P' → va_P G vwCl (wPL cA pa P L) H → va_D A (wPL cA pa P L) → va_S A s.heap H locs → lv_has ls 2 [(0, .ref (pa 0)), (1, .int x1)] → G_X2_clear_p p l e s m below meth c G cA A pa L P' H locs (F0 m 37 ls []) := by
  obtain ⟨hx, hb, hr, hml, hT, hown, hlocks, hK, hN, hA⟩ := id F
  induction N with
  | zero =>
    intro x1 P H locs ls h
    have h : (none : Option (Tr)) = some P' := h
    cases h
  | succ N hk37 =>
    intro x1 P H locs ls h hP hD hS hl
    have h : fB_X2_clear_p_L37  (lpF (fun _ _ => none) (fB_X2_clear_p_L37 ) N) x1 P = some P' := h
    generalize hk37e : lpF (fun _ _ => none) (fB_X2_clear_p_L37 ) N = k37 at h hk37
    unfold fB_X2_clear_p_L37 at h
    refine lv_iload_n hx hb dX2_clear_37 rfl (lv_at hl 1 rfl) ?_
    refine lv_bipush (v := 20) hx hb dX2_clear_38 (by decide) ?_
    refine lv_icmp_gt (tgt := 57) hx hb dX2_clear_40 (by decide) (fun c8 => ?_) (fun c8 => ?_)
    · have h := tx_pos c8 h
      refine lv_iconst (v := 0) hx hb dX2_clear_57 (by decide) ?_
      refine lv_istore_n (lv' := [(1, .int 0), (0, .ref (pa 0))]) hx hb dX2_clear_58 rfl hl (by decide) rfl (fun ls hl => ?_)
      exact w_X2_clear_p_L59 F 2000 0 P H locs ls h hP hD hS (lv_sub hl [1, 0] rfl)
    · have h := tx_neg c8 h
      refine lv_aload_n hx hb dX2_clear_43 rfl (lv_at hl 0 rfl) ?_
      refine va_get (D := G) (ci := 2) (v := .ref (pa 18)) (C := RX2) (T := TX2) (N := 19) hx hb hT ku_2 hown hK hP 0 rfl rfl 17 (by decide) (hT _ kw_6_4) (fun _ h9 => h9) rfl dX2_clear_44 ?_
      refine lv_iload_n hx hb dX2_clear_47 rfl (lv_at hl 1 rfl) ?_
      refine lv_bipush (v := 60) hx hb dX2_clear_48 (by decide) ?_
      obtain ⟨g13, h⟩ := tx_ck h
      refine va_iast (i := x1) hx hb hK hP hD hS 11 0 rfl rfl (tx_in g13) dX2_clear_50 (fun H locs hP hD hS => ?_)
      obtain ⟨P_14, eP_14, h⟩ := tx_lt h
      rw [sPL_pa_a17, eP_14] at hP hD
      obtain ⟨y15, ey15, h⟩ := tx_lt h
      refine lv_iinc (v := y15) (lv' := [(1, .int y15), (0, .ref (pa 0))]) hx hb dX2_clear_51 hl (k := 1) rfl ey15 (by decide) rfl (fun ls hl => ?_)
      refine lv_goto (tgt := 37) hx hb dX2_clear_54 (by decide) ?_
      exact hk37 y15 P_14 H locs ls h hP hD hS (lv_sub hl [1, 0] rfl)
set_option maxHeartbeats 4000000 in
set_option maxRecDepth 100000 in
theorem c_X2_clear_p (l : Launch) (G : va_G) (cA : Nat → ClassId) (sz : Nat) (pa : Nat → Nat) (P : Tr) (L : Lo)  (P' : Tr) (h : f_X2_clear_p P = some P') : Met l yX2_clear (.code yX2_clear cX2_clear 2 none :: T0) ({ frames := 0, cells := 0, slots := 0, locals := 0 } : Room) (tqP G cA [.ref (pa 0)] (wPL cA pa P L) sz) (tqQv G cA (fun (_ : Unit) => True) (fun (_ : Unit) => wPL cA pa (P') L) (va_A (wPL cA pa P L) sz)) 0 0 (va_A (wPL cA pa P L) sz) := by
  refine Met.ofW (cc := cX2_clear) (maxL := 2) (ret := none) (by decide) rfl ?_
  intro p e s m args below meth c s₁ B hml hv
  obtain ⟨rfl, hsz, hP, hK, hD0, hN⟩ := hv
  have hx := B.exec
  have hb := B.bytes
  have hr := B.returns
  have hts := atoms_spec (ws := .code yX2_clear cX2_clear 2 none :: T0) B.pre
  have hT : ∀ w ∈ T0, w.before _ s = true := fun w h => hts w (List.mem_cons_of_mem _ h)
  have hown : s.vm.findClass RX2 = some m.cls := findClass_of_methodNamed B.named
  have hlocks := B.notSynchronized
  subst hsz
  have hD := hD0.self (sz := s.heap.size)
  generalize hAe : va_A (wPL cA pa P L) s.heap.size = A at hD ⊢
  have hA : ∀ q : Nat, s.heap.size ≤ q → A q := fun q h => by rw [← hAe]; exact Or.inr h
  have hS : va_S A s.heap s.heap [] := va_S.rf
  have hl := lv_entry ([.ref (pa 0)]) (n := 2) (Nat.le_of_ble_eq_true rfl)
  rw [lg_entry_eq]
  generalize (lg_sl ([.ref (pa 0)]) ++ List.replicate (2 - (lg_sl ([.ref (pa 0)])).length) Slot.unset).toArray = ls at hl ⊢
  have hl : lv_has ls 2 [(0, .ref (pa 0))] := hl
  have F : tF p s m ([.ref (pa 0)] : List Value).toArray meth c G cA A RX2 cX2_clear 2 none := ⟨hx, hb, hr, hml, hT, hown, hlocks, hK, hN, hA⟩
  obtain ⟨H, hH⟩ : ∃ z, z = s.heap := ⟨_, rfl⟩
  rw [← hH] at hP
  have hS : va_S A s.heap H [] := by rw [hH]; exact hS
  suffices hgo : G_X2_clear_p p l e s m below meth c G cA A pa L P' H [] (F0 m 0 ls []) by rw [hH] at hgo; exact hgo
  generalize ([] : List Loc) = locs at hS ⊢
  unfold f_X2_clear_p at h
  refine lv_aload_n hx hb dX2_clear_0 rfl (lv_at hl 0 rfl) ?_
  refine lv_iconst (v := 0) hx hb dX2_clear_1 (by decide) ?_
  refine va_put (D := G) (ci := 2) (v := .int 0) (ty := .int) (C := RX2) (T := TX2) (N := 19) hx hb hT ku_2 tyX2 tyX2_ok nmX2 hown hK hP hD hS 0 rfl rfl 0 (by decide) (hT _ kw_6_18) (fun _ h9 => h9) rfl (by decide +kernel) rfl rfl (Nat.le_of_ble_eq_true rfl) dX2_clear_2 (fun H locs hP hD hS => ?_)
  obtain ⟨P_1, eP_1, h⟩ := tx_lt h
  rw [sPL_pa_f0, eP_1] at hP hD
  refine lv_aload_n hx hb dX2_clear_5 rfl (lv_at hl 0 rfl) ?_
  refine lv_iconst (v := 0) hx hb dX2_clear_6 (by decide) ?_
  refine va_put (D := G) (ci := 2) (v := .int 0) (ty := .int) (C := RX2) (T := TX2) (N := 19) hx hb hT ku_2 tyX2 tyX2_ok nmX2 hown hK hP hD hS 0 rfl rfl 1 (by decide) (hT _ kw_6_19) (fun _ h9 => h9) rfl (by decide +kernel) rfl rfl (Nat.le_of_ble_eq_true rfl) dX2_clear_7 (fun H locs hP hD hS => ?_)
  obtain ⟨P_2, eP_2, h⟩ := tx_lt h
  rw [sPL_pa_f1, eP_2] at hP hD
  refine lv_aload_n hx hb dX2_clear_10 rfl (lv_at hl 0 rfl) ?_
  refine lv_iconst (v := 0) hx hb dX2_clear_11 (by decide) ?_
  refine va_put (D := G) (ci := 2) (v := .int 0) (ty := .int) (C := RX2) (T := TX2) (N := 19) hx hb hT ku_2 tyX2 tyX2_ok nmX2 hown hK hP hD hS 0 rfl rfl 2 (by decide) (hT _ kw_6_20) (fun _ h9 => h9) rfl (by decide +kernel) rfl rfl (Nat.le_of_ble_eq_true rfl) dX2_clear_12 (fun H locs hP hD hS => ?_)
  obtain ⟨P_3, eP_3, h⟩ := tx_lt h
  rw [sPL_pa_f2, eP_3] at hP hD
  refine lv_aload_n hx hb dX2_clear_15 rfl (lv_at hl 0 rfl) ?_
  refine lv_iconst (v := 0) hx hb dX2_clear_16 (by decide) ?_
  refine va_put (D := G) (ci := 2) (v := .int 0) (ty := .int) (C := RX2) (T := TX2) (N := 19) hx hb hT ku_2 tyX2 tyX2_ok nmX2 hown hK hP hD hS 0 rfl rfl 3 (by decide) (hT _ kw_6_21) (fun _ h9 => h9) rfl (by decide +kernel) rfl rfl (Nat.le_of_ble_eq_true rfl) dX2_clear_17 (fun H locs hP hD hS => ?_)
  obtain ⟨P_4, eP_4, h⟩ := tx_lt h
  rw [sPL_pa_f3, eP_4] at hP hD
  refine lv_aload_n hx hb dX2_clear_20 rfl (lv_at hl 0 rfl) ?_
  refine lv_iconst (v := 0) hx hb dX2_clear_21 (by decide) ?_
  refine va_put (D := G) (ci := 2) (v := .int 0) (ty := .int) (C := RX2) (T := TX2) (N := 19) hx hb hT ku_2 tyX2 tyX2_ok nmX2 hown hK hP hD hS 0 rfl rfl 4 (by decide) (hT _ kw_6_22) (fun _ h9 => h9) rfl (by decide +kernel) rfl rfl (Nat.le_of_ble_eq_true rfl) dX2_clear_22 (fun H locs hP hD hS => ?_)
  obtain ⟨P_5, eP_5, h⟩ := tx_lt h
  rw [sPL_pa_f4, eP_5] at hP hD
  refine lv_aload_n hx hb dX2_clear_25 rfl (lv_at hl 0 rfl) ?_
  refine lv_iconst (v := 0) hx hb dX2_clear_26 (by decide) ?_
  refine va_put (D := G) (ci := 2) (v := .int 0) (ty := .int) (C := RX2) (T := TX2) (N := 19) hx hb hT ku_2 tyX2 tyX2_ok nmX2 hown hK hP hD hS 0 rfl rfl 5 (by decide) (hT _ kw_6_23) (fun _ h9 => h9) rfl (by decide +kernel) rfl rfl (Nat.le_of_ble_eq_true rfl) dX2_clear_27 (fun H locs hP hD hS => ?_)
  obtain ⟨P_6, eP_6, h⟩ := tx_lt h
  rw [sPL_pa_f5, eP_6] at hP hD
  refine lv_aload_n hx hb dX2_clear_30 rfl (lv_at hl 0 rfl) ?_
  refine lv_iconst (v := 0) hx hb dX2_clear_31 (by decide) ?_
  refine va_put (D := G) (ci := 2) (v := .int 0) (ty := .int) (C := RX2) (T := TX2) (N := 19) hx hb hT ku_2 tyX2 tyX2_ok nmX2 hown hK hP hD hS 0 rfl rfl 6 (by decide) (hT _ kw_7_0) (fun _ h9 => h9) rfl (by decide +kernel) rfl rfl (Nat.le_of_ble_eq_true rfl) dX2_clear_32 (fun H locs hP hD hS => ?_)
  obtain ⟨P_7, eP_7, h⟩ := tx_lt h
  rw [sPL_pa_f6, eP_7] at hP hD
  refine lv_iconst (v := 0) hx hb dX2_clear_35 (by decide) ?_
  refine lv_istore_n (lv' := [(1, .int 0), (0, .ref (pa 0))]) hx hb dX2_clear_36 rfl hl (by decide) rfl (fun ls hl => ?_)
  exact w_X2_clear_p_L37 F 2000 0 P_7 H locs ls h hP hD hS (lv_sub hl [1, 0] rfl)
/-! the class when it is new -/
theorem fl_app {α : Type} {l : List (List α)} {c : α} : List.flatten l ++ [c] = List.flatten (l ++ [[c]]) := by simp
theorem pk_all {α : Type} {a : Nat} {it : List (List α)} {q : List Nat} (h : List.Perm (List.range it.length) q) : (List.flatten (it.take a) ++ List.flatten (it.drop a)).Perm (List.flatten (q.map (fun k => it.getD k []))) := by
  rw [← List.flatten_append, List.take_append_drop]
  have e : (List.range it.length).map (fun k => it.getD k []) = it := by
    apply List.ext_getElem (by simp)
    intro i h1 h2
    simp [List.getD, h2]
  have := (h.map (fun k => it.getD k [])).flatten
  rw [e] at this
  exact this
section CX
variable {p : Program} {l : Launch} {e : Env} {R : Room} {s : State} {m : MethodId} {args : Array Value} {below : List Frame} {meth : Method} {c : Code} {H : Heap} {locs : List Loc} {cells slots : Nat} {Q : State → Prop}
variable {pc : Nat} {ls : Array Slot} {rest st0 : List Value} {a : Array Value} {A : Nat → Prop} {H0 : Heap} {G : va_G} {cA : Nat → ClassId} {ws wc wr : va_W} {mc ms : Nat}
theorem tw_cvm {S : Type} {post : S → Prop} {w1 : S → va_W} (hp : ws.Perm (wc ++ wr)) (hP : va_P G vwCl ws H) (hD : va_D A ws) (hS : va_S A H0 H locs) (hA : ∀ q, H0.size ≤ q → A q)
    (hr : va_Run p l e R s m args below meth c H locs cells slots mc ms (F0 m pc ls st0) rest (tqQv G cA post w1 (va_A wc H.size) a) (va_A wc H.size))
    (kk : ∀ (u : S) (H1 : Heap) (locs1 : List Loc), post u → va_P G vwCl (w1 u ++ wr) H1 → va_D A (w1 u ++ wr) → va_S A H0 H1 locs1 → W p l e R s m args below meth c H1 locs1 (cells + mc) (slots + ms) Q (F0 m (pc + 3) ls rest)) : W p l e R s m args below meth c H locs cells slots Q (F0 m pc ls st0) := by
  have hFc := tw_free hp hD hS hA
  refine va_callv hr hS (fun q _ h => hFc q h) hFc (fun u t H1 locs1 ht hvm hw hB hz1 hk1 hS1 => ?_)
  obtain ⟨hP1, hD1⟩ := hB
  rw [ht] at hP1
  obtain ⟨hP2, hD2⟩ := tw_join hp hP hD hk1 hFc hP1 hD1
  exact kk u H1 locs1 hw hP2 hD2 hS1
end CX
def T0Z : Tr := fun _ _ => 0
def L0Z : Lo := fun _ _ => 0
theorem okZ_T (a j : Nat) : okZ (BT a j) := by
  unfold BT fullB
  repeat (first | exact (show okZ _ from ⟨by decide, by decide⟩) | refine okZ_c ?_ ?_)
theorem okZ_P (a j : Nat) : okZ (BP a j) := by
  unfold BP fullB
  repeat (first | exact (show okZ _ from ⟨by decide, by decide⟩) | refine okZ_c ?_ ?_)
theorem iR_Z {B : Nat → Nat → Int × Int} (h : ∀ a j, okZ (B a j)) : iR B T0Z := fun a j => by
  have l0 : (T0Z a j).toInt = 0 := by show (0 : Int32).toInt = 0; decide
  rw [l0]; exact h a j
theorem e_clear (P : Tr) : f_X2_clear_p P = f_X2_clear P := rfl
