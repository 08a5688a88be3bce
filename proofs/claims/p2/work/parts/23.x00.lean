abbrev G_X6_begin (p : Program) (l : Launch) (e : Env) (s : State) (m : MethodId) (below : List Frame) (meth : Method) (c : Code) (G : va_G) (cA : Nat → ClassId) (A : Nat → Prop) (ta : Nat → Nat) (pa : Nat → Nat) (P : Tr) (T' : Tr) (q' : Nat) (H : Heap) (locs : List Loc) (g : JFrame) : Prop := W p l e (headSpec (.code yX6_begin cX6_begin 3 none :: T0) ({ frames := 0, cells := 0, slots := 0, locals := 0 } : Room)).room s m ([.ref (ta 0), .ref (pa 0)] : List Value).toArray below meth c H locs 0 0 (MQ below (tqQv G cA (fun (_ : Unit) => True) (fun (_ : Unit) => wTB cA ta pa (T') P (q')) A) ([.ref (ta 0), .ref (pa 0)] : List Value).toArray s 0 0 A) g
set_option maxHeartbeats 4000000 in
set_option maxRecDepth 100000 in
theorem w_X6_begin_L133 {p : Program} {l : Launch} {e : Env} {s : State} {m : MethodId} {below : List Frame} {meth : Method} {c : Code} {G : va_G} {cA : Nat → ClassId} {A : Nat → Prop} {ta : Nat → Nat} {pa : Nat → Nat} {P : Tr} {T' : Tr} {q' : Nat} {q : Nat} (F : tF p s m ([.ref (ta 0), .ref (pa 0)] : List Value).toArray meth c G cA A RX6 cX6_begin 3 none)    (N : Nat) : ∀ (x2 : Int32) (T : Tr) (H : Heap) (locs : List Loc) (ls : Array Slot), lpF (fun _ _ => none) (fB_X6_begin_L133 pa P q) N x2 T = some (T', q') → va_P G vwCl (wTB cA ta pa T P q) H → va_D A (wTB cA ta pa T P q) → va_S A s.heap H locs → lv_has ls 3 [(0, .ref (ta 0)), (2, .int x2)] → G_X6_begin p l e s m below meth c G cA A ta pa P T' q' H locs (F0 m 133 ls []) := by
  obtain ⟨hx, hb, hr, hml, hT, hown, hlocks, hK, hN, hA⟩ := id F
  induction N with
  | zero =>
    intro x2 T H locs ls h
    have h : (none : Option (Tr × Nat)) = some (T', q') := h
    cases h
  | succ N hk133 =>
    intro x2 T H locs ls h hP hD hS hl
    have h : fB_X6_begin_L133 pa P q (lpF (fun _ _ => none) (fB_X6_begin_L133 pa P q) N) x2 T = some (T', q') := h
    generalize hk133e : lpF (fun _ _ => none) (fB_X6_begin_L133 pa P q) N = k133 at h hk133
    unfold fB_X6_begin_L133 at h
    refine lv_iload_n hx hb dX6_begin_133 rfl (lv_at hl 1 rfl) ?_
    refine lv_iconst (v := 5) hx hb dX6_begin_134 (by decide) ?_
    refine lv_icmp_ge (tgt := 158) hx hb dX6_begin_135 (by decide) (fun c8 => ?_) (fun c8 => ?_)
    · have h := tx_pos c8 h
      obtain ⟨rfl, rfl⟩ := tx_2 h
      exact W.vret hx hb hr (fun t ht hW => ⟨⟨(), rfl, trivial, by rw [ht]; exact hP, hD⟩, hS.F ht⟩) hS.2.2 dX6_begin_158
    · have h := tx_neg c8 h
      refine lv_aload_n hx hb dX6_begin_138 rfl (lv_at hl 0 rfl) ?_
      refine va_get (D := G) (ci := 6) (v := .ref (ta 17)) (C := RX6) (T := TX6) (N := 20) hx hb hT ku_6 hown hK hP 0 rfl rfl 16 (by decide) (hT _ kw_7_15) (fun _ h9 => h9) rfl dX6_begin_139 ?_
      refine lv_iload_n hx hb dX6_begin_142 rfl (lv_at hl 1 rfl) ?_
      refine lv_iconst (v := 0) hx hb dX6_begin_143 (by decide) ?_
      obtain ⟨g9, h⟩ := tx_ck h
      refine va_iast (i := x2) hx hb hK hP hD hS 9 0 rfl rfl (tx_in g9) dX6_begin_144 (fun H locs hP hD hS => ?_)
      obtain ⟨T_10, eT_10, h⟩ := tx_lt h
      rw [sTB_ta_a16, eT_10] at hP hD
      refine lv_aload_n hx hb dX6_begin_145 rfl (lv_at hl 0 rfl) ?_
      refine va_get (D := G) (ci := 6) (v := .ref (ta 18)) (C := RX6) (T := TX6) (N := 20) hx hb hT ku_6 hown hK hP 0 rfl rfl 17 (by decide) (hT _ kw_7_16) (fun _ h9 => h9) rfl dX6_begin_146 ?_
      refine lv_iload_n hx hb dX6_begin_149 rfl (lv_at hl 1 rfl) ?_
      refine lv_iconst (v := 0) hx hb dX6_begin_150 (by decide) ?_
      refine va_iast (i := x2) hx hb hK hP hD hS 10 0 rfl rfl (tx_in g9) dX6_begin_151 (fun H locs hP hD hS => ?_)
      obtain ⟨T_11, eT_11, h⟩ := tx_lt h
      rw [sTB_ta_a17, eT_11] at hP hD
      obtain ⟨y12, ey12, h⟩ := tx_lt h
      refine lv_iinc (v := y12) (lv' := [(2, .int y12), (0, .ref (ta 0))]) hx hb dX6_begin_152 hl (k := 1) rfl ey12 (by decide) rfl (fun ls hl => ?_)
      refine lv_goto (tgt := 133) hx hb dX6_begin_155 (by decide) ?_
      exact hk133 y12 T_11 H locs ls h hP hD hS (lv_sub hl [1, 0] rfl)
set_option maxHeartbeats 4000000 in
set_option maxRecDepth 100000 in
theorem w_X6_begin_L93 {p : Program} {l : Launch} {e : Env} {s : State} {m : MethodId} {below : List Frame} {meth : Method} {c : Code} {G : va_G} {cA : Nat → ClassId} {A : Nat → Prop} {ta : Nat → Nat} {pa : Nat → Nat} {P : Tr} {T' : Tr} {q' : Nat} {q : Nat} (F : tF p s m ([.ref (ta 0), .ref (pa 0)] : List Value).toArray meth c G cA A RX6 cX6_begin 3 none)    (N : Nat) : ∀ (x2 : Int32) (T : Tr) (H : Heap) (locs : List Loc) (ls : Array Slot), lpF (fun _ _ => none) (fB_X6_begin_L93 pa P q) N x2 T = some (T', q') → va_P G vwCl (wTB cA ta pa T P q) H → va_D A (wTB cA ta pa T P q) → va_S A s.heap H locs → lv_has ls 3 [(0, .ref (ta 0)), (1, .ref (pa 0)), (2, .int x2)] → G_X6_begin p l e s m below meth c G cA A ta pa P T' q' H locs (F0 m 93 ls []) := by
  obtain ⟨hx, hb, hr, hml, hT, hown, hlocks, hK, hN, hA⟩ := id F
  induction N with
  | zero =>
    intro x2 T H locs ls h
    have h : (none : Option (Tr × Nat)) = some (T', q') := h
    cases h
  | succ N hk93 =>
    intro x2 T H locs ls h hP hD hS hl
    have h : fB_X6_begin_L93 pa P q (lpF (fun _ _ => none) (fB_X6_begin_L93 pa P q) N) x2 T = some (T', q') := h
    generalize hk93e : lpF (fun _ _ => none) (fB_X6_begin_L93 pa P q) N = k93 at h hk93
    unfold fB_X6_begin_L93 at h
    refine lv_iload_n hx hb dX6_begin_93 rfl (lv_at hl 2 rfl) ?_
    refine lv_bipush (v := 10) hx hb dX6_begin_94 (by decide) ?_
    refine lv_icmp_ge (tgt := 131) hx hb dX6_begin_96 (by decide) (fun c7 => ?_) (fun c7 => ?_)
    · have h := tx_pos c7 h
      refine lv_iconst (v := 0) hx hb dX6_begin_131 (by decide) ?_
      refine lv_istore_n (lv' := [(2, .int 0), (0, .ref (ta 0)), (1, .ref (pa 0))]) hx hb dX6_begin_132 rfl hl (by decide) rfl (fun ls hl => ?_)
      exact w_X6_begin_L133 F 2000 0 T H locs ls h hP hD hS (lv_sub hl [1, 0] rfl)
    · have h := tx_neg c7 h
      refine lv_aload_n hx hb dX6_begin_99 rfl (lv_at hl 0 rfl) ?_
      refine va_get (D := G) (ci := 6) (v := .ref (ta 13)) (C := RX6) (T := TX6) (N := 20) hx hb hT ku_6 hown hK hP 0 rfl rfl 12 (by decide) (hT _ kw_7_11) (fun _ h9 => h9) rfl dX6_begin_100 ?_
      refine lv_iload_n hx hb dX6_begin_103 rfl (lv_at hl 2 rfl) ?_
      refine lv_aload_n hx hb dX6_begin_104 rfl (lv_at hl 1 rfl) ?_
      refine va_get (D := G) (ci := 2) (v := .ref (pa 17)) (C := RX2) (T := TX2) (N := 19) hx hb hT ku_2 hown hK hP 12 rfl rfl 16 (by decide) (hT _ kw_8_12) (fun _ h9 => h9) rfl dX6_begin_105 ?_
      refine lv_iload_n hx hb dX6_begin_108 rfl (lv_at hl 2 rfl) ?_
      obtain ⟨g13, h⟩ := tx_ck h
      refine va_iald (i := x2) hx hb hK hP 22 0 rfl rfl (tx_in g13) dX6_begin_109 ?_
      refine va_iast (i := x2) hx hb hK hP hD hS 5 0 rfl rfl (tx_in g13) dX6_begin_110 (fun H locs hP hD hS => ?_)
      obtain ⟨T_14, eT_14, h⟩ := tx_lt h
      rw [sTB_ta_a12, eT_14] at hP hD
      refine lv_aload_n hx hb dX6_begin_111 rfl (lv_at hl 0 rfl) ?_
      refine va_get (D := G) (ci := 6) (v := .ref (ta 14)) (C := RX6) (T := TX6) (N := 20) hx hb hT ku_6 hown hK hP 0 rfl rfl 13 (by decide) (hT _ kw_7_12) (fun _ h9 => h9) rfl dX6_begin_112 ?_
      refine lv_iload_n hx hb dX6_begin_115 rfl (lv_at hl 2 rfl) ?_
      refine lv_iconst (v := 0) hx hb dX6_begin_116 (by decide) ?_
      refine va_iast (i := x2) hx hb hK hP hD hS 6 0 rfl rfl (tx_in g13) dX6_begin_117 (fun H locs hP hD hS => ?_)
      obtain ⟨T_15, eT_15, h⟩ := tx_lt h
      rw [sTB_ta_a13, eT_15] at hP hD
      refine lv_aload_n hx hb dX6_begin_118 rfl (lv_at hl 0 rfl) ?_
      refine va_get (D := G) (ci := 6) (v := .ref (ta 15)) (C := RX6) (T := TX6) (N := 20) hx hb hT ku_6 hown hK hP 0 rfl rfl 14 (by decide) (hT _ kw_7_13) (fun _ h9 => h9) rfl dX6_begin_119 ?_
      refine lv_iload_n hx hb dX6_begin_122 rfl (lv_at hl 2 rfl) ?_
      refine lv_iconst (v := (-1)) hx hb dX6_begin_123 (by decide) ?_
      refine va_iast (i := x2) hx hb hK hP hD hS 7 0 rfl rfl (tx_in g13) dX6_begin_124 (fun H locs hP hD hS => ?_)
      obtain ⟨T_16, eT_16, h⟩ := tx_lt h
      rw [sTB_ta_a14, eT_16] at hP hD
      obtain ⟨y17, ey17, h⟩ := tx_lt h
      refine lv_iinc (v := y17) (lv' := [(2, .int y17), (0, .ref (ta 0)), (1, .ref (pa 0))]) hx hb dX6_begin_125 hl (k := 2) rfl ey17 (by decide) rfl (fun ls hl => ?_)
      refine lv_goto (tgt := 93) hx hb dX6_begin_128 (by decide) ?_
      exact hk93 y17 T_16 H locs ls h hP hD hS (lv_sub hl [1, 2, 0] rfl)
set_option maxHeartbeats 4000000 in
set_option maxRecDepth 100000 in
theorem w_X6_begin_L41 {p : Program} {l : Launch} {e : Env} {s : State} {m : MethodId} {below : List Frame} {meth : Method} {c : Code} {G : va_G} {cA : Nat → ClassId} {A : Nat → Prop} {ta : Nat → Nat} {pa : Nat → Nat} {P : Tr} {T' : Tr} {q' : Nat} {q : Nat} (F : tF p s m ([.ref (ta 0), .ref (pa 0)] : List Value).toArray meth c G cA A RX6 cX6_begin 3 none)    (N : Nat) : ∀ (x2 : Int32) (T : Tr) (H : Heap) (locs : List Loc) (ls : Array Slot), lpF (fun _ _ => none) (fB_X6_begin_L41 pa P q) N x2 T = some (T', q') → va_P G vwCl (wTB cA ta pa T P q) H → va_D A (wTB cA ta pa T P q) → va_S A s.heap H locs → lv_has ls 3 [(0, .ref (ta 0)), (1, .ref (pa 0)), (2, .int x2)] → G_X6_begin p l e s m below meth c G cA A ta pa P T' q' H locs (F0 m 41 ls []) := by
  obtain ⟨hx, hb, hr, hml, hT, hown, hlocks, hK, hN, hA⟩ := id F
  induction N with
  | zero =>
    intro x2 T H locs ls h
    have h : (none : Option (Tr × Nat)) = some (T', q') := h
    cases h
  | succ N hk41 =>
    intro x2 T H locs ls h hP hD hS hl
    have h : fB_X6_begin_L41 pa P q (lpF (fun _ _ => none) (fB_X6_begin_L41 pa P q) N) x2 T = some (T', q') := h
    generalize hk41e : lpF (fun _ _ => none) (fB_X6_begin_L41 pa P q) N = k41 at h hk41
    unfold fB_X6_begin_L41 at h
    refine lv_iload_n hx hb dX6_begin_41 rfl (lv_at hl 2 rfl) ?_
    refine lv_bipush (v := 6) hx hb dX6_begin_42 (by decide) ?_
    refine lv_icmp_ge (tgt := 91) hx hb dX6_begin_44 (by decide) (fun c6 => ?_) (fun c6 => ?_)
    · have h := tx_pos c6 h
      refine lv_iconst (v := 0) hx hb dX6_begin_91 (by decide) ?_
      refine lv_istore_n (lv' := [(2, .int 0), (0, .ref (ta 0)), (1, .ref (pa 0))]) hx hb dX6_begin_92 rfl hl (by decide) rfl (fun ls hl => ?_)
      exact w_X6_begin_L93 F 2000 0 T H locs ls h hP hD hS (lv_sub hl [1, 2, 0] rfl)
    · have h := tx_neg c6 h
      refine lv_aload_n hx hb dX6_begin_47 rfl (lv_at hl 0 rfl) ?_
      refine va_get (D := G) (ci := 6) (v := .ref (ta 9)) (C := RX6) (T := TX6) (N := 20) hx hb hT ku_6 hown hK hP 0 rfl rfl 8 (by decide) (hT _ kw_7_7) (fun _ h9 => h9) rfl dX6_begin_48 ?_
      refine lv_iload_n hx hb dX6_begin_51 rfl (lv_at hl 2 rfl) ?_
      refine lv_aload_n hx hb dX6_begin_52 rfl (lv_at hl 1 rfl) ?_
      refine va_get (D := G) (ci := 2) (v := .ref (pa 11)) (C := RX2) (T := TX2) (N := 19) hx hb hT ku_2 hown hK hP 12 rfl rfl 10 (by decide) (hT _ kw_8_10) (fun _ h9 => h9) rfl dX6_begin_53 ?_
      refine lv_iload_n hx hb dX6_begin_56 rfl (lv_at hl 2 rfl) ?_
      obtain ⟨g18, h⟩ := tx_ck h
      refine va_iald (i := x2) hx hb hK hP 16 0 rfl rfl (tx_in g18) dX6_begin_57 ?_
      refine va_iast (i := x2) hx hb hK hP hD hS 1 0 rfl rfl (tx_in g18) dX6_begin_58 (fun H locs hP hD hS => ?_)
      obtain ⟨T_19, eT_19, h⟩ := tx_lt h
      rw [sTB_ta_a8, eT_19] at hP hD
      refine lv_aload_n hx hb dX6_begin_59 rfl (lv_at hl 0 rfl) ?_
      refine va_get (D := G) (ci := 6) (v := .ref (ta 10)) (C := RX6) (T := TX6) (N := 20) hx hb hT ku_6 hown hK hP 0 rfl rfl 9 (by decide) (hT _ kw_7_8) (fun _ h9 => h9) rfl dX6_begin_60 ?_
      refine lv_iload_n hx hb dX6_begin_63 rfl (lv_at hl 2 rfl) ?_
      refine lv_aload_n hx hb dX6_begin_64 rfl (lv_at hl 1 rfl) ?_
      refine va_get (D := G) (ci := 2) (v := .ref (pa 13)) (C := RX2) (T := TX2) (N := 19) hx hb hT ku_2 hown hK hP 12 rfl rfl 12 (by decide) (hT _ kw_8_11) (fun _ h9 => h9) rfl dX6_begin_65 ?_
      refine lv_iload_n hx hb dX6_begin_68 rfl (lv_at hl 2 rfl) ?_
      refine va_iald (i := x2) hx hb hK hP 18 0 rfl rfl (tx_in g18) dX6_begin_69 ?_
      refine va_iast (i := x2) hx hb hK hP hD hS 2 0 rfl rfl (tx_in g18) dX6_begin_70 (fun H locs hP hD hS => ?_)
      obtain ⟨T_20, eT_20, h⟩ := tx_lt h
      rw [sTB_ta_a9, eT_20] at hP hD
      refine lv_aload_n hx hb dX6_begin_71 rfl (lv_at hl 0 rfl) ?_
      refine va_get (D := G) (ci := 6) (v := .ref (ta 11)) (C := RX6) (T := TX6) (N := 20) hx hb hT ku_6 hown hK hP 0 rfl rfl 10 (by decide) (hT _ kw_7_9) (fun _ h9 => h9) rfl dX6_begin_72 ?_
      refine lv_iload_n hx hb dX6_begin_75 rfl (lv_at hl 2 rfl) ?_
      refine lv_iconst (v := 0) hx hb dX6_begin_76 (by decide) ?_
      refine va_iast (i := x2) hx hb hK hP hD hS 3 0 rfl rfl (tx_in g18) dX6_begin_77 (fun H locs hP hD hS => ?_)
      obtain ⟨T_21, eT_21, h⟩ := tx_lt h
      rw [sTB_ta_a10, eT_21] at hP hD
      refine lv_aload_n hx hb dX6_begin_78 rfl (lv_at hl 0 rfl) ?_
      refine va_get (D := G) (ci := 6) (v := .ref (ta 12)) (C := RX6) (T := TX6) (N := 20) hx hb hT ku_6 hown hK hP 0 rfl rfl 11 (by decide) (hT _ kw_7_10) (fun _ h9 => h9) rfl dX6_begin_79 ?_
      refine lv_iload_n hx hb dX6_begin_82 rfl (lv_at hl 2 rfl) ?_
      refine lv_iconst (v := 0) hx hb dX6_begin_83 (by decide) ?_
      refine va_iast (i := x2) hx hb hK hP hD hS 4 0 rfl rfl (tx_in g18) dX6_begin_84 (fun H locs hP hD hS => ?_)
      obtain ⟨T_22, eT_22, h⟩ := tx_lt h
      rw [sTB_ta_a11, eT_22] at hP hD
      obtain ⟨y23, ey23, h⟩ := tx_lt h
      refine lv_iinc (v := y23) (lv' := [(2, .int y23), (0, .ref (ta 0)), (1, .ref (pa 0))]) hx hb dX6_begin_85 hl (k := 2) rfl ey23 (by decide) rfl (fun ls hl => ?_)
      refine lv_goto (tgt := 41) hx hb dX6_begin_88 (by decide) ?_
      exact hk41 y23 T_22 H locs ls h hP hD hS (lv_sub hl [1, 2, 0] rfl)
set_option maxHeartbeats 4000000 in
set_option maxRecDepth 100000 in
theorem c_X6_begin (l : Launch) (G : va_G) (cA : Nat → ClassId) (sz : Nat) (ta : Nat → Nat) (pa : Nat → Nat) (T : Tr) (P : Tr) (q : Nat)  (T' : Tr) (q' : Nat) (h : f_X6_begin pa T P q = some (T', q')) : Met l yX6_begin (.code yX6_begin cX6_begin 3 none :: T0) ({ frames := 0, cells := 0, slots := 0, locals := 0 } : Room) (tqP G cA [.ref (ta 0), .ref (pa 0)] (wTB cA ta pa T P q) sz) (tqQv G cA (fun (_ : Unit) => True) (fun (_ : Unit) => wTB cA ta pa (T') P (q')) (va_A (wTB cA ta pa T P q) sz)) 0 0 (va_A (wTB cA ta pa T P q) sz) := by
  refine Met.ofW (cc := cX6_begin) (maxL := 3) (ret := none) (by decide) rfl ?_
  intro p e s m args below meth c s₁ B hml hv
  obtain ⟨rfl, hsz, hP, hK, hD0, hN⟩ := hv
  have hx := B.exec
  have hb := B.bytes
  have hr := B.returns
  have hts := atoms_spec (ws := .code yX6_begin cX6_begin 3 none :: T0) B.pre
  have hT : ∀ w ∈ T0, w.before _ s = true := fun w h => hts w (List.mem_cons_of_mem _ h)
  have hown : s.vm.findClass RX6 = some m.cls := findClass_of_methodNamed B.named
  have hlocks := B.notSynchronized
  subst hsz
  have hD := hD0.self (sz := s.heap.size)
  generalize hAe : va_A (wTB cA ta pa T P q) s.heap.size = A at hD ⊢
  have hA : ∀ q : Nat, s.heap.size ≤ q → A q := fun q h => by rw [← hAe]; exact Or.inr h
  have hS : va_S A s.heap s.heap [] := va_S.rf
  have hl := lv_entry ([.ref (ta 0), .ref (pa 0)]) (n := 3) (Nat.le_of_ble_eq_true rfl)
  rw [lg_entry_eq]
  generalize (lg_sl ([.ref (ta 0), .ref (pa 0)]) ++ List.replicate (3 - (lg_sl ([.ref (ta 0), .ref (pa 0)])).length) Slot.unset).toArray = ls at hl ⊢
  have hl : lv_has ls 3 [(0, .ref (ta 0)), (1, .ref (pa 0))] := hl
  have F : tF p s m ([.ref (ta 0), .ref (pa 0)] : List Value).toArray meth c G cA A RX6 cX6_begin 3 none := ⟨hx, hb, hr, hml, hT, hown, hlocks, hK, hN, hA⟩
  obtain ⟨H, hH⟩ : ∃ z, z = s.heap := ⟨_, rfl⟩
  rw [← hH] at hP
  have hS : va_S A s.heap H [] := by rw [hH]; exact hS
  suffices hgo : G_X6_begin p l e s m below meth c G cA A ta pa P T' q' H [] (F0 m 0 ls []) by rw [hH] at hgo; exact hgo
  generalize ([] : List Loc) = locs at hS ⊢
  unfold f_X6_begin at h
  refine lv_aload_n hx hb dX6_begin_0 rfl (lv_at hl 0 rfl) ?_
  refine lv_aload_n hx hb dX6_begin_1 rfl (lv_at hl 1 rfl) ?_
  refine va_put (D := G) (ci := 6) (v := .ref (pa 0)) (ty := (.object "RackTrain$Plan")) (C := RX6) (T := TX6) (N := 20) hx hb hT ku_6 tyX6 tyX6_ok nmX6 hown hK hP hD hS 0 rfl rfl 19 (by decide) (hT _ kw_8_1) (fun _ h9 => h9) rfl (by decide +kernel) rfl rfl (Nat.le_of_ble_eq_true rfl) dX6_begin_2 (fun H locs hP hD hS => ?_)
  rw [sTB_ta_r19] at hP hD
  refine lv_aload_n hx hb dX6_begin_5 rfl (lv_at hl 0 rfl) ?_
  refine lv_iconst (v := 0) hx hb dX6_begin_6 (by decide) ?_
  refine va_put (D := G) (ci := 6) (v := .int 0) (ty := .int) (C := RX6) (T := TX6) (N := 20) hx hb hT ku_6 tyX6 tyX6_ok nmX6 hown hK hP hD hS 0 rfl rfl 0 (by decide) (hT _ kw_8_2) (fun _ h9 => h9) rfl (by decide +kernel) rfl rfl (Nat.le_of_ble_eq_true rfl) dX6_begin_7 (fun H locs hP hD hS => ?_)
  obtain ⟨T_1, eT_1, h⟩ := tx_lt h
  rw [sTB_ta_f0, eT_1] at hP hD
  refine lv_aload_n hx hb dX6_begin_10 rfl (lv_at hl 0 rfl) ?_
  refine lv_iconst (v := 0) hx hb dX6_begin_11 (by decide) ?_
  refine va_put (D := G) (ci := 6) (v := .int 0) (ty := .int) (C := RX6) (T := TX6) (N := 20) hx hb hT ku_6 tyX6 tyX6_ok nmX6 hown hK hP hD hS 0 rfl rfl 1 (by decide) (hT _ kw_8_3) (fun _ h9 => h9) rfl (by decide +kernel) rfl rfl (Nat.le_of_ble_eq_true rfl) dX6_begin_12 (fun H locs hP hD hS => ?_)
  obtain ⟨T_2, eT_2, h⟩ := tx_lt h
  rw [sTB_ta_f1, eT_2] at hP hD
  refine lv_aload_n hx hb dX6_begin_15 rfl (lv_at hl 0 rfl) ?_
  refine lv_aload_n hx hb dX6_begin_16 rfl (lv_at hl 1 rfl) ?_
  refine va_get (D := G) (ci := 2) (v := .int (P 0 6)) (C := RX2) (T := TX2) (N := 19) hx hb hT ku_2 hown hK hP 12 rfl rfl 6 (by decide) (hT _ kw_8_4) (fun _ h9 => h9) rfl dX6_begin_17 ?_
  refine va_put (D := G) (ci := 6) (v := .int (P 0 6)) (ty := .int) (C := RX6) (T := TX6) (N := 20) hx hb hT ku_6 tyX6 tyX6_ok nmX6 hown hK hP hD hS 0 rfl rfl 2 (by decide) (hT _ kw_8_5) (fun _ h9 => h9) rfl (by decide +kernel) rfl rfl (Nat.le_of_ble_eq_true rfl) dX6_begin_20 (fun H locs hP hD hS => ?_)
  obtain ⟨T_3, eT_3, h⟩ := tx_lt h
  rw [sTB_ta_f2, eT_3] at hP hD
  refine lv_aload_n hx hb dX6_begin_23 rfl (lv_at hl 0 rfl) ?_
  refine lv_aload_n hx hb dX6_begin_24 rfl (lv_at hl 1 rfl) ?_
  refine va_get (D := G) (ci := 2) (v := .int (P 0 4)) (C := RX2) (T := TX2) (N := 19) hx hb hT ku_2 hown hK hP 12 rfl rfl 4 (by decide) (hT _ kw_8_6) (fun _ h9 => h9) rfl dX6_begin_25 ?_
  refine va_put (D := G) (ci := 6) (v := .int (P 0 4)) (ty := .int) (C := RX6) (T := TX6) (N := 20) hx hb hT ku_6 tyX6 tyX6_ok nmX6 hown hK hP hD hS 0 rfl rfl 3 (by decide) (hT _ kw_8_7) (fun _ h9 => h9) rfl (by decide +kernel) rfl rfl (Nat.le_of_ble_eq_true rfl) dX6_begin_28 (fun H locs hP hD hS => ?_)
  obtain ⟨T_4, eT_4, h⟩ := tx_lt h
  rw [sTB_ta_f3, eT_4] at hP hD
  refine lv_aload_n hx hb dX6_begin_31 rfl (lv_at hl 0 rfl) ?_
  refine lv_aload_n hx hb dX6_begin_32 rfl (lv_at hl 1 rfl) ?_
  refine va_get (D := G) (ci := 2) (v := .int (P 0 5)) (C := RX2) (T := TX2) (N := 19) hx hb hT ku_2 hown hK hP 12 rfl rfl 5 (by decide) (hT _ kw_8_8) (fun _ h9 => h9) rfl dX6_begin_33 ?_
  refine va_put (D := G) (ci := 6) (v := .int (P 0 5)) (ty := .int) (C := RX6) (T := TX6) (N := 20) hx hb hT ku_6 tyX6 tyX6_ok nmX6 hown hK hP hD hS 0 rfl rfl 4 (by decide) (hT _ kw_8_9) (fun _ h9 => h9) rfl (by decide +kernel) rfl rfl (Nat.le_of_ble_eq_true rfl) dX6_begin_36 (fun H locs hP hD hS => ?_)
  obtain ⟨T_5, eT_5, h⟩ := tx_lt h
  rw [sTB_ta_f4, eT_5] at hP hD
  refine lv_iconst (v := 0) hx hb dX6_begin_39 (by decide) ?_
  refine lv_istore_n (lv' := [(2, .int 0), (0, .ref (ta 0)), (1, .ref (pa 0))]) hx hb dX6_begin_40 rfl hl (by decide) rfl (fun ls hl => ?_)
  exact w_X6_begin_L41 F 2000 0 T_5 H locs ls h hP hD hS (lv_sub hl [1, 2, 0] rfl)
abbrev G_X4_agreeWith_x_ua0 (p : Program) (l : Launch) (e : Env) (s : State) (m : MethodId) (below : List Frame) (meth : Method) (c : Code) (G : va_G) (cA : Nat → ClassId) (A : Nat → Prop) (xa : Nat → Nat) (ka : Nat → Nat) (ra : Nat → Nat) (na : Nat → Nat) (ia : Nat → Nat) (ua : Nat → Nat) (va : Nat → Nat) (ca : Nat → Nat) (za : Nat → Nat) (pa : Nat → Nat) (qa : Nat → Nat) (X : Tr) (K : Tr) (R : Tr) (P : Tr) (L : Lo) (P2 : Tr) (L2 : Lo) (Tn : Tr) (Ti : Tr) (Tu : Tr) (Tv : Tr) (C : Tr) (Z : Tr) (q0 : Nat) (q1 : Nat) (q2 : Nat) (q3 : Nat) (q4 : Nat) (q5 : Nat) (r0 : Int32) (H : Heap) (locs : List Loc) (g : JFrame) : Prop := W p l e (headSpec (.code yX4_agreeWith cX4_agreeWith 3 (some .boolean) :: T0) ({ frames := 0, cells := 0, slots := 0, locals := 0 } : Room)).room s m ([.ref (za 0), .ref (ua 0)] : List Value).toArray below meth c H locs 0 0 (MQ below (tqQi G cA (fun (r : Int32) (_ : Unit) => r = r0) (fun (_ : Unit) => wX cA xa ka ra na ia ua va ca za pa qa X K R P L P2 L2 Tn Ti Tu Tv C Z q0 q1 q2 q3 q4 q5) A) ([.ref (za 0), .ref (ua 0)] : List Value).toArray s 0 0 A) g
set_option maxHeartbeats 4000000 in
set_option maxRecDepth 100000 in
theorem w_X4_agreeWith_x_ua0_J72 {p : Program} {l : Launch} {e : Env} {s : State} {m : MethodId} {below : List Frame} {meth : Method} {c : Code} {G : va_G} {cA : Nat → ClassId} {A : Nat → Prop} {xa : Nat → Nat} {ka : Nat → Nat} {ra : Nat → Nat} {na : Nat → Nat} {ia : Nat → Nat} {ua : Nat → Nat} {va : Nat → Nat} {ca : Nat → Nat} {za : Nat → Nat} {pa : Nat → Nat} {qa : Nat → Nat} {X : Tr} {K : Tr} {R : Tr} {P : Tr} {L : Lo} {P2 : Tr} {L2 : Lo} {Tn : Tr} {Ti : Tr} {Tu : Tr} {Tv : Tr} {C : Tr} {Z : Tr} {q0 : Nat} {q1 : Nat} {q2 : Nat} {q3 : Nat} {q4 : Nat} {q5 : Nat} {r0 : Int32} (F : tF p s m ([.ref (za 0), .ref (ua 0)] : List Value).toArray meth c G cA A RX4 cX4_agreeWith 3 (some .boolean))  (k2 : Int32 → Option (Int32)) (hk2 : ∀ (x2 : Int32) (H : Heap) (locs : List Loc) (ls : Array Slot), k2 x2 = some r0 → va_P G vwCl (wX cA xa ka ra na ia ua va ca za pa qa X K R P L P2 L2 Tn Ti Tu Tv C Z q0 q1 q2 q3 q4 q5) H → va_D A (wX cA xa ka ra na ia ua va ca za pa qa X K R P L P2 L2 Tn Ti Tu Tv C Z q0 q1 q2 q3 q4 q5) → va_S A s.heap H locs → lv_has ls 3 [(0, .ref (za 0)), (1, .ref (ua 0)), (2, .int x2)] → G_X4_agreeWith_x_ua0 p l e s m below meth c G cA A xa ka ra na ia ua va ca za pa qa X K R P L P2 L2 Tn Ti Tu Tv C Z q0 q1 q2 q3 q4 q5 r0 H locs (F0 m 2 ls [])) (x2 : Int32) (s0 : Int32) (s1 : Int32) (H : Heap) (locs : List Loc) (ls : Array Slot) (h : fJ_X4_agreeWith_x_ua0_J72 k2 pa qa Tu Z x2 s0 s1 = some r0) (hP : va_P G vwCl (wX cA xa ka ra na ia ua va ca za pa qa X K R P L P2 L2 Tn Ti Tu Tv C Z q0 q1 q2 q3 q4 q5) H) (hD : va_D A (wX cA xa ka ra na ia ua va ca za pa qa X K R P L P2 L2 Tn Ti Tu Tv C Z q0 q1 q2 q3 q4 q5)) (hS : va_S A s.heap H locs) (hl : lv_has ls 3 [(0, .ref (za 0)), (1, .ref (ua 0)), (2, .int x2)]) : G_X4_agreeWith_x_ua0 p l e s m below meth c G cA A xa ka ra na ia ua va ca za pa qa X K R P L P2 L2 Tn Ti Tu Tv C Z q0 q1 q2 q3 q4 q5 r0 H locs (F0 m 72 ls []) := by
  obtain ⟨hx, hb, hr, hml, hT, hown, hlocks, hK, hN, hA⟩ := id F
  unfold fJ_X4_agreeWith_x_ua0_J72 at h
  refine lv_icmp_eq (tgt := 77) hx hb dX4_agreeWith_72 (by decide) (fun c11 => ?_) (fun c11 => ?_)
  · have h := tx_pos c11 h
    obtain ⟨y12, ey12, h⟩ := tx_lt h
    refine lv_iinc (v := y12) (lv' := [(2, .int y12), (0, .ref (za 0)), (1, .ref (ua 0))]) hx hb dX4_agreeWith_77 hl (k := 2) rfl ey12 (by decide) rfl (fun ls hl => ?_)
    refine lv_goto (tgt := 2) hx hb dX4_agreeWith_80 (by decide) ?_
    exact hk2 y12 H locs ls h hP hD hS (lv_sub hl [1, 2, 0] rfl)
  · have h := tx_neg c11 h
    refine lv_iconst (v := 0) hx hb dX4_agreeWith_75 (by decide) ?_
    obtain rfl := tx_1 h
    exact W.zret (ty := .boolean) hx hb hr rfl (fun t ht hW => ⟨⟨_, (), rfl, rfl, by rw [ht]; exact hP, hD⟩, hS.F ht⟩) hS.2.2 dX4_agreeWith_76
set_option maxHeartbeats 4000000 in
set_option maxRecDepth 100000 in
theorem w_X4_agreeWith_x_ua0_J57 {p : Program} {l : Launch} {e : Env} {s : State} {m : MethodId} {below : List Frame} {meth : Method} {c : Code} {G : va_G} {cA : Nat → ClassId} {A : Nat → Prop} {xa : Nat → Nat} {ka : Nat → Nat} {ra : Nat → Nat} {na : Nat → Nat} {ia : Nat → Nat} {ua : Nat → Nat} {va : Nat → Nat} {ca : Nat → Nat} {za : Nat → Nat} {pa : Nat → Nat} {qa : Nat → Nat} {X : Tr} {K : Tr} {R : Tr} {P : Tr} {L : Lo} {P2 : Tr} {L2 : Lo} {Tn : Tr} {Ti : Tr} {Tu : Tr} {Tv : Tr} {C : Tr} {Z : Tr} {q0 : Nat} {q1 : Nat} {q2 : Nat} {q3 : Nat} {q4 : Nat} {q5 : Nat} {r0 : Int32} (F : tF p s m ([.ref (za 0), .ref (ua 0)] : List Value).toArray meth c G cA A RX4 cX4_agreeWith 3 (some .boolean))  (k2 : Int32 → Option (Int32)) (hk2 : ∀ (x2 : Int32) (H : Heap) (locs : List Loc) (ls : Array Slot), k2 x2 = some r0 → va_P G vwCl (wX cA xa ka ra na ia ua va ca za pa qa X K R P L P2 L2 Tn Ti Tu Tv C Z q0 q1 q2 q3 q4 q5) H → va_D A (wX cA xa ka ra na ia ua va ca za pa qa X K R P L P2 L2 Tn Ti Tu Tv C Z q0 q1 q2 q3 q4 q5) → va_S A s.heap H locs → lv_has ls 3 [(0, .ref (za 0)), (1, .ref (ua 0)), (2, .int x2)] → G_X4_agreeWith_x_ua0 p l e s m below meth c G cA A xa ka ra na ia ua va ca za pa qa X K R P L P2 L2 Tn Ti Tu Tv C Z q0 q1 q2 q3 q4 q5 r0 H locs (F0 m 2 ls [])) (x2 : Int32) (s0 : Int32) (H : Heap) (locs : List Loc) (ls : Array Slot) (h : fJ_X4_agreeWith_x_ua0_J57 k2 pa qa Tu Z x2 s0 = some r0) (hP : va_P G vwCl (wX cA xa ka ra na ia ua va ca za pa qa X K R P L P2 L2 Tn Ti Tu Tv C Z q0 q1 q2 q3 q4 q5) H) (hD : va_D A (wX cA xa ka ra na ia ua va ca za pa qa X K R P L P2 L2 Tn Ti Tu Tv C Z q0 q1 q2 q3 q4 q5)) (hS : va_S A s.heap H locs) (hl : lv_has ls 3 [(0, .ref (za 0)), (1, .ref (ua 0)), (2, .int x2)]) : G_X4_agreeWith_x_ua0 p l e s m below meth c G cA A xa ka ra na ia ua va ca za pa qa X K R P L P2 L2 Tn Ti Tu Tv C Z q0 q1 q2 q3 q4 q5 r0 H locs (F0 m 57 ls [.int s0]) := by
  obtain ⟨hx, hb, hr, hml, hT, hown, hlocks, hK, hN, hA⟩ := id F
  unfold fJ_X4_agreeWith_x_ua0_J57 at h
  refine lv_aload_n hx hb dX4_agreeWith_57 rfl (lv_at hl 0 rfl) ?_
  refine va_get (D := G) (ci := 4) (v := .ref (za 6)) (C := RX4) (T := TX4) (N := 7) hx hb hT ku_4 hown hK hP 103 rfl rfl 5 (by decide) (hT _ kw_9_3) (fun _ h9 => h9) rfl dX4_agreeWith_58 ?_
  refine lv_iload_n hx hb dX4_agreeWith_61 rfl (lv_at hl 2 rfl) ?_
  obtain ⟨g9, h⟩ := tx_ck h
  refine va_iald (i := x2) hx hb hK hP 107 0 rfl rfl (tx_in g9) dX4_agreeWith_62 ?_
  refine lv_iconst (v := 1) hx hb dX4_agreeWith_63 (by decide) ?_
  refine lv_icmp_ne (tgt := 71) hx hb dX4_agreeWith_64 (by decide) (fun c10 => ?_) (fun c10 => ?_)
  · have h := tx_neg c10 h
    refine lv_iconst (v := 0) hx hb dX4_agreeWith_71 (by decide) ?_
    exact w_X4_agreeWith_x_ua0_J72 F k2 hk2 x2 0 s0 H locs ls h hP hD hS (lv_sub hl [0, 1, 2] rfl)
  · have h := tx_pos c10 h
    refine lv_iconst (v := 1) hx hb dX4_agreeWith_67 (by decide) ?_
    refine lv_goto (tgt := 72) hx hb dX4_agreeWith_68 (by decide) ?_
    exact w_X4_agreeWith_x_ua0_J72 F k2 hk2 x2 1 s0 H locs ls h hP hD hS (lv_sub hl [0, 1, 2] rfl)
set_option maxHeartbeats 4000000 in
set_option maxRecDepth 100000 in
theorem w_X4_agreeWith_x_ua0_L2 {p : Program} {l : Launch} {e : Env} {s : State} {m : MethodId} {below : List Frame} {meth : Method} {c : Code} {G : va_G} {cA : Nat → ClassId} {A : Nat → Prop} {xa : Nat → Nat} {ka : Nat → Nat} {ra : Nat → Nat} {na : Nat → Nat} {ia : Nat → Nat} {ua : Nat → Nat} {va : Nat → Nat} {ca : Nat → Nat} {za : Nat → Nat} {pa : Nat → Nat} {qa : Nat → Nat} {X : Tr} {K : Tr} {R : Tr} {P : Tr} {L : Lo} {P2 : Tr} {L2 : Lo} {Tn : Tr} {Ti : Tr} {Tu : Tr} {Tv : Tr} {C : Tr} {Z : Tr} {q0 : Nat} {q1 : Nat} {q2 : Nat} {q3 : Nat} {q4 : Nat} {q5 : Nat} {r0 : Int32} (F : tF p s m ([.ref (za 0), .ref (ua 0)] : List Value).toArray meth c G cA A RX4 cX4_agreeWith 3 (some .boolean))    (N : Nat) : ∀ (x2 : Int32) (H : Heap) (locs : List Loc) (ls : Array Slot), lpF (fun _ => none) (fB_X4_agreeWith_x_ua0_L2 pa qa Tu Z) N x2 = some r0 → va_P G vwCl (wX cA xa ka ra na ia ua va ca za pa qa X K R P L P2 L2 Tn Ti Tu Tv C Z q0 q1 q2 q3 q4 q5) H → va_D A (wX cA xa ka ra na ia ua va ca za pa qa X K R P L P2 L2 Tn Ti Tu Tv C Z q0 q1 q2 q3 q4 q5) → va_S A s.heap H locs → lv_has ls 3 [(0, .ref (za 0)), (1, .ref (ua 0)), (2, .int x2)] → G_X4_agreeWith_x_ua0 p l e s m below meth c G cA A xa ka ra na ia ua va ca za pa qa X K R P L P2 L2 Tn Ti Tu Tv C Z q0 q1 q2 q3 q4 q5 r0 H locs (F0 m 2 ls []) := by
  obtain ⟨hx, hb, hr, hml, hT, hown, hlocks, hK, hN, hA⟩ := id F
  induction N with
  | zero =>
    intro x2 H locs ls h
    have h : (none : Option (Int32)) = some r0 := h
    cases h
  | succ N hk2 =>
    intro x2 H locs ls h hP hD hS hl
    have h : fB_X4_agreeWith_x_ua0_L2 pa qa Tu Z (lpF (fun _ => none) (fB_X4_agreeWith_x_ua0_L2 pa qa Tu Z) N) x2 = some r0 := h
    generalize hk2e : lpF (fun _ => none) (fB_X4_agreeWith_x_ua0_L2 pa qa Tu Z) N = k2 at h hk2
    unfold fB_X4_agreeWith_x_ua0_L2 at h
    refine lv_iload_n hx hb dX4_agreeWith_2 rfl (lv_at hl 2 rfl) ?_
    refine lv_aload_n hx hb dX4_agreeWith_3 rfl (lv_at hl 0 rfl) ?_
    refine va_get (D := G) (ci := 4) (v := .int (Z 0 0)) (C := RX4) (T := TX4) (N := 7) hx hb hT ku_4 hown hK hP 103 rfl rfl 0 (by decide) (hT _ kw_8_22) (fun _ h9 => h9) rfl dX4_agreeWith_4 ?_
    refine lv_icmp_ge (tgt := 83) hx hb dX4_agreeWith_7 (by decide) (fun c1 => ?_) (fun c1 => ?_)
    · have h := tx_pos c1 h
      refine lv_iconst (v := 1) hx hb dX4_agreeWith_83 (by decide) ?_
      obtain rfl := tx_1 h
      exact W.zret (ty := .boolean) hx hb hr rfl (fun t ht hW => ⟨⟨_, (), rfl, rfl, by rw [ht]; exact hP, hD⟩, hS.F ht⟩) hS.2.2 dX4_agreeWith_84
    · have h := tx_neg c1 h
      refine lv_aload_n hx hb dX4_agreeWith_10 rfl (lv_at hl 0 rfl) ?_
      refine va_get (D := G) (ci := 4) (v := .ref (za 7)) (C := RX4) (T := TX4) (N := 7) hx hb hT ku_4 hown hK hP 103 rfl rfl 6 (by decide) (hT _ kw_9_5) (fun _ h9 => h9) rfl dX4_agreeWith_11 ?_
      refine lv_iload_n hx hb dX4_agreeWith_14 rfl (lv_at hl 2 rfl) ?_
      obtain ⟨g2, h⟩ := tx_ck h
      refine va_zald (i := x2) hx hb hK hP 108 1 rfl rfl (tx_in g2) dX4_agreeWith_15 ?_
      refine lv_if_eq (tgt := 77) hx hb dX4_agreeWith_16 (by decide) (fun c3 => ?_) (fun c3 => ?_)
      · have h := tx_pos c3 h
        obtain ⟨y4, ey4, h⟩ := tx_lt h
        refine lv_iinc (v := y4) (lv' := [(2, .int y4), (0, .ref (za 0)), (1, .ref (ua 0))]) hx hb dX4_agreeWith_77 hl (k := 2) rfl ey4 (by decide) rfl (fun ls hl => ?_)
        refine lv_goto (tgt := 2) hx hb dX4_agreeWith_80 (by decide) ?_
        exact hk2 y4 H locs ls h hP hD hS (lv_sub hl [1, 2, 0] rfl)
      · have h := tx_neg c3 h
        refine lv_aload_n hx hb dX4_agreeWith_19 rfl (lv_at hl 0 rfl) ?_
        refine va_get (D := G) (ci := 4) (v := .ref (za 3)) (C := RX4) (T := TX4) (N := 7) hx hb hT ku_4 hown hK hP 103 rfl rfl 2 (by decide) (hT _ kw_9_0) (fun _ h9 => h9) rfl dX4_agreeWith_20 ?_
        refine lv_iload_n hx hb dX4_agreeWith_23 rfl (lv_at hl 2 rfl) ?_
        refine va_iald (i := x2) hx hb hK hP 104 0 rfl rfl (tx_in g2) dX4_agreeWith_24 ?_
        refine lv_aload_n hx hb dX4_agreeWith_25 rfl (lv_at hl 1 rfl) ?_
        refine va_get (D := G) (ci := 6) (v := .int (Tu 0 0)) (C := RX6) (T := TX6) (N := 20) hx hb hT ku_6 hown hK hP 77 rfl rfl 0 (by decide) (hT _ kw_56_4) (fun _ h9 => h9) rfl dX4_agreeWith_26 ?_
        refine lv_icmp_ne (tgt := 77) hx hb dX4_agreeWith_29 (by decide) (fun c5 => ?_) (fun c5 => ?_)
        · have h := tx_neg c5 h
          obtain ⟨y6, ey6, h⟩ := tx_lt h
          refine lv_iinc (v := y6) (lv' := [(2, .int y6), (0, .ref (za 0)), (1, .ref (ua 0))]) hx hb dX4_agreeWith_77 hl (k := 2) rfl ey6 (by decide) rfl (fun ls hl => ?_)
          refine lv_goto (tgt := 2) hx hb dX4_agreeWith_80 (by decide) ?_
          exact hk2 y6 H locs ls h hP hD hS (lv_sub hl [1, 2, 0] rfl)
        · have h := tx_pos c5 h
          refine lv_aload_n hx hb dX4_agreeWith_32 rfl (lv_at hl 1 rfl) ?_
          refine va_get (D := G) (ci := 6) (v := .ref (ua 15)) (C := RX6) (T := TX6) (N := 20) hx hb hT ku_6 hown hK hP 77 rfl rfl 14 (by decide) (hT _ kw_56_5) (fun _ h9 => h9) rfl dX4_agreeWith_33 ?_
          refine lv_aload_n hx hb dX4_agreeWith_36 rfl (lv_at hl 0 rfl) ?_
          refine va_get (D := G) (ci := 4) (v := .ref (za 4)) (C := RX4) (T := TX4) (N := 7) hx hb hT ku_4 hown hK hP 103 rfl rfl 3 (by decide) (hT _ kw_9_1) (fun _ h9 => h9) rfl dX4_agreeWith_37 ?_
          refine lv_iload_n hx hb dX4_agreeWith_40 rfl (lv_at hl 2 rfl) ?_
          refine va_iald (i := x2) hx hb hK hP 105 0 rfl rfl (tx_in g2) dX4_agreeWith_41 ?_
          obtain ⟨g7, h⟩ := tx_ck h
          refine va_iald (i := (Z 4 x2.toNatClampNeg)) hx hb hK hP 84 0 rfl rfl (tx_in g7) dX4_agreeWith_42 ?_
          refine lv_aload_n hx hb dX4_agreeWith_43 rfl (lv_at hl 0 rfl) ?_
          refine va_get (D := G) (ci := 4) (v := .ref (za 5)) (C := RX4) (T := TX4) (N := 7) hx hb hT ku_4 hown hK hP 103 rfl rfl 4 (by decide) (hT _ kw_9_2) (fun _ h9 => h9) rfl dX4_agreeWith_44 ?_
          refine lv_iload_n hx hb dX4_agreeWith_47 rfl (lv_at hl 2 rfl) ?_
          refine va_iald (i := x2) hx hb hK hP 106 0 rfl rfl (tx_in g2) dX4_agreeWith_48 ?_
          refine lv_icmp_ne (tgt := 56) hx hb dX4_agreeWith_49 (by decide) (fun c8 => ?_) (fun c8 => ?_)
          · have h := tx_neg c8 h
            refine lv_iconst (v := 0) hx hb dX4_agreeWith_56 (by decide) ?_
            exact w_X4_agreeWith_x_ua0_J57 F k2 hk2 x2 0 H locs ls h hP hD hS (lv_sub hl [0, 1, 2] rfl)
          · have h := tx_pos c8 h
            refine lv_iconst (v := 1) hx hb dX4_agreeWith_52 (by decide) ?_
            refine lv_goto (tgt := 57) hx hb dX4_agreeWith_53 (by decide) ?_
            exact w_X4_agreeWith_x_ua0_J57 F k2 hk2 x2 1 H locs ls h hP hD hS (lv_sub hl [0, 1, 2] rfl)
set_option maxHeartbeats 4000000 in
set_option maxRecDepth 100000 in
theorem c_X4_agreeWith_x_ua0 (l : Launch) (G : va_G) (cA : Nat → ClassId) (sz : Nat) (xa : Nat → Nat) (ka : Nat → Nat) (ra : Nat → Nat) (na : Nat → Nat) (ia : Nat → Nat) (ua : Nat → Nat) (va : Nat → Nat) (ca : Nat → Nat) (za : Nat → Nat) (pa : Nat → Nat) (qa : Nat → Nat) (X : Tr) (K : Tr) (R : Tr) (P : Tr) (L : Lo) (P2 : Tr) (L2 : Lo) (Tn : Tr) (Ti : Tr) (Tu : Tr) (Tv : Tr) (C : Tr) (Z : Tr) (q0 : Nat) (q1 : Nat) (q2 : Nat) (q3 : Nat) (q4 : Nat) (q5 : Nat)  (r0 : Int32) (h : f_X4_agreeWith_x_ua0 pa qa Tu Z = some r0) : Met l yX4_agreeWith (.code yX4_agreeWith cX4_agreeWith 3 (some .boolean) :: T0) ({ frames := 0, cells := 0, slots := 0, locals := 0 } : Room) (tqP G cA [.ref (za 0), .ref (ua 0)] (wX cA xa ka ra na ia ua va ca za pa qa X K R P L P2 L2 Tn Ti Tu Tv C Z q0 q1 q2 q3 q4 q5) sz) (tqQi G cA (fun (r : Int32) (_ : Unit) => r = r0) (fun (_ : Unit) => wX cA xa ka ra na ia ua va ca za pa qa X K R P L P2 L2 Tn Ti Tu Tv C Z q0 q1 q2 q3 q4 q5) (va_A (wX cA xa ka ra na ia ua va ca za pa qa X K R P L P2 L2 Tn Ti Tu Tv C Z q0 q1 q2 q3 q4 q5) sz)) 0 0 (va_A (wX cA xa ka ra na ia ua va ca za pa qa X K R P L P2 L2 Tn Ti Tu Tv C Z q0 q1 q2 q3 q4 q5) sz) := by
  refine Met.ofW (cc := cX4_agreeWith) (maxL := 3) (ret := (some .boolean)) (by decide) rfl ?_
  intro p e s m args below meth c s₁ B hml hv
  obtain ⟨rfl, hsz, hP, hK, hD0, hN⟩ := hv
  have hx := B.exec
  have hb := B.bytes
  have hr := B.returns
  have hts := atoms_spec (ws := .code yX4_agreeWith cX4_agreeWith 3 (some .boolean) :: T0) B.pre
  have hT : ∀ w ∈ T0, w.before _ s = true := fun w h => hts w (List.mem_cons_of_mem _ h)
  have hown : s.vm.findClass RX4 = some m.cls := findClass_of_methodNamed B.named
  have hlocks := B.notSynchronized
  subst hsz
  have hD := hD0.self (sz := s.heap.size)
  generalize hAe : va_A (wX cA xa ka ra na ia ua va ca za pa qa X K R P L P2 L2 Tn Ti Tu Tv C Z q0 q1 q2 q3 q4 q5) s.heap.size = A at hD ⊢
  have hA : ∀ q : Nat, s.heap.size ≤ q → A q := fun q h => by rw [← hAe]; exact Or.inr h
  have hS : va_S A s.heap s.heap [] := va_S.rf
  have hl := lv_entry ([.ref (za 0), .ref (ua 0)]) (n := 3) (Nat.le_of_ble_eq_true rfl)
  rw [lg_entry_eq]
  generalize (lg_sl ([.ref (za 0), .ref (ua 0)]) ++ List.replicate (3 - (lg_sl ([.ref (za 0), .ref (ua 0)])).length) Slot.unset).toArray = ls at hl ⊢
  have hl : lv_has ls 3 [(0, .ref (za 0)), (1, .ref (ua 0))] := hl
  have F : tF p s m ([.ref (za 0), .ref (ua 0)] : List Value).toArray meth c G cA A RX4 cX4_agreeWith 3 (some .boolean) := ⟨hx, hb, hr, hml, hT, hown, hlocks, hK, hN, hA⟩
  obtain ⟨H, hH⟩ : ∃ z, z = s.heap := ⟨_, rfl⟩
  rw [← hH] at hP
  have hS : va_S A s.heap H [] := by rw [hH]; exact hS
  suffices hgo : G_X4_agreeWith_x_ua0 p l e s m below meth c G cA A xa ka ra na ia ua va ca za pa qa X K R P L P2 L2 Tn Ti Tu Tv C Z q0 q1 q2 q3 q4 q5 r0 H [] (F0 m 0 ls []) by rw [hH] at hgo; exact hgo
  generalize ([] : List Loc) = locs at hS ⊢
  unfold f_X4_agreeWith_x_ua0 at h
  refine lv_iconst (v := 0) hx hb dX4_agreeWith_0 (by decide) ?_
  refine lv_istore_n (lv' := [(2, .int 0), (0, .ref (za 0)), (1, .ref (ua 0))]) hx hb dX4_agreeWith_1 rfl hl (by decide) rfl (fun ls hl => ?_)
  exact w_X4_agreeWith_x_ua0_L2 F 2000 0 H locs ls h hP hD hS (lv_sub hl [1, 2, 0] rfl)
abbrev G_X7_agreesIfIn (p : Program) (l : Launch) (e : Env) (s : State) (m : MethodId) (below : List Frame) (meth : Method) (c : Code) (G : va_G) (cA : Nat → ClassId) (A : Nat → Prop) (xa : Nat → Nat) (ka : Nat → Nat) (ra : Nat → Nat) (na : Nat → Nat) (ia : Nat → Nat) (ua : Nat → Nat) (va : Nat → Nat) (ca : Nat → Nat) (za : Nat → Nat) (pa : Nat → Nat) (qa : Nat → Nat) (X : Tr) (K : Tr) (R : Tr) (P : Tr) (P2 : Tr) (L2 : Lo) (Tn : Tr) (Ti : Tr) (Tv : Tr) (C : Tr) (Z : Tr) (q0 : Nat) (q1 : Nat) (q3 : Nat) (q4 : Nat) (q5 : Nat) (x1 : Int32) (x2 : Int32) (r0 : Int32) (L' : Lo) (Tu' : Tr) (q2' : Nat) (H : Heap) (locs : List Loc) (g : JFrame) : Prop := W p l e (headSpec (.code yX7_agreesIfIn cX7_agreesIfIn 4 (some .boolean) :: T0) ({ frames := 6, cells := 0, slots := 0, locals := 144 } : Room)).room s m ([.ref (xa 0), .int x1, .int x2] : List Value).toArray below meth c H locs 0 0 (MQ below (tqQi G cA (fun (r : Int32) (_ : Unit) => r = r0) (fun (_ : Unit) => wX cA xa ka ra na ia ua va ca za pa qa X K R P (L') P2 L2 Tn Ti (Tu') Tv C Z q0 q1 (q2') q3 q4 q5) A) ([.ref (xa 0), .int x1, .int x2] : List Value).toArray s 0 0 A) g
set_option maxHeartbeats 4000000 in
set_option maxRecDepth 100000 in
theorem w_X7_agreesIfIn_L47 {p : Program} {l : Launch} {e : Env} {s : State} {m : MethodId} {below : List Frame} {meth : Method} {c : Code} {G : va_G} {cA : Nat → ClassId} {A : Nat → Prop} {xa : Nat → Nat} {ka : Nat → Nat} {ra : Nat → Nat} {na : Nat → Nat} {ia : Nat → Nat} {ua : Nat → Nat} {va : Nat → Nat} {ca : Nat → Nat} {za : Nat → Nat} {pa : Nat → Nat} {qa : Nat → Nat} {X : Tr} {K : Tr} {R : Tr} {P : Tr} {P2 : Tr} {L2 : Lo} {Tn : Tr} {Ti : Tr} {Tv : Tr} {C : Tr} {Z : Tr} {q0 : Nat} {q1 : Nat} {q3 : Nat} {q4 : Nat} {q5 : Nat} {x1₀ : Int32} {x2₀ : Int32} {r0 : Int32} {L' : Lo} {Tu' : Tr} {q2' : Nat} {q2 : Nat} (F : tF p s m ([.ref (xa 0), .int x1₀, .int x2₀] : List Value).toArray meth c G cA A RX7 cX7_agreesIfIn 4 (some .boolean))    (N : Nat) : ∀ (x3 : Int32) (L : Lo) (Tu : Tr) (H : Heap) (locs : List Loc) (ls : Array Slot), lpF (fun _ _ _ => none) (fB_X7_agreesIfIn_L47 pa qa P Z q2 q4) N x3 L Tu = some (r0, L', Tu', q2') → va_P G vwCl (wX cA xa ka ra na ia ua va ca za pa qa X K R P L P2 L2 Tn Ti Tu Tv C Z q0 q1 q2 q3 q4 q5) H → va_D A (wX cA xa ka ra na ia ua va ca za pa qa X K R P L P2 L2 Tn Ti Tu Tv C Z q0 q1 q2 q3 q4 q5) → va_S A s.heap H locs → lv_has ls 4 [(0, .ref (xa 0)), (3, .int x3)] → G_X7_agreesIfIn p l e s m below meth c G cA A xa ka ra na ia ua va ca za pa qa X K R P P2 L2 Tn Ti Tv C Z q0 q1 q3 q4 q5 x1₀ x2₀ r0 L' Tu' q2' H locs (F0 m 47 ls []) := by
  obtain ⟨hx, hb, hr, hml, hT, hown, hlocks, hK, hN, hA⟩ := id F
  induction N with
  | zero =>
    intro x3 L Tu H locs ls h
    have h : (none : Option (Int32 × Lo × Tr × Nat)) = some (r0, L', Tu', q2') := h
    cases h
  | succ N hk47 =>
    intro x3 L Tu H locs ls h hP hD hS hl
    have h : fB_X7_agreesIfIn_L47 pa qa P Z q2 q4 (lpF (fun _ _ _ => none) (fB_X7_agreesIfIn_L47 pa qa P Z q2 q4) N) x3 L Tu = some (r0, L', Tu', q2') := h
    generalize hk47e : lpF (fun _ _ _ => none) (fB_X7_agreesIfIn_L47 pa qa P Z q2 q4) N = k47 at h hk47
    unfold fB_X7_agreesIfIn_L47 at h
    refine lv_iload_n hx hb dX7_agreesIfIn_47 rfl (lv_at hl 1 rfl) ?_
    refine lv_bipush (v := 20) hx hb dX7_agreesIfIn_48 (by decide) ?_
    refine lv_icmp_ge (tgt := 106) hx hb dX7_agreesIfIn_50 (by decide) (fun c11 => ?_) (fun c11 => ?_)
    · have h := tx_pos c11 h
      refine lv_iconst (v := 1) hx hb dX7_agreesIfIn_106 (by decide) ?_
      obtain ⟨rfl, rfl, rfl, rfl⟩ := tx_4 h
      exact W.zret (ty := .boolean) hx hb hr rfl (fun t ht hW => ⟨⟨_, (), rfl, rfl, by rw [ht]; exact hP, hD⟩, hS.F ht⟩) hS.2.2 dX7_agreesIfIn_107
    · have h := tx_neg c11 h
      refine lv_aload_n hx hb dX7_agreesIfIn_53 rfl (lv_at hl 0 rfl) ?_
      refine va_get (D := G) (ci := 7) (v := .ref (ua 0)) (C := RX7) (T := TX7) (N := 12) hx hb hT ku_7 hown hK hP 0 rfl rfl 5 (by decide) (hT _ kw_2_3) (fun _ h9 => h9) rfl dX7_agreesIfIn_54 ?_
      refine lv_aload_n hx hb dX7_agreesIfIn_57 rfl (lv_at hl 0 rfl) ?_
      refine va_get (D := G) (ci := 7) (v := .ref q4) (C := RX7) (T := TX7) (N := 12) hx hb hT ku_7 hown hK hP 0 rfl rfl 1 (by decide) (hT _ kw_1_20) (fun _ h9 => h9) rfl dX7_agreesIfIn_58 ?_
      obtain ⟨g12, h⟩ := tx_ck h
      have eg12 := of_decide_eq_true g12
      subst eg12
      refine va_get (D := G) (ci := 2) (v := .ref (pa 18)) (C := RX2) (T := TX2) (N := 19) hx hb hT ku_2 hown hK hP 9 rfl rfl 17 (by decide) (hT _ kw_32_23) (fun _ h9 => h9) rfl dX7_agreesIfIn_61 ?_
      refine lv_iload_n hx hb dX7_agreesIfIn_64 rfl (lv_at hl 1 rfl) ?_
      obtain ⟨g13, h⟩ := tx_ck h
      refine va_iald (i := x3) hx hb hK hP 20 0 rfl rfl (tx_in g13) dX7_agreesIfIn_65 ?_
      obtain ⟨g14, h⟩ := tx_ck h
      have eg14 := of_decide_eq_true g14
      subst eg14
      obtain ⟨⟨r15, Tu_16, L_17⟩, hc18, h⟩ := tx_bd h
      replace h := tx_let (y := r15) rfl h
      replace h := tx_let (y := Tu_16) rfl h
      replace h := tx_let (y := L_17) rfl h
      refine tw_ci pX_ua hP hD hS hA (va_runV (As := [.int (P 18 x3.toNatClampNeg)]) (rest := []) ⟨hx, hb, hml, hown, hT⟩ (c_X6_takeDown l G cA H.size ua pa Tu P L (P 18 x3.toNatClampNeg)  r15 Tu_16 L_17 hc18) (cwV 1 hT (tq_gV kw_46_23 kw_40_13 kw_40_14 kw_1_23 kw_40_15) rfl rfl rfl (by decide +kernel) ⟨Nat.le_of_ble_eq_true rfl, Nat.le_of_ble_eq_true rfl⟩) ⟨(tw_pre pX_ua hP hD hK hN).1, va_recv hK hP (ci := 6) (q0 := 77) rfl rfl, (tw_pre pX_ua hP hD hK hN).2⟩ rfl rfl hl.1 rfl (lv_room (Nat.le_of_ble_eq_true rfl)) dX7_agreesIfIn_66 ⟨Nat.le_of_ble_eq_true rfl, Nat.le_of_ble_eq_true rfl⟩) (fun _ _ H locs z19 hP hD hS => ?_)
      subst z19
      replace hP := tw_P pX_ua.symm hP
      replace hD := tw_D pX_ua.symm hD
      have hP : va_P G vwCl (wX cA xa ka ra na ia ua va ca za pa qa X K R P L_17 P2 L2 Tn Ti Tu_16 Tv C Z q0 q1 (pa 0) q3 (pa 0) q5) H := hP
      have hD : va_D A (wX cA xa ka ra na ia ua va ca za pa qa X K R P L_17 P2 L2 Tn Ti Tu_16 Tv C Z q0 q1 (pa 0) q3 (pa 0) q5) := hD
      refine lv_pop hx hb dX7_agreesIfIn_69 rfl ?_
      refine lv_aload_n hx hb dX7_agreesIfIn_70 rfl (lv_at hl 0 rfl) ?_
      refine va_get (D := G) (ci := 7) (v := .ref (ua 0)) (C := RX7) (T := TX7) (N := 12) hx hb hT ku_7 hown hK hP 0 rfl rfl 5 (by decide) (hT _ kw_2_3) (fun _ h9 => h9) rfl dX7_agreesIfIn_71 ?_
      obtain ⟨Tu_20, hc21, h⟩ := tx_bd h
      refine tw_cv pX_ua hP hD hS hA (va_runV (As := []) (rest := []) ⟨hx, hb, hml, hown, hT⟩ (c_X6_getIn l G cA H.size ua pa Tu_16 P L_17  Tu_20 hc21) (cwV 0 hT (tq_gV kw_47_4 kw_41_13 kw_41_14 kw_1_23 kw_41_15) rfl rfl rfl (by decide +kernel) ⟨Nat.le_of_ble_eq_true rfl, Nat.le_of_ble_eq_true rfl⟩) ⟨(tw_pre pX_ua hP hD hK hN).1, va_recv hK hP (ci := 6) (q0 := 77) rfl rfl, (tw_pre pX_ua hP hD hK hN).2⟩ rfl rfl hl.1 rfl (lv_room (Nat.le_of_ble_eq_true rfl)) dX7_agreesIfIn_74 ⟨Nat.le_of_ble_eq_true rfl, Nat.le_of_ble_eq_true rfl⟩) (fun _ H locs z22 hP hD hS => ?_)
      replace hP := tw_P pX_ua.symm hP
      replace hD := tw_D pX_ua.symm hD
      have hP : va_P G vwCl (wX cA xa ka ra na ia ua va ca za pa qa X K R P L_17 P2 L2 Tn Ti Tu_20 Tv C Z q0 q1 (pa 0) q3 (pa 0) q5) H := hP
      have hD : va_D A (wX cA xa ka ra na ia ua va ca za pa qa X K R P L_17 P2 L2 Tn Ti Tu_20 Tv C Z q0 q1 (pa 0) q3 (pa 0) q5) := hD
      refine lv_aload_n hx hb dX7_agreesIfIn_77 rfl (lv_at hl 0 rfl) ?_
      refine va_get (D := G) (ci := 7) (v := .ref (za 0)) (C := RX7) (T := TX7) (N := 12) hx hb hT ku_7 hown hK hP 0 rfl rfl 8 (by decide) (hT _ kw_2_12) (fun _ h9 => h9) rfl dX7_agreesIfIn_78 ?_
      refine lv_aload_n hx hb dX7_agreesIfIn_81 rfl (lv_at hl 0 rfl) ?_
      refine va_get (D := G) (ci := 7) (v := .ref (ua 0)) (C := RX7) (T := TX7) (N := 12) hx hb hT ku_7 hown hK hP 0 rfl rfl 5 (by decide) (hT _ kw_2_3) (fun _ h9 => h9) rfl dX7_agreesIfIn_82 ?_
      obtain ⟨r23, hc24, h⟩ := tx_bd h
      refine tw_ci tw_all hP hD hS hA (va_runV (As := [.ref (ua 0)]) (rest := []) ⟨hx, hb, hml, hown, hT⟩ (c_X4_agreeWith_x_ua0 l G cA H.size xa ka ra na ia ua va ca za pa qa X K R P L_17 P2 L2 Tn Ti Tu_20 Tv C Z q0 q1 (pa 0) q3 (pa 0) q5  r23 hc24) (cwV 1 hT (tq_gV kw_56_0 kw_56_1 kw_56_2 kw_2_11 kw_56_3) rfl rfl rfl (by decide +kernel) ⟨Nat.le_of_ble_eq_true rfl, Nat.le_of_ble_eq_true rfl⟩) ⟨(tw_pre tw_all hP hD hK hN).1, va_recv hK hP (ci := 4) (q0 := 103) rfl rfl, (tw_pre tw_all hP hD hK hN).2⟩ rfl rfl hl.1 rfl (lv_room (Nat.le_of_ble_eq_true rfl)) dX7_agreesIfIn_85 ⟨Nat.le_of_ble_eq_true rfl, Nat.le_of_ble_eq_true rfl⟩) (fun _ _ H locs z25 hP hD hS => ?_)
      subst z25
      rw [List.append_nil] at hP hD
      have hP : va_P G vwCl (wX cA xa ka ra na ia ua va ca za pa qa X K R P L_17 P2 L2 Tn Ti Tu_20 Tv C Z q0 q1 (pa 0) q3 (pa 0) q5) H := hP
      have hD : va_D A (wX cA xa ka ra na ia ua va ca za pa qa X K R P L_17 P2 L2 Tn Ti Tu_20 Tv C Z q0 q1 (pa 0) q3 (pa 0) q5) := hD
      refine lv_if_ne (tgt := 93) hx hb dX7_agreesIfIn_88 (by decide) (fun c26 => ?_) (fun c26 => ?_)
      · have h := tx_neg c26 h
        refine lv_aload_n hx hb dX7_agreesIfIn_93 rfl (lv_at hl 0 rfl) ?_
        refine va_get (D := G) (ci := 7) (v := .ref (ua 0)) (C := RX7) (T := TX7) (N := 12) hx hb hT ku_7 hown hK hP 0 rfl rfl 5 (by decide) (hT _ kw_2_3) (fun _ h9 => h9) rfl dX7_agreesIfIn_94 ?_
        obtain ⟨⟨Tu_27, L_28⟩, hc29, h⟩ := tx_bd h
        replace h := tx_let (y := Tu_27) rfl h
        replace h := tx_let (y := L_28) rfl h
        refine tw_cv pX_ua hP hD hS hA (va_runV (As := []) (rest := []) ⟨hx, hb, hml, hown, hT⟩ (c_X6_wayOn l G cA H.size ua pa Tu_20 P L_17  Tu_27 L_28 hc29) (cwV 0 hT (tq_gV kw_47_9 kw_42_4 kw_42_5 kw_1_23 kw_42_6) rfl rfl rfl (by decide +kernel) ⟨Nat.le_of_ble_eq_true rfl, Nat.le_of_ble_eq_true rfl⟩) ⟨(tw_pre pX_ua hP hD hK hN).1, va_recv hK hP (ci := 6) (q0 := 77) rfl rfl, (tw_pre pX_ua hP hD hK hN).2⟩ rfl rfl hl.1 rfl (lv_room (Nat.le_of_ble_eq_true rfl)) dX7_agreesIfIn_97 ⟨Nat.le_of_ble_eq_true rfl, Nat.le_of_ble_eq_true rfl⟩) (fun _ H locs z30 hP hD hS => ?_)
        replace hP := tw_P pX_ua.symm hP
        replace hD := tw_D pX_ua.symm hD
        have hP : va_P G vwCl (wX cA xa ka ra na ia ua va ca za pa qa X K R P L_28 P2 L2 Tn Ti Tu_27 Tv C Z q0 q1 (pa 0) q3 (pa 0) q5) H := hP
        have hD : va_D A (wX cA xa ka ra na ia ua va ca za pa qa X K R P L_28 P2 L2 Tn Ti Tu_27 Tv C Z q0 q1 (pa 0) q3 (pa 0) q5) := hD
        obtain ⟨y31, ey31, h⟩ := tx_lt h
        refine lv_iinc (v := y31) (lv' := [(3, .int y31), (0, .ref (xa 0))]) hx hb dX7_agreesIfIn_100 hl (k := 1) rfl ey31 (by decide) rfl (fun ls hl => ?_)
        refine lv_goto (tgt := 47) hx hb dX7_agreesIfIn_103 (by decide) ?_
        exact hk47 y31 L_28 Tu_27 H locs ls h hP hD hS (lv_sub hl [1, 0] rfl)
      · have h := tx_pos c26 h
        refine lv_iconst (v := 0) hx hb dX7_agreesIfIn_91 (by decide) ?_
        obtain ⟨rfl, rfl, rfl, rfl⟩ := tx_4 h
        exact W.zret (ty := .boolean) hx hb hr rfl (fun t ht hW => ⟨⟨_, (), rfl, rfl, by rw [ht]; exact hP, hD⟩, hS.F ht⟩) hS.2.2 dX7_agreesIfIn_92
set_option maxHeartbeats 4000000 in
set_option maxRecDepth 100000 in
theorem c_X7_agreesIfIn (l : Launch) (G : va_G) (cA : Nat → ClassId) (sz : Nat) (xa : Nat → Nat) (ka : Nat → Nat) (ra : Nat → Nat) (na : Nat → Nat) (ia : Nat → Nat) (ua : Nat → Nat) (va : Nat → Nat) (ca : Nat → Nat) (za : Nat → Nat) (pa : Nat → Nat) (qa : Nat → Nat) (X : Tr) (K : Tr) (R : Tr) (P : Tr) (L : Lo) (P2 : Tr) (L2 : Lo) (Tn : Tr) (Ti : Tr) (Tu : Tr) (Tv : Tr) (C : Tr) (Z : Tr) (q0 : Nat) (q1 : Nat) (q2 : Nat) (q3 : Nat) (q4 : Nat) (q5 : Nat) (x1 : Int32) (x2 : Int32)  (r0 : Int32) (L' : Lo) (Tu' : Tr) (q2' : Nat) (h : f_X7_agreesIfIn pa qa P L Tu Z q2 q4 x1 x2 = some (r0, L', Tu', q2')) : Met l yX7_agreesIfIn (.code yX7_agreesIfIn cX7_agreesIfIn 4 (some .boolean) :: T0) ({ frames := 6, cells := 0, slots := 0, locals := 144 } : Room) (tqP G cA [.ref (xa 0), .int x1, .int x2] (wX cA xa ka ra na ia ua va ca za pa qa X K R P L P2 L2 Tn Ti Tu Tv C Z q0 q1 q2 q3 q4 q5) sz) (tqQi G cA (fun (r : Int32) (_ : Unit) => r = r0) (fun (_ : Unit) => wX cA xa ka ra na ia ua va ca za pa qa X K R P (L') P2 L2 Tn Ti (Tu') Tv C Z q0 q1 (q2') q3 q4 q5) (va_A (wX cA xa ka ra na ia ua va ca za pa qa X K R P L P2 L2 Tn Ti Tu Tv C Z q0 q1 q2 q3 q4 q5) sz)) 0 0 (va_A (wX cA xa ka ra na ia ua va ca za pa qa X K R P L P2 L2 Tn Ti Tu Tv C Z q0 q1 q2 q3 q4 q5) sz) := by
  refine Met.ofW (cc := cX7_agreesIfIn) (maxL := 4) (ret := (some .boolean)) (by decide) rfl ?_
  intro p e s m args below meth c s₁ B hml hv
  obtain ⟨rfl, hsz, hP, hK, hD0, hN⟩ := hv
  have hx := B.exec
  have hb := B.bytes
  have hr := B.returns
  have hts := atoms_spec (ws := .code yX7_agreesIfIn cX7_agreesIfIn 4 (some .boolean) :: T0) B.pre
  have hT : ∀ w ∈ T0, w.before _ s = true := fun w h => hts w (List.mem_cons_of_mem _ h)
  have hown : s.vm.findClass RX7 = some m.cls := findClass_of_methodNamed B.named
  have hlocks := B.notSynchronized
  subst hsz
  have hD := hD0.self (sz := s.heap.size)
  generalize hAe : va_A (wX cA xa ka ra na ia ua va ca za pa qa X K R P L P2 L2 Tn Ti Tu Tv C Z q0 q1 q2 q3 q4 q5) s.heap.size = A at hD ⊢
  have hA : ∀ q : Nat, s.heap.size ≤ q → A q := fun q h => by rw [← hAe]; exact Or.inr h
  have hS : va_S A s.heap s.heap [] := va_S.rf
  have hl := lv_entry ([.ref (xa 0), .int x1, .int x2]) (n := 4) (Nat.le_of_ble_eq_true rfl)
  rw [lg_entry_eq]
  generalize (lg_sl ([.ref (xa 0), .int x1, .int x2]) ++ List.replicate (4 - (lg_sl ([.ref (xa 0), .int x1, .int x2])).length) Slot.unset).toArray = ls at hl ⊢
  have hl : lv_has ls 4 [(0, .ref (xa 0)), (1, .int x1), (2, .int x2)] := hl
  have F : tF p s m ([.ref (xa 0), .int x1, .int x2] : List Value).toArray meth c G cA A RX7 cX7_agreesIfIn 4 (some .boolean) := ⟨hx, hb, hr, hml, hT, hown, hlocks, hK, hN, hA⟩
  obtain ⟨H, hH⟩ : ∃ z, z = s.heap := ⟨_, rfl⟩
  rw [← hH] at hP
  have hS : va_S A s.heap H [] := by rw [hH]; exact hS
  suffices hgo : G_X7_agreesIfIn p l e s m below meth c G cA A xa ka ra na ia ua va ca za pa qa X K R P P2 L2 Tn Ti Tv C Z q0 q1 q3 q4 q5 x1 x2 r0 L' Tu' q2' H [] (F0 m 0 ls []) by rw [hH] at hgo; exact hgo
  generalize ([] : List Loc) = locs at hS ⊢
  unfold f_X7_agreesIfIn at h
  refine lv_aload_n hx hb dX7_agreesIfIn_0 rfl (lv_at hl 0 rfl) ?_
  refine va_get (D := G) (ci := 7) (v := .ref (ua 0)) (C := RX7) (T := TX7) (N := 12) hx hb hT ku_7 hown hK hP 0 rfl rfl 5 (by decide) (hT _ kw_2_3) (fun _ h9 => h9) rfl dX7_agreesIfIn_1 ?_
  refine lv_aload_n hx hb dX7_agreesIfIn_4 rfl (lv_at hl 0 rfl) ?_
  refine va_get (D := G) (ci := 7) (v := .ref q4) (C := RX7) (T := TX7) (N := 12) hx hb hT ku_7 hown hK hP 0 rfl rfl 1 (by decide) (hT _ kw_1_20) (fun _ h9 => h9) rfl dX7_agreesIfIn_5 ?_
  obtain ⟨g1, h⟩ := tx_ck h
  have eg1 := of_decide_eq_true g1
  subst eg1
  obtain ⟨⟨Tu_2, q2_3⟩, hc4, h⟩ := tx_bd h
  replace h := tx_let (y := Tu_2) rfl h
  replace h := tx_let (y := q2_3) rfl h
  refine tw_cv pX_ua_pa hP hD hS hA (va_runV (As := [.ref (pa 0)]) (rest := []) ⟨hx, hb, hml, hown, hT⟩ (c_X6_begin l G cA H.size ua pa Tu P q2  Tu_2 q2_3 hc4) (cwV 1 hT (tq_gV kw_22_2 kw_7_22 kw_7_23 kw_1_23 kw_8_0) rfl rfl rfl (by decide +kernel) ⟨Nat.le_of_ble_eq_true rfl, Nat.le_of_ble_eq_true rfl⟩) ⟨(tw_pre pX_ua_pa hP hD hK hN).1, va_recv hK hP (ci := 6) (q0 := 77) rfl rfl, (tw_pre pX_ua_pa hP hD hK hN).2⟩ rfl rfl hl.1 rfl (lv_room (Nat.le_of_ble_eq_true rfl)) dX7_agreesIfIn_8 ⟨Nat.le_of_ble_eq_true rfl, Nat.le_of_ble_eq_true rfl⟩) (fun _ H locs z5 hP hD hS => ?_)
  replace hP := tw_P pX_ua_pa.symm hP
  replace hD := tw_D pX_ua_pa.symm hD
  have hP : va_P G vwCl (wX cA xa ka ra na ia ua va ca za pa qa X K R P L P2 L2 Tn Ti Tu_2 Tv C Z q0 q1 q2_3 q3 (pa 0) q5) H := hP
  have hD : va_D A (wX cA xa ka ra na ia ua va ca za pa qa X K R P L P2 L2 Tn Ti Tu_2 Tv C Z q0 q1 q2_3 q3 (pa 0) q5) := hD
  refine lv_aload_n hx hb dX7_agreesIfIn_11 rfl (lv_at hl 0 rfl) ?_
  refine va_get (D := G) (ci := 7) (v := .ref (ua 0)) (C := RX7) (T := TX7) (N := 12) hx hb hT ku_7 hown hK hP 0 rfl rfl 5 (by decide) (hT _ kw_2_3) (fun _ h9 => h9) rfl dX7_agreesIfIn_12 ?_
  refine lv_iconst (v := 0) hx hb dX7_agreesIfIn_15 (by decide) ?_
  refine va_put (D := G) (ci := 6) (v := .int 0) (ty := .boolean) (C := RX6) (T := TX6) (N := 20) hx hb hT ku_6 tyX6 tyX6_ok nmX6 hown hK hP hD hS 77 rfl rfl 5 (by decide) (hT _ kw_40_6) (fun _ h9 => h9) rfl (by decide +kernel) rfl rfl (Nat.le_of_ble_eq_true rfl) dX7_agreesIfIn_16 (fun H locs hP hD hS => ?_)
  obtain ⟨Tu_6, eTu_6, h⟩ := tx_lt h
  rw [sX_ua_f5, eTu_6] at hP hD
  refine lv_aload_n hx hb dX7_agreesIfIn_19 rfl (lv_at hl 0 rfl) ?_
  refine va_get (D := G) (ci := 7) (v := .ref (ua 0)) (C := RX7) (T := TX7) (N := 12) hx hb hT ku_7 hown hK hP 0 rfl rfl 5 (by decide) (hT _ kw_2_3) (fun _ h9 => h9) rfl dX7_agreesIfIn_20 ?_
  refine lv_iconst (v := 1) hx hb dX7_agreesIfIn_23 (by decide) ?_
  refine va_put (D := G) (ci := 6) (v := .int 1) (ty := .boolean) (C := RX6) (T := TX6) (N := 20) hx hb hT ku_6 tyX6 tyX6_ok nmX6 hown hK hP hD hS 77 rfl rfl 6 (by decide) (hT _ kw_46_21) (fun _ h9 => h9) rfl (by decide +kernel) rfl rfl (Nat.le_of_ble_eq_true rfl) dX7_agreesIfIn_24 (fun H locs hP hD hS => ?_)
  obtain ⟨Tu_7, eTu_7, h⟩ := tx_lt h
  rw [sX_ua_f6, eTu_7] at hP hD
  refine lv_aload_n hx hb dX7_agreesIfIn_27 rfl (lv_at hl 0 rfl) ?_
  refine va_get (D := G) (ci := 7) (v := .ref (ua 0)) (C := RX7) (T := TX7) (N := 12) hx hb hT ku_7 hown hK hP 0 rfl rfl 5 (by decide) (hT _ kw_2_3) (fun _ h9 => h9) rfl dX7_agreesIfIn_28 ?_
  refine lv_iconst (v := 1) hx hb dX7_agreesIfIn_31 (by decide) ?_
  refine va_put (D := G) (ci := 6) (v := .int 1) (ty := .boolean) (C := RX6) (T := TX6) (N := 20) hx hb hT ku_6 tyX6 tyX6_ok nmX6 hown hK hP hD hS 77 rfl rfl 7 (by decide) (hT _ kw_46_22) (fun _ h9 => h9) rfl (by decide +kernel) rfl rfl (Nat.le_of_ble_eq_true rfl) dX7_agreesIfIn_32 (fun H locs hP hD hS => ?_)
  obtain ⟨Tu_8, eTu_8, h⟩ := tx_lt h
  rw [sX_ua_f7, eTu_8] at hP hD
  refine lv_aload_n hx hb dX7_agreesIfIn_35 rfl (lv_at hl 0 rfl) ?_
  refine va_get (D := G) (ci := 7) (v := .ref (ua 0)) (C := RX7) (T := TX7) (N := 12) hx hb hT ku_7 hown hK hP 0 rfl rfl 5 (by decide) (hT _ kw_2_3) (fun _ h9 => h9) rfl dX7_agreesIfIn_36 ?_
  refine va_get (D := G) (ci := 6) (v := .ref (ua 9)) (C := RX6) (T := TX6) (N := 20) hx hb hT ku_6 hown hK hP 77 rfl rfl 8 (by decide) (hT _ kw_55_23) (fun _ h9 => h9) rfl dX7_agreesIfIn_39 ?_
  refine lv_iload_n hx hb dX7_agreesIfIn_42 rfl (lv_at hl 1 rfl) ?_
  refine lv_iload_n hx hb dX7_agreesIfIn_43 rfl (lv_at hl 2 rfl) ?_
  obtain ⟨g9, h⟩ := tx_ck h
  refine va_iast (i := x1) hx hb hK hP hD hS 78 0 rfl rfl (tx_in g9) dX7_agreesIfIn_44 (fun H locs hP hD hS => ?_)
  obtain ⟨Tu_10, eTu_10, h⟩ := tx_lt h
  rw [sX_ua_a8, eTu_10] at hP hD
  refine lv_iconst (v := 0) hx hb dX7_agreesIfIn_45 (by decide) ?_
  refine lv_istore_n (lv' := [(3, .int 0), (0, .ref (xa 0)), (1, .int x1), (2, .int x2)]) hx hb dX7_agreesIfIn_46 rfl hl (by decide) rfl (fun ls hl => ?_)
  exact w_X7_agreesIfIn_L47 F 2000 0 L Tu_10 H locs ls h hP hD hS (lv_sub hl [1, 0] rfl)
abbrev G_X6_copy (p : Program) (l : Launch) (e : Env) (s : State) (m : MethodId) (below : List Frame) (meth : Method) (c : Code) (G : va_G) (cA : Nat → ClassId) (A : Nat → Prop) (ta : Nat → Nat) (tb : Nat → Nat) (T2 : Tr) (q2 : Nat) (T' : Tr) (q' : Nat) (H : Heap) (locs : List Loc) (g : JFrame) : Prop := W p l e (headSpec (.code yX6_copy cX6_copy 2 none :: T0) ({ frames := 1, cells := 0, slots := 0, locals := 40 } : Room)).room s m ([.ref (ta 0), .ref (tb 0)] : List Value).toArray below meth c H locs 0 0 (MQ below (tqQv G cA (fun (_ : Unit) => True) (fun (_ : Unit) => wTT cA ta tb (T') T2 (q') q2) A) ([.ref (ta 0), .ref (tb 0)] : List Value).toArray s 0 0 A) g
set_option maxHeartbeats 4000000 in
set_option maxRecDepth 100000 in
theorem c_X6_copy (l : Launch) (G : va_G) (cA : Nat → ClassId) (sz : Nat) (ta : Nat → Nat) (tb : Nat → Nat) (T : Tr) (T2 : Tr) (q : Nat) (q2 : Nat)  (T' : Tr) (q' : Nat) (h : f_X6_copy T T2 q q2 = some (T', q')) : Met l yX6_copy (.code yX6_copy cX6_copy 2 none :: T0) ({ frames := 1, cells := 0, slots := 0, locals := 40 } : Room) (tqP G cA [.ref (ta 0), .ref (tb 0)] (wTT cA ta tb T T2 q q2) sz) (tqQv G cA (fun (_ : Unit) => True) (fun (_ : Unit) => wTT cA ta tb (T') T2 (q') q2) (va_A (wTT cA ta tb T T2 q q2) sz)) 0 0 (va_A (wTT cA ta tb T T2 q q2) sz) := by
  refine Met.ofW (cc := cX6_copy) (maxL := 2) (ret := none) (by decide) rfl ?_
  intro p e s m args below meth c s₁ B hml hv
  obtain ⟨rfl, hsz, hP, hK, hD0, hN⟩ := hv
  have hx := B.exec
  have hb := B.bytes
  have hr := B.returns
  have hts := atoms_spec (ws := .code yX6_copy cX6_copy 2 none :: T0) B.pre
  have hT : ∀ w ∈ T0, w.before _ s = true := fun w h => hts w (List.mem_cons_of_mem _ h)
  have hown : s.vm.findClass RX6 = some m.cls := findClass_of_methodNamed B.named
  have hlocks := B.notSynchronized
  subst hsz
  have hD := hD0.self (sz := s.heap.size)
  generalize hAe : va_A (wTT cA ta tb T T2 q q2) s.heap.size = A at hD ⊢
  have hA : ∀ q : Nat, s.heap.size ≤ q → A q := fun q h => by rw [← hAe]; exact Or.inr h
  have hS : va_S A s.heap s.heap [] := va_S.rf
  have hl := lv_entry ([.ref (ta 0), .ref (tb 0)]) (n := 2) (Nat.le_of_ble_eq_true rfl)
  rw [lg_entry_eq]
  generalize (lg_sl ([.ref (ta 0), .ref (tb 0)]) ++ List.replicate (2 - (lg_sl ([.ref (ta 0), .ref (tb 0)])).length) Slot.unset).toArray = ls at hl ⊢
  have hl : lv_has ls 2 [(0, .ref (ta 0)), (1, .ref (tb 0))] := hl
  have F : tF p s m ([.ref (ta 0), .ref (tb 0)] : List Value).toArray meth c G cA A RX6 cX6_copy 2 none := ⟨hx, hb, hr, hml, hT, hown, hlocks, hK, hN, hA⟩
  obtain ⟨H, hH⟩ : ∃ z, z = s.heap := ⟨_, rfl⟩
  rw [← hH] at hP
  have hS : va_S A s.heap H [] := by rw [hH]; exact hS
  suffices hgo : G_X6_copy p l e s m below meth c G cA A ta tb T2 q2 T' q' H [] (F0 m 0 ls []) by rw [hH] at hgo; exact hgo
  generalize ([] : List Loc) = locs at hS ⊢
  unfold f_X6_copy at h
  refine lv_aload_n hx hb dX6_copy_0 rfl (lv_at hl 0 rfl) ?_
  refine lv_aload_n hx hb dX6_copy_1 rfl (lv_at hl 1 rfl) ?_
  refine va_get (D := G) (ci := 6) (v := .ref q2) (C := RX6) (T := TX6) (N := 20) hx hb hT ku_6 hown hK hP 12 rfl rfl 19 (by decide) (hT _ kw_8_1) (fun _ h9 => h9) rfl dX6_copy_2 ?_
  refine va_put (D := G) (ci := 6) (v := .ref q2) (ty := (.object "RackTrain$Plan")) (C := RX6) (T := TX6) (N := 20) hx hb hT ku_6 tyX6 tyX6_ok nmX6 hown hK hP hD hS 0 rfl rfl 19 (by decide) (hT _ kw_8_1) (fun _ h9 => h9) rfl (by decide +kernel) rfl rfl (Nat.le_of_ble_eq_true rfl) dX6_copy_5 (fun H locs hP hD hS => ?_)
  rw [sTT_ta_r19] at hP hD
  refine lv_aload_n hx hb dX6_copy_8 rfl (lv_at hl 0 rfl) ?_
  refine lv_aload_n hx hb dX6_copy_9 rfl (lv_at hl 1 rfl) ?_
  refine va_get (D := G) (ci := 6) (v := .int (T2 0 0)) (C := RX6) (T := TX6) (N := 20) hx hb hT ku_6 hown hK hP 12 rfl rfl 0 (by decide) (hT _ kw_8_2) (fun _ h9 => h9) rfl dX6_copy_10 ?_
  refine va_put (D := G) (ci := 6) (v := .int (T2 0 0)) (ty := .int) (C := RX6) (T := TX6) (N := 20) hx hb hT ku_6 tyX6 tyX6_ok nmX6 hown hK hP hD hS 0 rfl rfl 0 (by decide) (hT _ kw_8_2) (fun _ h9 => h9) rfl (by decide +kernel) rfl rfl (Nat.le_of_ble_eq_true rfl) dX6_copy_13 (fun H locs hP hD hS => ?_)
  obtain ⟨T_1, eT_1, h⟩ := tx_lt h
  rw [sTT_ta_f0, eT_1] at hP hD
  refine lv_aload_n hx hb dX6_copy_16 rfl (lv_at hl 0 rfl) ?_
  refine lv_aload_n hx hb dX6_copy_17 rfl (lv_at hl 1 rfl) ?_
  refine va_get (D := G) (ci := 6) (v := .int (T2 0 1)) (C := RX6) (T := TX6) (N := 20) hx hb hT ku_6 hown hK hP 12 rfl rfl 1 (by decide) (hT _ kw_8_3) (fun _ h9 => h9) rfl dX6_copy_18 ?_
  refine va_put (D := G) (ci := 6) (v := .int (T2 0 1)) (ty := .int) (C := RX6) (T := TX6) (N := 20) hx hb hT ku_6 tyX6 tyX6_ok nmX6 hown hK hP hD hS 0 rfl rfl 1 (by decide) (hT _ kw_8_3) (fun _ h9 => h9) rfl (by decide +kernel) rfl rfl (Nat.le_of_ble_eq_true rfl) dX6_copy_21 (fun H locs hP hD hS => ?_)
  obtain ⟨T_2, eT_2, h⟩ := tx_lt h
  rw [sTT_ta_f1, eT_2] at hP hD
  refine lv_aload_n hx hb dX6_copy_24 rfl (lv_at hl 0 rfl) ?_
  refine lv_aload_n hx hb dX6_copy_25 rfl (lv_at hl 1 rfl) ?_
  refine va_get (D := G) (ci := 6) (v := .int (T2 0 2)) (C := RX6) (T := TX6) (N := 20) hx hb hT ku_6 hown hK hP 12 rfl rfl 2 (by decide) (hT _ kw_8_5) (fun _ h9 => h9) rfl dX6_copy_26 ?_
  refine va_put (D := G) (ci := 6) (v := .int (T2 0 2)) (ty := .int) (C := RX6) (T := TX6) (N := 20) hx hb hT ku_6 tyX6 tyX6_ok nmX6 hown hK hP hD hS 0 rfl rfl 2 (by decide) (hT _ kw_8_5) (fun _ h9 => h9) rfl (by decide +kernel) rfl rfl (Nat.le_of_ble_eq_true rfl) dX6_copy_29 (fun H locs hP hD hS => ?_)
  obtain ⟨T_3, eT_3, h⟩ := tx_lt h
  rw [sTT_ta_f2, eT_3] at hP hD
  refine lv_aload_n hx hb dX6_copy_32 rfl (lv_at hl 0 rfl) ?_
  refine lv_aload_n hx hb dX6_copy_33 rfl (lv_at hl 1 rfl) ?_
  refine va_get (D := G) (ci := 6) (v := .int (T2 0 3)) (C := RX6) (T := TX6) (N := 20) hx hb hT ku_6 hown hK hP 12 rfl rfl 3 (by decide) (hT _ kw_8_7) (fun _ h9 => h9) rfl dX6_copy_34 ?_
  refine va_put (D := G) (ci := 6) (v := .int (T2 0 3)) (ty := .int) (C := RX6) (T := TX6) (N := 20) hx hb hT ku_6 tyX6 tyX6_ok nmX6 hown hK hP hD hS 0 rfl rfl 3 (by decide) (hT _ kw_8_7) (fun _ h9 => h9) rfl (by decide +kernel) rfl rfl (Nat.le_of_ble_eq_true rfl) dX6_copy_37 (fun H locs hP hD hS => ?_)
  obtain ⟨T_4, eT_4, h⟩ := tx_lt h
  rw [sTT_ta_f3, eT_4] at hP hD
  refine lv_aload_n hx hb dX6_copy_40 rfl (lv_at hl 0 rfl) ?_
  refine lv_aload_n hx hb dX6_copy_41 rfl (lv_at hl 1 rfl) ?_
  refine va_get (D := G) (ci := 6) (v := .int (T2 0 4)) (C := RX6) (T := TX6) (N := 20) hx hb hT ku_6 hown hK hP 12 rfl rfl 4 (by decide) (hT _ kw_8_9) (fun _ h9 => h9) rfl dX6_copy_42 ?_
  refine va_put (D := G) (ci := 6) (v := .int (T2 0 4)) (ty := .int) (C := RX6) (T := TX6) (N := 20) hx hb hT ku_6 tyX6 tyX6_ok nmX6 hown hK hP hD hS 0 rfl rfl 4 (by decide) (hT _ kw_8_9) (fun _ h9 => h9) rfl (by decide +kernel) rfl rfl (Nat.le_of_ble_eq_true rfl) dX6_copy_45 (fun H locs hP hD hS => ?_)
  obtain ⟨T_5, eT_5, h⟩ := tx_lt h
  rw [sTT_ta_f4, eT_5] at hP hD
  refine lv_aload_n hx hb dX6_copy_48 rfl (lv_at hl 1 rfl) ?_
  refine va_get (D := G) (ci := 6) (v := .ref (tb 9)) (C := RX6) (T := TX6) (N := 20) hx hb hT ku_6 hown hK hP 12 rfl rfl 8 (by decide) (hT _ kw_7_7) (fun _ h9 => h9) rfl dX6_copy_49 ?_
  refine lv_iconst (v := 0) hx hb dX6_copy_52 (by decide) ?_
  refine lv_aload_n hx hb dX6_copy_53 rfl (lv_at hl 0 rfl) ?_
  refine va_get (D := G) (ci := 6) (v := .ref (ta 9)) (C := RX6) (T := TX6) (N := 20) hx hb hT ku_6 hown hK hP 0 rfl rfl 8 (by decide) (hT _ kw_7_7) (fun _ h9 => h9) rfl dX6_copy_54 ?_
  refine lv_iconst (v := 0) hx hb dX6_copy_57 (by decide) ?_
  refine lv_bipush (v := 6) hx hb dX6_copy_58 (by decide) ?_
  refine va_copyi (ty := .int) (sp := 0) (dp := 0) (n := 6) hx hb (hml.trans hl.1.symm) hown (hT _ kw_38_10) (hT _ kw_36_15) (hT _ kw_36_16) (hT _ kw_36_17) hK hP hD hS 13 1 0 0 rfl rfl rfl rfl rfl (by decide) (by decide) (by decide) (by decide) (by decide) (fun _ _ => rfl) (Nat.le_of_ble_eq_true rfl) (by decide) dX6_copy_60 (fun H locs hP hD hS => ?_)
  try rw [show (0 : Int32).toNatClampNeg = 0 from rfl] at hP hD
  try rw [show (0 : Int32).toNatClampNeg = 0 from rfl] at hP hD
  try rw [show (6 : Int32).toNatClampNeg = 6 from rfl] at hP hD
  obtain ⟨T_6, eT_6, h⟩ := tx_lt h
  rw [sTT_ta_c8, eT_6] at hP hD
  refine lv_aload_n hx hb dX6_copy_63 rfl (lv_at hl 1 rfl) ?_
  refine va_get (D := G) (ci := 6) (v := .ref (tb 10)) (C := RX6) (T := TX6) (N := 20) hx hb hT ku_6 hown hK hP 12 rfl rfl 9 (by decide) (hT _ kw_7_8) (fun _ h9 => h9) rfl dX6_copy_64 ?_
  refine lv_iconst (v := 0) hx hb dX6_copy_67 (by decide) ?_
  refine lv_aload_n hx hb dX6_copy_68 rfl (lv_at hl 0 rfl) ?_
  refine va_get (D := G) (ci := 6) (v := .ref (ta 10)) (C := RX6) (T := TX6) (N := 20) hx hb hT ku_6 hown hK hP 0 rfl rfl 9 (by decide) (hT _ kw_7_8) (fun _ h9 => h9) rfl dX6_copy_69 ?_
  refine lv_iconst (v := 0) hx hb dX6_copy_72 (by decide) ?_
  refine lv_bipush (v := 6) hx hb dX6_copy_73 (by decide) ?_
  refine va_copyi (ty := .int) (sp := 0) (dp := 0) (n := 6) hx hb (hml.trans hl.1.symm) hown (hT _ kw_38_10) (hT _ kw_36_15) (hT _ kw_36_16) (hT _ kw_36_17) hK hP hD hS 14 2 0 0 rfl rfl rfl rfl rfl (by decide) (by decide) (by decide) (by decide) (by decide) (fun _ _ => rfl) (Nat.le_of_ble_eq_true rfl) (by decide) dX6_copy_75 (fun H locs hP hD hS => ?_)
  try rw [show (0 : Int32).toNatClampNeg = 0 from rfl] at hP hD
  try rw [show (0 : Int32).toNatClampNeg = 0 from rfl] at hP hD
  try rw [show (6 : Int32).toNatClampNeg = 6 from rfl] at hP hD
  obtain ⟨T_7, eT_7, h⟩ := tx_lt h
  rw [sTT_ta_c9, eT_7] at hP hD
  refine lv_aload_n hx hb dX6_copy_78 rfl (lv_at hl 1 rfl) ?_
  refine va_get (D := G) (ci := 6) (v := .ref (tb 11)) (C := RX6) (T := TX6) (N := 20) hx hb hT ku_6 hown hK hP 12 rfl rfl 10 (by decide) (hT _ kw_7_9) (fun _ h9 => h9) rfl dX6_copy_79 ?_
  refine lv_iconst (v := 0) hx hb dX6_copy_82 (by decide) ?_
  refine lv_aload_n hx hb dX6_copy_83 rfl (lv_at hl 0 rfl) ?_
  refine va_get (D := G) (ci := 6) (v := .ref (ta 11)) (C := RX6) (T := TX6) (N := 20) hx hb hT ku_6 hown hK hP 0 rfl rfl 10 (by decide) (hT _ kw_7_9) (fun _ h9 => h9) rfl dX6_copy_84 ?_
  refine lv_iconst (v := 0) hx hb dX6_copy_87 (by decide) ?_
  refine lv_bipush (v := 6) hx hb dX6_copy_88 (by decide) ?_
  refine va_copyi (ty := .int) (sp := 0) (dp := 0) (n := 6) hx hb (hml.trans hl.1.symm) hown (hT _ kw_38_10) (hT _ kw_36_15) (hT _ kw_36_16) (hT _ kw_36_17) hK hP hD hS 15 3 0 0 rfl rfl rfl rfl rfl (by decide) (by decide) (by decide) (by decide) (by decide) (fun _ _ => rfl) (Nat.le_of_ble_eq_true rfl) (by decide) dX6_copy_90 (fun H locs hP hD hS => ?_)
  try rw [show (0 : Int32).toNatClampNeg = 0 from rfl] at hP hD
  try rw [show (0 : Int32).toNatClampNeg = 0 from rfl] at hP hD
  try rw [show (6 : Int32).toNatClampNeg = 6 from rfl] at hP hD
  obtain ⟨T_8, eT_8, h⟩ := tx_lt h
  rw [sTT_ta_c10, eT_8] at hP hD
  refine lv_aload_n hx hb dX6_copy_93 rfl (lv_at hl 1 rfl) ?_
  refine va_get (D := G) (ci := 6) (v := .ref (tb 12)) (C := RX6) (T := TX6) (N := 20) hx hb hT ku_6 hown hK hP 12 rfl rfl 11 (by decide) (hT _ kw_7_10) (fun _ h9 => h9) rfl dX6_copy_94 ?_
  refine lv_iconst (v := 0) hx hb dX6_copy_97 (by decide) ?_
  refine lv_aload_n hx hb dX6_copy_98 rfl (lv_at hl 0 rfl) ?_
  refine va_get (D := G) (ci := 6) (v := .ref (ta 12)) (C := RX6) (T := TX6) (N := 20) hx hb hT ku_6 hown hK hP 0 rfl rfl 11 (by decide) (hT _ kw_7_10) (fun _ h9 => h9) rfl dX6_copy_99 ?_
  refine lv_iconst (v := 0) hx hb dX6_copy_102 (by decide) ?_
  refine lv_bipush (v := 6) hx hb dX6_copy_103 (by decide) ?_
  refine va_copyi (ty := .int) (sp := 0) (dp := 0) (n := 6) hx hb (hml.trans hl.1.symm) hown (hT _ kw_38_10) (hT _ kw_36_15) (hT _ kw_36_16) (hT _ kw_36_17) hK hP hD hS 16 4 0 0 rfl rfl rfl rfl rfl (by decide) (by decide) (by decide) (by decide) (by decide) (fun _ _ => rfl) (Nat.le_of_ble_eq_true rfl) (by decide) dX6_copy_105 (fun H locs hP hD hS => ?_)
  try rw [show (0 : Int32).toNatClampNeg = 0 from rfl] at hP hD
  try rw [show (0 : Int32).toNatClampNeg = 0 from rfl] at hP hD
  try rw [show (6 : Int32).toNatClampNeg = 6 from rfl] at hP hD
  obtain ⟨T_9, eT_9, h⟩ := tx_lt h
  rw [sTT_ta_c11, eT_9] at hP hD
  refine lv_aload_n hx hb dX6_copy_108 rfl (lv_at hl 1 rfl) ?_
  refine va_get (D := G) (ci := 6) (v := .ref (tb 13)) (C := RX6) (T := TX6) (N := 20) hx hb hT ku_6 hown hK hP 12 rfl rfl 12 (by decide) (hT _ kw_7_11) (fun _ h9 => h9) rfl dX6_copy_109 ?_
  refine lv_iconst (v := 0) hx hb dX6_copy_112 (by decide) ?_
  refine lv_aload_n hx hb dX6_copy_113 rfl (lv_at hl 0 rfl) ?_
  refine va_get (D := G) (ci := 6) (v := .ref (ta 13)) (C := RX6) (T := TX6) (N := 20) hx hb hT ku_6 hown hK hP 0 rfl rfl 12 (by decide) (hT _ kw_7_11) (fun _ h9 => h9) rfl dX6_copy_114 ?_
  refine lv_iconst (v := 0) hx hb dX6_copy_117 (by decide) ?_
  refine lv_bipush (v := 10) hx hb dX6_copy_118 (by decide) ?_
  refine va_copyi (ty := .int) (sp := 0) (dp := 0) (n := 10) hx hb (hml.trans hl.1.symm) hown (hT _ kw_38_10) (hT _ kw_36_15) (hT _ kw_36_16) (hT _ kw_36_17) hK hP hD hS 17 5 0 0 rfl rfl rfl rfl rfl (by decide) (by decide) (by decide) (by decide) (by decide) (fun _ _ => rfl) (Nat.le_of_ble_eq_true rfl) (by decide) dX6_copy_120 (fun H locs hP hD hS => ?_)
  try rw [show (0 : Int32).toNatClampNeg = 0 from rfl] at hP hD
  try rw [show (0 : Int32).toNatClampNeg = 0 from rfl] at hP hD
  try rw [show (10 : Int32).toNatClampNeg = 10 from rfl] at hP hD
  obtain ⟨T_10, eT_10, h⟩ := tx_lt h
  rw [sTT_ta_c12, eT_10] at hP hD
  refine lv_aload_n hx hb dX6_copy_123 rfl (lv_at hl 1 rfl) ?_
  refine va_get (D := G) (ci := 6) (v := .ref (tb 14)) (C := RX6) (T := TX6) (N := 20) hx hb hT ku_6 hown hK hP 12 rfl rfl 13 (by decide) (hT _ kw_7_12) (fun _ h9 => h9) rfl dX6_copy_124 ?_
  refine lv_iconst (v := 0) hx hb dX6_copy_127 (by decide) ?_
  refine lv_aload_n hx hb dX6_copy_128 rfl (lv_at hl 0 rfl) ?_
  refine va_get (D := G) (ci := 6) (v := .ref (ta 14)) (C := RX6) (T := TX6) (N := 20) hx hb hT ku_6 hown hK hP 0 rfl rfl 13 (by decide) (hT _ kw_7_12) (fun _ h9 => h9) rfl dX6_copy_129 ?_
  refine lv_iconst (v := 0) hx hb dX6_copy_132 (by decide) ?_
  refine lv_bipush (v := 10) hx hb dX6_copy_133 (by decide) ?_
  refine va_copyi (ty := .int) (sp := 0) (dp := 0) (n := 10) hx hb (hml.trans hl.1.symm) hown (hT _ kw_38_10) (hT _ kw_36_15) (hT _ kw_36_16) (hT _ kw_36_17) hK hP hD hS 18 6 0 0 rfl rfl rfl rfl rfl (by decide) (by decide) (by decide) (by decide) (by decide) (fun _ _ => rfl) (Nat.le_of_ble_eq_true rfl) (by decide) dX6_copy_135 (fun H locs hP hD hS => ?_)
  try rw [show (0 : Int32).toNatClampNeg = 0 from rfl] at hP hD
  try rw [show (0 : Int32).toNatClampNeg = 0 from rfl] at hP hD
  try rw [show (10 : Int32).toNatClampNeg = 10 from rfl] at hP hD
  obtain ⟨T_11, eT_11, h⟩ := tx_lt h
  rw [sTT_ta_c13, eT_11] at hP hD
  refine lv_aload_n hx hb dX6_copy_138 rfl (lv_at hl 1 rfl) ?_
  refine va_get (D := G) (ci := 6) (v := .ref (tb 15)) (C := RX6) (T := TX6) (N := 20) hx hb hT ku_6 hown hK hP 12 rfl rfl 14 (by decide) (hT _ kw_7_13) (fun _ h9 => h9) rfl dX6_copy_139 ?_
  refine lv_iconst (v := 0) hx hb dX6_copy_142 (by decide) ?_
  refine lv_aload_n hx hb dX6_copy_143 rfl (lv_at hl 0 rfl) ?_
  refine va_get (D := G) (ci := 6) (v := .ref (ta 15)) (C := RX6) (T := TX6) (N := 20) hx hb hT ku_6 hown hK hP 0 rfl rfl 14 (by decide) (hT _ kw_7_13) (fun _ h9 => h9) rfl dX6_copy_144 ?_
  refine lv_iconst (v := 0) hx hb dX6_copy_147 (by decide) ?_
  refine lv_bipush (v := 10) hx hb dX6_copy_148 (by decide) ?_
  refine va_copyi (ty := .int) (sp := 0) (dp := 0) (n := 10) hx hb (hml.trans hl.1.symm) hown (hT _ kw_38_10) (hT _ kw_36_15) (hT _ kw_36_16) (hT _ kw_36_17) hK hP hD hS 19 7 0 0 rfl rfl rfl rfl rfl (by decide) (by decide) (by decide) (by decide) (by decide) (fun _ _ => rfl) (Nat.le_of_ble_eq_true rfl) (by decide) dX6_copy_150 (fun H locs hP hD hS => ?_)
  try rw [show (0 : Int32).toNatClampNeg = 0 from rfl] at hP hD
  try rw [show (0 : Int32).toNatClampNeg = 0 from rfl] at hP hD
  try rw [show (10 : Int32).toNatClampNeg = 10 from rfl] at hP hD
  obtain ⟨T_12, eT_12, h⟩ := tx_lt h
  rw [sTT_ta_c14, eT_12] at hP hD
  refine lv_aload_n hx hb dX6_copy_153 rfl (lv_at hl 1 rfl) ?_
  refine va_get (D := G) (ci := 6) (v := .ref (tb 16)) (C := RX6) (T := TX6) (N := 20) hx hb hT ku_6 hown hK hP 12 rfl rfl 15 (by decide) (hT _ kw_7_14) (fun _ h9 => h9) rfl dX6_copy_154 ?_
  refine lv_iconst (v := 0) hx hb dX6_copy_157 (by decide) ?_
  refine lv_aload_n hx hb dX6_copy_158 rfl (lv_at hl 0 rfl) ?_
  refine va_get (D := G) (ci := 6) (v := .ref (ta 16)) (C := RX6) (T := TX6) (N := 20) hx hb hT ku_6 hown hK hP 0 rfl rfl 15 (by decide) (hT _ kw_7_14) (fun _ h9 => h9) rfl dX6_copy_159 ?_
  refine lv_iconst (v := 0) hx hb dX6_copy_162 (by decide) ?_
  refine lv_bipush (v := 50) hx hb dX6_copy_163 (by decide) ?_
  refine va_copyi (ty := .int) (sp := 0) (dp := 0) (n := 50) hx hb (hml.trans hl.1.symm) hown (hT _ kw_38_10) (hT _ kw_36_15) (hT _ kw_36_16) (hT _ kw_36_17) hK hP hD hS 20 8 0 0 rfl rfl rfl rfl rfl (by decide) (by decide) (by decide) (by decide) (by decide) (fun _ _ => rfl) (Nat.le_of_ble_eq_true rfl) (by decide) dX6_copy_165 (fun H locs hP hD hS => ?_)
  try rw [show (0 : Int32).toNatClampNeg = 0 from rfl] at hP hD
  try rw [show (0 : Int32).toNatClampNeg = 0 from rfl] at hP hD
  try rw [show (50 : Int32).toNatClampNeg = 50 from rfl] at hP hD
  obtain ⟨T_13, eT_13, h⟩ := tx_lt h
  rw [sTT_ta_c15, eT_13] at hP hD
  refine lv_aload_n hx hb dX6_copy_168 rfl (lv_at hl 1 rfl) ?_
  refine va_get (D := G) (ci := 6) (v := .ref (tb 17)) (C := RX6) (T := TX6) (N := 20) hx hb hT ku_6 hown hK hP 12 rfl rfl 16 (by decide) (hT _ kw_7_15) (fun _ h9 => h9) rfl dX6_copy_169 ?_
  refine lv_iconst (v := 0) hx hb dX6_copy_172 (by decide) ?_
  refine lv_aload_n hx hb dX6_copy_173 rfl (lv_at hl 0 rfl) ?_
  refine va_get (D := G) (ci := 6) (v := .ref (ta 17)) (C := RX6) (T := TX6) (N := 20) hx hb hT ku_6 hown hK hP 0 rfl rfl 16 (by decide) (hT _ kw_7_15) (fun _ h9 => h9) rfl dX6_copy_174 ?_
  refine lv_iconst (v := 0) hx hb dX6_copy_177 (by decide) ?_
  refine lv_iconst (v := 5) hx hb dX6_copy_178 (by decide) ?_
  refine va_copyi (ty := .int) (sp := 0) (dp := 0) (n := 5) hx hb (hml.trans hl.1.symm) hown (hT _ kw_38_10) (hT _ kw_36_15) (hT _ kw_36_16) (hT _ kw_36_17) hK hP hD hS 21 9 0 0 rfl rfl rfl rfl rfl (by decide) (by decide) (by decide) (by decide) (by decide) (fun _ _ => rfl) (Nat.le_of_ble_eq_true rfl) (by decide) dX6_copy_179 (fun H locs hP hD hS => ?_)
  try rw [show (0 : Int32).toNatClampNeg = 0 from rfl] at hP hD
  try rw [show (0 : Int32).toNatClampNeg = 0 from rfl] at hP hD
  try rw [show (5 : Int32).toNatClampNeg = 5 from rfl] at hP hD
  obtain ⟨T_14, eT_14, h⟩ := tx_lt h
  rw [sTT_ta_c16, eT_14] at hP hD
  refine lv_aload_n hx hb dX6_copy_182 rfl (lv_at hl 1 rfl) ?_
  refine va_get (D := G) (ci := 6) (v := .ref (tb 18)) (C := RX6) (T := TX6) (N := 20) hx hb hT ku_6 hown hK hP 12 rfl rfl 17 (by decide) (hT _ kw_7_16) (fun _ h9 => h9) rfl dX6_copy_183 ?_
  refine lv_iconst (v := 0) hx hb dX6_copy_186 (by decide) ?_
  refine lv_aload_n hx hb dX6_copy_187 rfl (lv_at hl 0 rfl) ?_
  refine va_get (D := G) (ci := 6) (v := .ref (ta 18)) (C := RX6) (T := TX6) (N := 20) hx hb hT ku_6 hown hK hP 0 rfl rfl 17 (by decide) (hT _ kw_7_16) (fun _ h9 => h9) rfl dX6_copy_188 ?_
  refine lv_iconst (v := 0) hx hb dX6_copy_191 (by decide) ?_
  refine lv_iconst (v := 5) hx hb dX6_copy_192 (by decide) ?_
  refine va_copyi (ty := .int) (sp := 0) (dp := 0) (n := 5) hx hb (hml.trans hl.1.symm) hown (hT _ kw_38_10) (hT _ kw_36_15) (hT _ kw_36_16) (hT _ kw_36_17) hK hP hD hS 22 10 0 0 rfl rfl rfl rfl rfl (by decide) (by decide) (by decide) (by decide) (by decide) (fun _ _ => rfl) (Nat.le_of_ble_eq_true rfl) (by decide) dX6_copy_193 (fun H locs hP hD hS => ?_)
  try rw [show (0 : Int32).toNatClampNeg = 0 from rfl] at hP hD
  try rw [show (0 : Int32).toNatClampNeg = 0 from rfl] at hP hD
  try rw [show (5 : Int32).toNatClampNeg = 5 from rfl] at hP hD
  obtain ⟨T_15, eT_15, h⟩ := tx_lt h
  rw [sTT_ta_c17, eT_15] at hP hD
  obtain ⟨rfl, rfl⟩ := tx_2 h
  exact W.vret hx hb hr (fun t ht hW => ⟨⟨(), rfl, trivial, by rw [ht]; exact hP, hD⟩, hS.F ht⟩) hS.2.2 dX6_copy_196
abbrev G_X7_startTrial (p : Program) (l : Launch) (e : Env) (s : State) (m : MethodId) (below : List Frame) (meth : Method) (c : Code) (G : va_G) (cA : Nat → ClassId) (A : Nat → Prop) (xa : Nat → Nat) (ka : Nat → Nat) (ra : Nat → Nat) (na : Nat → Nat) (ia : Nat → Nat) (ua : Nat → Nat) (va : Nat → Nat) (ca : Nat → Nat) (za : Nat → Nat) (pa : Nat → Nat) (qa : Nat → Nat) (X : Tr) (K : Tr) (R : Tr) (P : Tr) (L : Lo) (P2 : Tr) (L2 : Lo) (Tn : Tr) (Ti : Tr) (Tv : Tr) (C : Tr) (Z : Tr) (q0 : Nat) (q1 : Nat) (q3 : Nat) (q4 : Nat) (q5 : Nat) (Tu' : Tr) (q2' : Nat) (H : Heap) (locs : List Loc) (g : JFrame) : Prop := W p l e (headSpec (.code yX7_startTrial cX7_startTrial 1 none :: T0) ({ frames := 2, cells := 0, slots := 0, locals := 61 } : Room)).room s m ([.ref (xa 0)] : List Value).toArray below meth c H locs 0 0 (MQ below (tqQv G cA (fun (_ : Unit) => True) (fun (_ : Unit) => wX cA xa ka ra na ia ua va ca za pa qa X K R P L P2 L2 Tn Ti (Tu') Tv C Z q0 q1 (q2') q3 q4 q5) A) ([.ref (xa 0)] : List Value).toArray s 0 0 A) g
set_option maxHeartbeats 4000000 in
set_option maxRecDepth 100000 in
theorem c_X7_startTrial (l : Launch) (G : va_G) (cA : Nat → ClassId) (sz : Nat) (xa : Nat → Nat) (ka : Nat → Nat) (ra : Nat → Nat) (na : Nat → Nat) (ia : Nat → Nat) (ua : Nat → Nat) (va : Nat → Nat) (ca : Nat → Nat) (za : Nat → Nat) (pa : Nat → Nat) (qa : Nat → Nat) (X : Tr) (K : Tr) (R : Tr) (P : Tr) (L : Lo) (P2 : Tr) (L2 : Lo) (Tn : Tr) (Ti : Tr) (Tu : Tr) (Tv : Tr) (C : Tr) (Z : Tr) (q0 : Nat) (q1 : Nat) (q2 : Nat) (q3 : Nat) (q4 : Nat) (q5 : Nat)  (Tu' : Tr) (q2' : Nat) (h : f_X7_startTrial pa qa Tn Tu q0 q2 = some (Tu', q2')) : Met l yX7_startTrial (.code yX7_startTrial cX7_startTrial 1 none :: T0) ({ frames := 2, cells := 0, slots := 0, locals := 61 } : Room) (tqP G cA [.ref (xa 0)] (wX cA xa ka ra na ia ua va ca za pa qa X K R P L P2 L2 Tn Ti Tu Tv C Z q0 q1 q2 q3 q4 q5) sz) (tqQv G cA (fun (_ : Unit) => True) (fun (_ : Unit) => wX cA xa ka ra na ia ua va ca za pa qa X K R P L P2 L2 Tn Ti (Tu') Tv C Z q0 q1 (q2') q3 q4 q5) (va_A (wX cA xa ka ra na ia ua va ca za pa qa X K R P L P2 L2 Tn Ti Tu Tv C Z q0 q1 q2 q3 q4 q5) sz)) 0 0 (va_A (wX cA xa ka ra na ia ua va ca za pa qa X K R P L P2 L2 Tn Ti Tu Tv C Z q0 q1 q2 q3 q4 q5) sz) := by
  refine Met.ofW (cc := cX7_startTrial) (maxL := 1) (ret := none) (by decide) rfl ?_
  intro p e s m args below meth c s₁ B hml hv
  obtain ⟨rfl, hsz, hP, hK, hD0, hN⟩ := hv
  have hx := B.exec
  have hb := B.bytes
  have hr := B.returns
  have hts := atoms_spec (ws := .code yX7_startTrial cX7_startTrial 1 none :: T0) B.pre
  have hT : ∀ w ∈ T0, w.before _ s = true := fun w h => hts w (List.mem_cons_of_mem _ h)
  have hown : s.vm.findClass RX7 = some m.cls := findClass_of_methodNamed B.named
  have hlocks := B.notSynchronized
  subst hsz
  have hD := hD0.self (sz := s.heap.size)
  generalize hAe : va_A (wX cA xa ka ra na ia ua va ca za pa qa X K R P L P2 L2 Tn Ti Tu Tv C Z q0 q1 q2 q3 q4 q5) s.heap.size = A at hD ⊢
  have hA : ∀ q : Nat, s.heap.size ≤ q → A q := fun q h => by rw [← hAe]; exact Or.inr h
  have hS : va_S A s.heap s.heap [] := va_S.rf
  have hl := lv_entry ([.ref (xa 0)]) (n := 1) (Nat.le_of_ble_eq_true rfl)
  rw [lg_entry_eq]
  generalize (lg_sl ([.ref (xa 0)]) ++ List.replicate (1 - (lg_sl ([.ref (xa 0)])).length) Slot.unset).toArray = ls at hl ⊢
  have hl : lv_has ls 1 [(0, .ref (xa 0))] := hl
  have F : tF p s m ([.ref (xa 0)] : List Value).toArray meth c G cA A RX7 cX7_startTrial 1 none := ⟨hx, hb, hr, hml, hT, hown, hlocks, hK, hN, hA⟩
  obtain ⟨H, hH⟩ : ∃ z, z = s.heap := ⟨_, rfl⟩
  rw [← hH] at hP
  have hS : va_S A s.heap H [] := by rw [hH]; exact hS
  suffices hgo : G_X7_startTrial p l e s m below meth c G cA A xa ka ra na ia ua va ca za pa qa X K R P L P2 L2 Tn Ti Tv C Z q0 q1 q3 q4 q5 Tu' q2' H [] (F0 m 0 ls []) by rw [hH] at hgo; exact hgo
  generalize ([] : List Loc) = locs at hS ⊢
  unfold f_X7_startTrial at h
  refine lv_aload_n hx hb dX7_startTrial_0 rfl (lv_at hl 0 rfl) ?_
  refine va_get (D := G) (ci := 7) (v := .ref (ua 0)) (C := RX7) (T := TX7) (N := 12) hx hb hT ku_7 hown hK hP 0 rfl rfl 5 (by decide) (hT _ kw_2_3) (fun _ h9 => h9) rfl dX7_startTrial_1 ?_
  refine lv_aload_n hx hb dX7_startTrial_4 rfl (lv_at hl 0 rfl) ?_
  refine va_get (D := G) (ci := 7) (v := .ref (na 0)) (C := RX7) (T := TX7) (N := 12) hx hb hT ku_7 hown hK hP 0 rfl rfl 2 (by decide) (hT _ kw_2_0) (fun _ h9 => h9) rfl dX7_startTrial_5 ?_
  obtain ⟨⟨Tu_1, q2_2⟩, hc3, h⟩ := tx_bd h
  replace h := tx_let (y := Tu_1) rfl h
  replace h := tx_let (y := q2_2) rfl h
  refine tw_cv pX_ua_na hP hD hS hA (va_runV (As := [.ref (na 0)]) (rest := []) ⟨hx, hb, hml, hown, hT⟩ (c_X6_copy l G cA H.size ua na Tu Tn q2 q0  Tu_1 q2_2 hc3) (cwV 1 hT (tq_gV kw_38_6 kw_38_7 kw_38_8 kw_1_23 kw_38_9) rfl rfl rfl (by decide +kernel) ⟨Nat.le_of_ble_eq_true rfl, Nat.le_of_ble_eq_true rfl⟩) ⟨(tw_pre pX_ua_na hP hD hK hN).1, va_recv hK hP (ci := 6) (q0 := 77) rfl rfl, (tw_pre pX_ua_na hP hD hK hN).2⟩ rfl rfl hl.1 rfl (lv_room (Nat.le_of_ble_eq_true rfl)) dX7_startTrial_8 ⟨Nat.le_of_ble_eq_true rfl, Nat.le_of_ble_eq_true rfl⟩) (fun _ H locs z4 hP hD hS => ?_)
  replace hP := tw_P pX_ua_na.symm hP
  replace hD := tw_D pX_ua_na.symm hD
  have hP : va_P G vwCl (wX cA xa ka ra na ia ua va ca za pa qa X K R P L P2 L2 Tn Ti Tu_1 Tv C Z q0 q1 q2_2 q3 q4 q5) H := hP
  have hD : va_D A (wX cA xa ka ra na ia ua va ca za pa qa X K R P L P2 L2 Tn Ti Tu_1 Tv C Z q0 q1 q2_2 q3 q4 q5) := hD
  refine lv_aload_n hx hb dX7_startTrial_11 rfl (lv_at hl 0 rfl) ?_
  refine va_get (D := G) (ci := 7) (v := .ref (ua 0)) (C := RX7) (T := TX7) (N := 12) hx hb hT ku_7 hown hK hP 0 rfl rfl 5 (by decide) (hT _ kw_2_3) (fun _ h9 => h9) rfl dX7_startTrial_12 ?_
  refine lv_iconst (v := 0) hx hb dX7_startTrial_15 (by decide) ?_
  refine va_put (D := G) (ci := 6) (v := .int 0) (ty := .boolean) (C := RX6) (T := TX6) (N := 20) hx hb hT ku_6 tyX6 tyX6_ok nmX6 hown hK hP hD hS 77 rfl rfl 5 (by decide) (hT _ kw_40_6) (fun _ h9 => h9) rfl (by decide +kernel) rfl rfl (Nat.le_of_ble_eq_true rfl) dX7_startTrial_16 (fun H locs hP hD hS => ?_)
  obtain ⟨Tu_5, eTu_5, h⟩ := tx_lt h
  rw [sX_ua_f5, eTu_5] at hP hD
  refine lv_aload_n hx hb dX7_startTrial_19 rfl (lv_at hl 0 rfl) ?_
  refine va_get (D := G) (ci := 7) (v := .ref (ua 0)) (C := RX7) (T := TX7) (N := 12) hx hb hT ku_7 hown hK hP 0 rfl rfl 5 (by decide) (hT _ kw_2_3) (fun _ h9 => h9) rfl dX7_startTrial_20 ?_
  refine lv_iconst (v := 1) hx hb dX7_startTrial_23 (by decide) ?_
  refine va_put (D := G) (ci := 6) (v := .int 1) (ty := .boolean) (C := RX6) (T := TX6) (N := 20) hx hb hT ku_6 tyX6 tyX6_ok nmX6 hown hK hP hD hS 77 rfl rfl 6 (by decide) (hT _ kw_46_21) (fun _ h9 => h9) rfl (by decide +kernel) rfl rfl (Nat.le_of_ble_eq_true rfl) dX7_startTrial_24 (fun H locs hP hD hS => ?_)
  obtain ⟨Tu_6, eTu_6, h⟩ := tx_lt h
  rw [sX_ua_f6, eTu_6] at hP hD
  refine lv_aload_n hx hb dX7_startTrial_27 rfl (lv_at hl 0 rfl) ?_
  refine va_get (D := G) (ci := 7) (v := .ref (ua 0)) (C := RX7) (T := TX7) (N := 12) hx hb hT ku_7 hown hK hP 0 rfl rfl 5 (by decide) (hT _ kw_2_3) (fun _ h9 => h9) rfl dX7_startTrial_28 ?_
  refine lv_iconst (v := 1) hx hb dX7_startTrial_31 (by decide) ?_
  refine va_put (D := G) (ci := 6) (v := .int 1) (ty := .boolean) (C := RX6) (T := TX6) (N := 20) hx hb hT ku_6 tyX6 tyX6_ok nmX6 hown hK hP hD hS 77 rfl rfl 7 (by decide) (hT _ kw_46_22) (fun _ h9 => h9) rfl (by decide +kernel) rfl rfl (Nat.le_of_ble_eq_true rfl) dX7_startTrial_32 (fun H locs hP hD hS => ?_)
  obtain ⟨Tu_7, eTu_7, h⟩ := tx_lt h
  rw [sX_ua_f7, eTu_7] at hP hD
  obtain ⟨rfl, rfl⟩ := tx_2 h
  exact W.vret hx hb hr (fun t ht hW => ⟨⟨(), rfl, trivial, by rw [ht]; exact hP, hD⟩, hS.F ht⟩) hS.2.2 dX7_startTrial_35
abbrev G_X7_liftsOfTrial (p : Program) (l : Launch) (e : Env) (s : State) (m : MethodId) (below : List Frame) (meth : Method) (c : Code) (G : va_G) (cA : Nat → ClassId) (A : Nat → Prop) (xa : Nat → Nat) (ka : Nat → Nat) (ra : Nat → Nat) (na : Nat → Nat) (ia : Nat → Nat) (ua : Nat → Nat) (va : Nat → Nat) (ca : Nat → Nat) (za : Nat → Nat) (pa : Nat → Nat) (qa : Nat → Nat) (X : Tr) (K : Tr) (R : Tr) (P : Tr) (P2 : Tr) (L2 : Lo) (Tn : Tr) (Ti : Tr) (Tv : Tr) (C : Tr) (Z : Tr) (q0 : Nat) (q1 : Nat) (q2 : Nat) (q3 : Nat) (q4 : Nat) (q5 : Nat) (r0 : Int32) (L' : Lo) (Tu' : Tr) (H : Heap) (locs : List Loc) (g : JFrame) : Prop := W p l e (headSpec (.code yX7_liftsOfTrial cX7_liftsOfTrial 1 (some .int) :: T0) ({ frames := 6, cells := 0, slots := 0, locals := 153 } : Room)).room s m ([.ref (xa 0)] : List Value).toArray below meth c H locs 0 0 (MQ below (tqQi G cA (fun (r : Int32) (_ : Unit) => r = r0) (fun (_ : Unit) => wX cA xa ka ra na ia ua va ca za pa qa X K R P (L') P2 L2 Tn Ti (Tu') Tv C Z q0 q1 q2 q3 q4 q5) A) ([.ref (xa 0)] : List Value).toArray s 0 0 A) g
set_option maxHeartbeats 4000000 in
set_option maxRecDepth 100000 in
theorem c_X7_liftsOfTrial (l : Launch) (G : va_G) (cA : Nat → ClassId) (sz : Nat) (xa : Nat → Nat) (ka : Nat → Nat) (ra : Nat → Nat) (na : Nat → Nat) (ia : Nat → Nat) (ua : Nat → Nat) (va : Nat → Nat) (ca : Nat → Nat) (za : Nat → Nat) (pa : Nat → Nat) (qa : Nat → Nat) (X : Tr) (K : Tr) (R : Tr) (P : Tr) (L : Lo) (P2 : Tr) (L2 : Lo) (Tn : Tr) (Ti : Tr) (Tu : Tr) (Tv : Tr) (C : Tr) (Z : Tr) (q0 : Nat) (q1 : Nat) (q2 : Nat) (q3 : Nat) (q4 : Nat) (q5 : Nat)  (r0 : Int32) (L' : Lo) (Tu' : Tr) (h : f_X7_liftsOfTrial pa qa P L Tn Tu q2 = some (r0, L', Tu')) : Met l yX7_liftsOfTrial (.code yX7_liftsOfTrial cX7_liftsOfTrial 1 (some .int) :: T0) ({ frames := 6, cells := 0, slots := 0, locals := 153 } : Room) (tqP G cA [.ref (xa 0)] (wX cA xa ka ra na ia ua va ca za pa qa X K R P L P2 L2 Tn Ti Tu Tv C Z q0 q1 q2 q3 q4 q5) sz) (tqQi G cA (fun (r : Int32) (_ : Unit) => r = r0) (fun (_ : Unit) => wX cA xa ka ra na ia ua va ca za pa qa X K R P (L') P2 L2 Tn Ti (Tu') Tv C Z q0 q1 q2 q3 q4 q5) (va_A (wX cA xa ka ra na ia ua va ca za pa qa X K R P L P2 L2 Tn Ti Tu Tv C Z q0 q1 q2 q3 q4 q5) sz)) 0 0 (va_A (wX cA xa ka ra na ia ua va ca za pa qa X K R P L P2 L2 Tn Ti Tu Tv C Z q0 q1 q2 q3 q4 q5) sz) := by
  refine Met.ofW (cc := cX7_liftsOfTrial) (maxL := 1) (ret := (some .int)) (by decide) rfl ?_
  intro p e s m args below meth c s₁ B hml hv
  obtain ⟨rfl, hsz, hP, hK, hD0, hN⟩ := hv
  have hx := B.exec
  have hb := B.bytes
  have hr := B.returns
  have hts := atoms_spec (ws := .code yX7_liftsOfTrial cX7_liftsOfTrial 1 (some .int) :: T0) B.pre
  have hT : ∀ w ∈ T0, w.before _ s = true := fun w h => hts w (List.mem_cons_of_mem _ h)
  have hown : s.vm.findClass RX7 = some m.cls := findClass_of_methodNamed B.named
  have hlocks := B.notSynchronized
  subst hsz
  have hD := hD0.self (sz := s.heap.size)
  generalize hAe : va_A (wX cA xa ka ra na ia ua va ca za pa qa X K R P L P2 L2 Tn Ti Tu Tv C Z q0 q1 q2 q3 q4 q5) s.heap.size = A at hD ⊢
  have hA : ∀ q : Nat, s.heap.size ≤ q → A q := fun q h => by rw [← hAe]; exact Or.inr h
  have hS : va_S A s.heap s.heap [] := va_S.rf
  have hl := lv_entry ([.ref (xa 0)]) (n := 1) (Nat.le_of_ble_eq_true rfl)
  rw [lg_entry_eq]
  generalize (lg_sl ([.ref (xa 0)]) ++ List.replicate (1 - (lg_sl ([.ref (xa 0)])).length) Slot.unset).toArray = ls at hl ⊢
  have hl : lv_has ls 1 [(0, .ref (xa 0))] := hl
  have F : tF p s m ([.ref (xa 0)] : List Value).toArray meth c G cA A RX7 cX7_liftsOfTrial 1 (some .int) := ⟨hx, hb, hr, hml, hT, hown, hlocks, hK, hN, hA⟩
  obtain ⟨H, hH⟩ : ∃ z, z = s.heap := ⟨_, rfl⟩
  rw [← hH] at hP
  have hS : va_S A s.heap H [] := by rw [hH]; exact hS
  suffices hgo : G_X7_liftsOfTrial p l e s m below meth c G cA A xa ka ra na ia ua va ca za pa qa X K R P P2 L2 Tn Ti Tv C Z q0 q1 q2 q3 q4 q5 r0 L' Tu' H [] (F0 m 0 ls []) by rw [hH] at hgo; exact hgo
  generalize ([] : List Loc) = locs at hS ⊢
  unfold f_X7_liftsOfTrial at h
  refine lv_aload_n hx hb dX7_liftsOfTrial_0 rfl (lv_at hl 0 rfl) ?_
  refine va_get (D := G) (ci := 7) (v := .ref (ua 0)) (C := RX7) (T := TX7) (N := 12) hx hb hT ku_7 hown hK hP 0 rfl rfl 5 (by decide) (hT _ kw_2_3) (fun _ h9 => h9) rfl dX7_liftsOfTrial_1 ?_
  obtain ⟨g1, h⟩ := tx_ck h
  have eg1 := of_decide_eq_true g1
  subst eg1
  obtain ⟨⟨Tu_2, L_3⟩, hc4, h⟩ := tx_bd h
  replace h := tx_let (y := Tu_2) rfl h
  replace h := tx_let (y := L_3) rfl h
  refine tw_cv pX_ua hP hD hS hA (va_runV (As := []) (rest := []) ⟨hx, hb, hml, hown, hT⟩ (c_X6_runToEnd l G cA H.size ua pa Tu P L  Tu_2 L_3 hc4) (cwV 0 hT (tq_gV kw_47_10 kw_47_11 kw_47_12 kw_1_23 kw_47_13) rfl rfl rfl (by decide +kernel) ⟨Nat.le_of_ble_eq_true rfl, Nat.le_of_ble_eq_true rfl⟩) ⟨(tw_pre pX_ua hP hD hK hN).1, va_recv hK hP (ci := 6) (q0 := 77) rfl rfl, (tw_pre pX_ua hP hD hK hN).2⟩ rfl rfl hl.1 rfl (lv_room (Nat.le_of_ble_eq_true rfl)) dX7_liftsOfTrial_4 ⟨Nat.le_of_ble_eq_true rfl, Nat.le_of_ble_eq_true rfl⟩) (fun _ H locs z5 hP hD hS => ?_)
  replace hP := tw_P pX_ua.symm hP
  replace hD := tw_D pX_ua.symm hD
  have hP : va_P G vwCl (wX cA xa ka ra na ia ua va ca za pa qa X K R P L_3 P2 L2 Tn Ti Tu_2 Tv C Z q0 q1 (pa 0) q3 q4 q5) H := hP
  have hD : va_D A (wX cA xa ka ra na ia ua va ca za pa qa X K R P L_3 P2 L2 Tn Ti Tu_2 Tv C Z q0 q1 (pa 0) q3 q4 q5) := hD
  refine lv_aload_n hx hb dX7_liftsOfTrial_7 rfl (lv_at hl 0 rfl) ?_
  refine va_get (D := G) (ci := 7) (v := .ref (ua 0)) (C := RX7) (T := TX7) (N := 12) hx hb hT ku_7 hown hK hP 0 rfl rfl 5 (by decide) (hT _ kw_2_3) (fun _ h9 => h9) rfl dX7_liftsOfTrial_8 ?_
  refine va_get (D := G) (ci := 6) (v := .int (Tu_2 0 1)) (C := RX6) (T := TX6) (N := 20) hx hb hT ku_6 hown hK hP 77 rfl rfl 1 (by decide) (hT _ kw_46_16) (fun _ h9 => h9) rfl dX7_liftsOfTrial_11 ?_
  refine lv_aload_n hx hb dX7_liftsOfTrial_14 rfl (lv_at hl 0 rfl) ?_
  refine va_get (D := G) (ci := 7) (v := .ref (na 0)) (C := RX7) (T := TX7) (N := 12) hx hb hT ku_7 hown hK hP 0 rfl rfl 2 (by decide) (hT _ kw_2_0) (fun _ h9 => h9) rfl dX7_liftsOfTrial_15 ?_
  refine va_get (D := G) (ci := 6) (v := .int (Tn 0 1)) (C := RX6) (T := TX6) (N := 20) hx hb hT ku_6 hown hK hP 53 rfl rfl 1 (by decide) (hT _ kw_46_16) (fun _ h9 => h9) rfl dX7_liftsOfTrial_18 ?_
  refine lv_isub hx hb dX7_liftsOfTrial_21 ?_
  obtain ⟨rfl, rfl, rfl⟩ := tx_3 h
  exact W.iret hx hb hr (fun t ht hW => ⟨⟨_, (), rfl, rfl, by rw [ht]; exact hP, hD⟩, hS.F ht⟩) hS.2.2 dX7_liftsOfTrial_22
abbrev G_X7_asking (p : Program) (l : Launch) (e : Env) (s : State) (m : MethodId) (below : List Frame) (meth : Method) (c : Code) (G : va_G) (cA : Nat → ClassId) (A : Nat → Prop) (xa : Nat → Nat) (ka : Nat → Nat) (ra : Nat → Nat) (na : Nat → Nat) (ia : Nat → Nat) (ua : Nat → Nat) (va : Nat → Nat) (ca : Nat → Nat) (za : Nat → Nat) (pa : Nat → Nat) (qa : Nat → Nat) (X : Tr) (K : Tr) (R : Tr) (P : Tr) (P2 : Tr) (L2 : Lo) (Tn : Tr) (Ti : Tr) (Tv : Tr) (C : Tr) (Z : Tr) (q0 : Nat) (q1 : Nat) (q3 : Nat) (q4 : Nat) (q5 : Nat) (r0 : Int32) (L' : Lo) (Tu' : Tr) (q2' : Nat) (H : Heap) (locs : List Loc) (g : JFrame) : Prop := W p l e (headSpec (.code yX7_asking cX7_asking 4 (some .int) :: T0) ({ frames := 7, cells := 0, slots := 0, locals := 173 } : Room)).room s m ([.ref (xa 0)] : List Value).toArray below meth c H locs 0 0 (MQ below (tqQi G cA (fun (r : Int32) (_ : Unit) => r = r0) (fun (_ : Unit) => wX cA xa ka ra na ia ua va ca za pa qa X K R P (L') P2 L2 Tn Ti (Tu') Tv C Z q0 q1 (q2') q3 q4 q5) A) ([.ref (xa 0)] : List Value).toArray s 0 0 A) g
set_option maxHeartbeats 4000000 in
set_option maxRecDepth 100000 in
theorem w_X7_asking_J79 {p : Program} {l : Launch} {e : Env} {s : State} {m : MethodId} {below : List Frame} {meth : Method} {c : Code} {G : va_G} {cA : Nat → ClassId} {A : Nat → Prop} {xa : Nat → Nat} {ka : Nat → Nat} {ra : Nat → Nat} {na : Nat → Nat} {ia : Nat → Nat} {ua : Nat → Nat} {va : Nat → Nat} {ca : Nat → Nat} {za : Nat → Nat} {pa : Nat → Nat} {qa : Nat → Nat} {X : Tr} {K : Tr} {R : Tr} {P : Tr} {P2 : Tr} {L2 : Lo} {Tn : Tr} {Ti : Tr} {Tv : Tr} {C : Tr} {Z : Tr} {q0 : Nat} {q1 : Nat} {q3 : Nat} {q4 : Nat} {q5 : Nat} {r0 : Int32} {L' : Lo} {Tu' : Tr} {q2' : Nat} (F : tF p s m ([.ref (xa 0)] : List Value).toArray meth c G cA A RX7 cX7_asking 4 (some .int))    (x1 : Int32) (L : Lo) (Tu : Tr) (q2 : Nat) (H : Heap) (locs : List Loc) (ls : Array Slot) (h : fJ_X7_asking_J79 pa qa P Tn q0 q4 x1 L Tu q2 = some (r0, L', Tu', q2')) (hP : va_P G vwCl (wX cA xa ka ra na ia ua va ca za pa qa X K R P L P2 L2 Tn Ti Tu Tv C Z q0 q1 q2 q3 q4 q5) H) (hD : va_D A (wX cA xa ka ra na ia ua va ca za pa qa X K R P L P2 L2 Tn Ti Tu Tv C Z q0 q1 q2 q3 q4 q5)) (hS : va_S A s.heap H locs) (hl : lv_has ls 4 [(2, .int y16), (0, .ref (xa 0)), (1, .int x1)]) : G_X7_asking p l e s m below meth c G cA A xa ka ra na ia ua va ca za pa qa X K R P P2 L2 Tn Ti Tv C Z q0 q1 q3 q4 q5 r0 L' Tu' q2' H locs (F0 m 79 ls []) := by
  obtain ⟨hx, hb, hr, hml, hT, hown, hlocks, hK, hN, hA⟩ := id F
  unfold fJ_X7_asking_J79 at h
  refine lv_iload_n hx hb dX7_asking_79 rfl (lv_at hl 1 rfl) ?_
  refine lv_aload_n hx hb dX7_asking_80 rfl (lv_at hl 0 rfl) ?_
  refine va_get (D := G) (ci := 7) (v := .ref (ua 0)) (C := RX7) (T := TX7) (N := 12) hx hb hT ku_7 hown hK hP 0 rfl rfl 5 (by decide) (hT _ kw_2_3) (fun _ h9 => h9) rfl dX7_asking_81 ?_
  refine va_get (D := G) (ci := 6) (v := .int (Tu 0 1)) (C := RX6) (T := TX6) (N := 20) hx hb hT ku_6 hown hK hP 77 rfl rfl 1 (by decide) (hT _ kw_46_16) (fun _ h9 => h9) rfl dX7_asking_84 ?_
  refine lv_aload_n hx hb dX7_asking_87 rfl (lv_at hl 0 rfl) ?_
  refine va_get (D := G) (ci := 7) (v := .ref (na 0)) (C := RX7) (T := TX7) (N := 12) hx hb hT ku_7 hown hK hP 0 rfl rfl 2 (by decide) (hT _ kw_2_0) (fun _ h9 => h9) rfl dX7_asking_88 ?_
  refine va_get (D := G) (ci := 6) (v := .int (Tn 0 1)) (C := RX6) (T := TX6) (N := 20) hx hb hT ku_6 hown hK hP 53 rfl rfl 1 (by decide) (hT _ kw_46_16) (fun _ h9 => h9) rfl dX7_asking_91 ?_
  refine lv_isub hx hb dX7_asking_94 ?_
  refine lv_isub hx hb dX7_asking_95 ?_
  refine lv_topi (fun y16 ey16 => ?_)
  have h := tx_let ey16 h
  refine lv_istore_n (lv' := [(2, .int y16), (0, .ref (xa 0)), (1, .int x1)]) hx hb dX7_asking_96 rfl hl (by decide) rfl (fun ls hl => ?_)
  refine lv_iload_n hx hb dX7_asking_97 rfl (lv_at hl 0 rfl) ?_
  refine lv_if_ge (tgt := 105) hx hb dX7_asking_98 (by decide) (fun c17 => ?_) (fun c17 => ?_)
  · have h := tx_pos c17 h
    refine lv_iload_n hx hb dX7_asking_105 rfl (lv_at hl 0 rfl) ?_
    obtain ⟨rfl, rfl, rfl, rfl⟩ := tx_4 h
    exact W.iret hx hb hr (fun t ht hW => ⟨⟨_, (), rfl, rfl, by rw [ht]; exact hP, hD⟩, hS.F ht⟩) hS.2.2 dX7_asking_106
  · have h := tx_neg c17 h
    refine lv_iconst (v := 0) hx hb dX7_asking_101 (by decide) ?_
    refine lv_goto (tgt := 106) hx hb dX7_asking_102 (by decide) ?_
    obtain ⟨rfl, rfl, rfl, rfl⟩ := tx_4 h
    exact W.iret hx hb hr (fun t ht hW => ⟨⟨_, (), rfl, rfl, by rw [ht]; exact hP, hD⟩, hS.F ht⟩) hS.2.2 dX7_asking_106
set_option maxHeartbeats 4000000 in
set_option maxRecDepth 100000 in
theorem w_X7_asking_J66 {p : Program} {l : Launch} {e : Env} {s : State} {m : MethodId} {below : List Frame} {meth : Method} {c : Code} {G : va_G} {cA : Nat → ClassId} {A : Nat → Prop} {xa : Nat → Nat} {ka : Nat → Nat} {ra : Nat → Nat} {na : Nat → Nat} {ia : Nat → Nat} {ua : Nat → Nat} {va : Nat → Nat} {ca : Nat → Nat} {za : Nat → Nat} {pa : Nat → Nat} {qa : Nat → Nat} {X : Tr} {K : Tr} {R : Tr} {P : Tr} {P2 : Tr} {L2 : Lo} {Tn : Tr} {Ti : Tr} {Tv : Tr} {C : Tr} {Z : Tr} {q0 : Nat} {q1 : Nat} {q3 : Nat} {q4 : Nat} {q5 : Nat} {r0 : Int32} {L' : Lo} {Tu' : Tr} {q2' : Nat} {q2 : Nat} {x1 : Int32} (F : tF p s m ([.ref (xa 0)] : List Value).toArray meth c G cA A RX7 cX7_asking 4 (some .int))  (k21 : Int32 → Lo → Tr → Option (Int32 × Lo × Tr × Nat)) (hk21 : ∀ (x2 : Int32) (L : Lo) (Tu : Tr) (H : Heap) (locs : List Loc) (ls : Array Slot), k21 x2 L Tu = some (r0, L', Tu', q2') → va_P G vwCl (wX cA xa ka ra na ia ua va ca za pa qa X K R P L P2 L2 Tn Ti Tu Tv C Z q0 q1 q2 q3 q4 q5) H → va_D A (wX cA xa ka ra na ia ua va ca za pa qa X K R P L P2 L2 Tn Ti Tu Tv C Z q0 q1 q2 q3 q4 q5) → va_S A s.heap H locs → lv_has ls 4 [(0, .ref (xa 0)), (1, .int x1), (2, .int x2)] → G_X7_asking p l e s m below meth c G cA A xa ka ra na ia ua va ca za pa qa X K R P P2 L2 Tn Ti Tv C Z q0 q1 q3 q4 q5 r0 L' Tu' q2' H locs (F0 m 21 ls [])) (x2 : Int32) (L : Lo) (Tu : Tr) (H : Heap) (locs : List Loc) (ls : Array Slot) (h : fJ_X7_asking_J66 k21 pa qa P Tn q0 q2 q4 x1 x2 L Tu = some (r0, L', Tu', q2')) (hP : va_P G vwCl (wX cA xa ka ra na ia ua va ca za pa qa X K R P L_22 P2 L2 Tn Ti Tu_21 Tv C Z q0 q1 (pa 0) q3 q4 q5) H) (hD : va_D A (wX cA xa ka ra na ia ua va ca za pa qa X K R P L_22 P2 L2 Tn Ti Tu_21 Tv C Z q0 q1 (pa 0) q3 q4 q5)) (hS : va_S A s.heap H locs) (hl : lv_has ls 4 [(2, .int y25), (0, .ref (xa 0)), (1, .int x1)]) : G_X7_asking p l e s m below meth c G cA A xa ka ra na ia ua va ca za pa qa X K R P P2 L2 Tn Ti Tv C Z q0 q1 q3 q4 q5 r0 L' Tu' q2' H locs (F0 m 66 ls []) := by
  obtain ⟨hx, hb, hr, hml, hT, hown, hlocks, hK, hN, hA⟩ := id F
  unfold fJ_X7_asking_J66 at h
  refine lv_aload_n hx hb dX7_asking_66 rfl (lv_at hl 0 rfl) ?_
  refine va_get (D := G) (ci := 7) (v := .ref (ua 0)) (C := RX7) (T := TX7) (N := 12) hx hb hT ku_7 hown hK hP 0 rfl rfl 5 (by decide) (hT _ kw_2_3) (fun _ h9 => h9) rfl dX7_asking_67 ?_
  obtain ⟨g20, h⟩ := tx_ck h
  have eg20 := of_decide_eq_true g20
  subst eg20
  obtain ⟨⟨Tu_21, L_22⟩, hc23, h⟩ := tx_bd h
  replace h := tx_let (y := Tu_21) rfl h
  replace h := tx_let (y := L_22) rfl h
  refine tw_cv pX_ua hP hD hS hA (va_runV (As := []) (rest := []) ⟨hx, hb, hml, hown, hT⟩ (c_X6_passStop l G cA H.size ua pa Tu P L  Tu_21 L_22 hc23) (cwV 0 hT (tq_gV kw_40_7 kw_40_8 kw_40_9 kw_1_23 kw_40_10) rfl rfl rfl (by decide +kernel) ⟨Nat.le_of_ble_eq_true rfl, Nat.le_of_ble_eq_true rfl⟩) ⟨(tw_pre pX_ua hP hD hK hN).1, va_recv hK hP (ci := 6) (q0 := 77) rfl rfl, (tw_pre pX_ua hP hD hK hN).2⟩ rfl rfl hl.1 rfl (lv_room (Nat.le_of_ble_eq_true rfl)) dX7_asking_70 ⟨Nat.le_of_ble_eq_true rfl, Nat.le_of_ble_eq_true rfl⟩) (fun _ H locs z24 hP hD hS => ?_)
  replace hP := tw_P pX_ua.symm hP
  replace hD := tw_D pX_ua.symm hD
  have hP : va_P G vwCl (wX cA xa ka ra na ia ua va ca za pa qa X K R P L_22 P2 L2 Tn Ti Tu_21 Tv C Z q0 q1 (pa 0) q3 q4 q5) H := hP
  have hD : va_D A (wX cA xa ka ra na ia ua va ca za pa qa X K R P L_22 P2 L2 Tn Ti Tu_21 Tv C Z q0 q1 (pa 0) q3 q4 q5) := hD
  obtain ⟨y25, ey25, h⟩ := tx_lt h
  refine lv_iinc (v := y25) (lv' := [(2, .int y25), (0, .ref (xa 0)), (1, .int x1)]) hx hb dX7_asking_73 hl (k := 2) rfl ey25 (by decide) rfl (fun ls hl => ?_)
  refine lv_goto (tgt := 21) hx hb dX7_asking_76 (by decide) ?_
  exact hk21 y25 L_22 Tu_21 H locs ls h hP hD hS (lv_sub hl [1, 2, 0] rfl)
set_option maxHeartbeats 4000000 in
set_option maxRecDepth 100000 in
theorem w_X7_asking_L29 {p : Program} {l : Launch} {e : Env} {s : State} {m : MethodId} {below : List Frame} {meth : Method} {c : Code} {G : va_G} {cA : Nat → ClassId} {A : Nat → Prop} {xa : Nat → Nat} {ka : Nat → Nat} {ra : Nat → Nat} {na : Nat → Nat} {ia : Nat → Nat} {ua : Nat → Nat} {va : Nat → Nat} {ca : Nat → Nat} {za : Nat → Nat} {pa : Nat → Nat} {qa : Nat → Nat} {X : Tr} {K : Tr} {R : Tr} {P : Tr} {P2 : Tr} {L2 : Lo} {Tn : Tr} {Ti : Tr} {Tv : Tr} {C : Tr} {Z : Tr} {q0 : Nat} {q1 : Nat} {q3 : Nat} {q4 : Nat} {q5 : Nat} {r0 : Int32} {L' : Lo} {Tu' : Tr} {q2' : Nat} {L : Lo} {q2 : Nat} {x1 : Int32} {x2 : Int32} (F : tF p s m ([.ref (xa 0)] : List Value).toArray meth c G cA A RX7 cX7_asking 4 (some .int))  (k21 : Int32 → Lo → Tr → Option (Int32 × Lo × Tr × Nat)) (hk21 : ∀ (x2 : Int32) (L : Lo) (Tu : Tr) (H : Heap) (locs : List Loc) (ls : Array Slot), k21 x2 L Tu = some (r0, L', Tu', q2') → va_P G vwCl (wX cA xa ka ra na ia ua va ca za pa qa X K R P L P2 L2 Tn Ti Tu Tv C Z q0 q1 q2 q3 q4 q5) H → va_D A (wX cA xa ka ra na ia ua va ca za pa qa X K R P L P2 L2 Tn Ti Tu Tv C Z q0 q1 q2 q3 q4 q5) → va_S A s.heap H locs → lv_has ls 4 [(0, .ref (xa 0)), (1, .int x1), (2, .int x2)] → G_X7_asking p l e s m below meth c G cA A xa ka ra na ia ua va ca za pa qa X K R P P2 L2 Tn Ti Tv C Z q0 q1 q3 q4 q5 r0 L' Tu' q2' H locs (F0 m 21 ls [])) (N : Nat) : ∀ (x3 : Int32) (Tu : Tr) (H : Heap) (locs : List Loc) (ls : Array Slot), lpF (fun _ _ => none) (fB_X7_asking_L29 k21 pa qa P L Tn q0 q2 q4 x1 x2) N x3 Tu = some (r0, L', Tu', q2') → va_P G vwCl (wX cA xa ka ra na ia ua va ca za pa qa X K R P L P2 L2 Tn Ti Tu Tv C Z q0 q1 q2 q3 (pa 0) q5) H → va_D A (wX cA xa ka ra na ia ua va ca za pa qa X K R P L P2 L2 Tn Ti Tu Tv C Z q0 q1 q2 q3 (pa 0) q5) → va_S A s.heap H locs → lv_has ls 4 [(0, .ref (xa 0)), (1, .int x1), (2, .int x2), (3, .int x3)] → G_X7_asking p l e s m below meth c G cA A xa ka ra na ia ua va ca za pa qa X K R P P2 L2 Tn Ti Tv C Z q0 q1 q3 q4 q5 r0 L' Tu' q2' H locs (F0 m 29 ls []) := by
  obtain ⟨hx, hb, hr, hml, hT, hown, hlocks, hK, hN, hA⟩ := id F
  induction N with
  | zero =>
    intro x3 Tu H locs ls h
    have h : (none : Option (Int32 × Lo × Tr × Nat)) = some (r0, L', Tu', q2') := h
    cases h
  | succ N hk29 =>
    intro x3 Tu H locs ls h hP hD hS hl
    have h : fB_X7_asking_L29 k21 pa qa P L Tn q0 q2 q4 x1 x2 (lpF (fun _ _ => none) (fB_X7_asking_L29 k21 pa qa P L Tn q0 q2 q4 x1 x2) N) x3 Tu = some (r0, L', Tu', q2') := h
    generalize hk29e : lpF (fun _ _ => none) (fB_X7_asking_L29 k21 pa qa P L Tn q0 q2 q4 x1 x2) N = k29 at h hk29
    unfold fB_X7_asking_L29 at h
    refine lv_iload_n hx hb dX7_asking_29 rfl (lv_at hl 3 rfl) ?_
    refine lv_aload_n hx hb dX7_asking_30 rfl (lv_at hl 0 rfl) ?_
    refine va_get (D := G) (ci := 7) (v := .ref q4) (C := RX7) (T := TX7) (N := 12) hx hb hT ku_7 hown hK hP 0 rfl rfl 1 (by decide) (hT _ kw_1_20) (fun _ h9 => h9) rfl dX7_asking_31 ?_
    obtain ⟨g18, h⟩ := tx_ck h
    have eg18 := of_decide_eq_true g18
    subst eg18
    refine va_get (D := G) (ci := 2) (v := .int (P 0 0)) (C := RX2) (T := TX2) (N := 19) hx hb hT ku_2 hown hK hP 9 rfl rfl 0 (by decide) (hT _ kw_32_2) (fun _ h9 => h9) rfl dX7_asking_34 ?_
    refine lv_icmp_ge (tgt := 66) hx hb dX7_asking_37 (by decide) (fun c19 => ?_) (fun c19 => ?_)
    · have h := tx_pos c19 h
      exact w_X7_asking_J66 F k21 hk21 x2 L Tu H locs ls h hP hD hS (lv_sub hl [0, 1, 2] rfl)
    · have h := tx_neg c19 h
      refine lv_aload_n hx hb dX7_asking_40 rfl (lv_at hl 0 rfl) ?_
      refine va_get (D := G) (ci := 7) (v := .ref (ua 0)) (C := RX7) (T := TX7) (N := 12) hx hb hT ku_7 hown hK hP 0 rfl rfl 5 (by decide) (hT _ kw_2_3) (fun _ h9 => h9) rfl dX7_asking_41 ?_
      refine lv_iload_n hx hb dX7_asking_44 rfl (lv_at hl 3 rfl) ?_
      obtain ⟨g26, h⟩ := tx_ck h
      have eg26 := of_decide_eq_true g26
      subst eg26
      obtain ⟨r27, hc28, h⟩ := tx_bd h
      refine tw_ci pX_ua hP hD hS hA (va_runV (As := [.int x3]) (rest := []) ⟨hx, hb, hml, hown, hT⟩ (c_X6_isRack l G cA H.size ua pa Tu P L x3  r27 hc28) (cwV 1 hT (tq_gV kw_53_8 kw_42_13 kw_42_14 kw_1_23 kw_42_15) rfl rfl rfl (by decide +kernel) ⟨Nat.le_of_ble_eq_true rfl, Nat.le_of_ble_eq_true rfl⟩) ⟨(tw_pre pX_ua hP hD hK hN).1, va_recv hK hP (ci := 6) (q0 := 77) rfl rfl, (tw_pre pX_ua hP hD hK hN).2⟩ rfl rfl hl.1 rfl (lv_room (Nat.le_of_ble_eq_true rfl)) dX7_asking_45 ⟨Nat.le_of_ble_eq_true rfl, Nat.le_of_ble_eq_true rfl⟩) (fun _ _ H locs z29 hP hD hS => ?_)
      subst z29
      replace hP := tw_P pX_ua.symm hP
      replace hD := tw_D pX_ua.symm hD
      have hP : va_P G vwCl (wX cA xa ka ra na ia ua va ca za pa qa X K R P L P2 L2 Tn Ti Tu Tv C Z q0 q1 (pa 0) q3 (pa 0) q5) H := hP
      have hD : va_D A (wX cA xa ka ra na ia ua va ca za pa qa X K R P L P2 L2 Tn Ti Tu Tv C Z q0 q1 (pa 0) q3 (pa 0) q5) := hD
      refine lv_if_eq (tgt := 60) hx hb dX7_asking_48 (by decide) (fun c30 => ?_) (fun c30 => ?_)
      · have h := tx_pos c30 h
        obtain ⟨y31, ey31, h⟩ := tx_lt h
        refine lv_iinc (v := y31) (lv' := [(3, .int y31), (0, .ref (xa 0)), (1, .int x1), (2, .int x2)]) hx hb dX7_asking_60 hl (k := 3) rfl ey31 (by decide) rfl (fun ls hl => ?_)
        refine lv_goto (tgt := 29) hx hb dX7_asking_63 (by decide) ?_
        exact hk29 y31 Tu H locs ls h hP hD hS (lv_sub hl [1, 2, 3, 0] rfl)
      · have h := tx_neg c30 h
        refine lv_aload_n hx hb dX7_asking_51 rfl (lv_at hl 0 rfl) ?_
        refine va_get (D := G) (ci := 7) (v := .ref (ua 0)) (C := RX7) (T := TX7) (N := 12) hx hb hT ku_7 hown hK hP 0 rfl rfl 5 (by decide) (hT _ kw_2_3) (fun _ h9 => h9) rfl dX7_asking_52 ?_
        refine lv_iload_n hx hb dX7_asking_55 rfl (lv_at hl 3 rfl) ?_
        obtain ⟨⟨r32, Tu_33⟩, hc34, h⟩ := tx_bd h
        replace h := tx_let (y := r32) rfl h
        replace h := tx_let (y := Tu_33) rfl h
        refine tw_ci pX_ua hP hD hS hA (va_runV (As := [.int x3]) (rest := []) ⟨hx, hb, hml, hown, hT⟩ (c_X6_turnOver l G cA H.size ua pa Tu P L x3  r32 Tu_33 hc34) (cwV 1 hT (tq_gV kw_38_11 kw_38_12 kw_38_13 kw_1_23 kw_38_14) rfl rfl rfl (by decide +kernel) ⟨Nat.le_of_ble_eq_true rfl, Nat.le_of_ble_eq_true rfl⟩) ⟨(tw_pre pX_ua hP hD hK hN).1, va_recv hK hP (ci := 6) (q0 := 77) rfl rfl, (tw_pre pX_ua hP hD hK hN).2⟩ rfl rfl hl.1 rfl (lv_room (Nat.le_of_ble_eq_true rfl)) dX7_asking_56 ⟨Nat.le_of_ble_eq_true rfl, Nat.le_of_ble_eq_true rfl⟩) (fun _ _ H locs z35 hP hD hS => ?_)
        subst z35
        replace hP := tw_P pX_ua.symm hP
        replace hD := tw_D pX_ua.symm hD
        have hP : va_P G vwCl (wX cA xa ka ra na ia ua va ca za pa qa X K R P L P2 L2 Tn Ti Tu_33 Tv C Z q0 q1 (pa 0) q3 (pa 0) q5) H := hP
        have hD : va_D A (wX cA xa ka ra na ia ua va ca za pa qa X K R P L P2 L2 Tn Ti Tu_33 Tv C Z q0 q1 (pa 0) q3 (pa 0) q5) := hD
        refine lv_pop hx hb dX7_asking_59 rfl ?_
        obtain ⟨y36, ey36, h⟩ := tx_lt h
        refine lv_iinc (v := y36) (lv' := [(3, .int y36), (0, .ref (xa 0)), (1, .int x1), (2, .int x2)]) hx hb dX7_asking_60 hl (k := 3) rfl ey36 (by decide) rfl (fun ls hl => ?_)
        refine lv_goto (tgt := 29) hx hb dX7_asking_63 (by decide) ?_
        exact hk29 y36 Tu_33 H locs ls h hP hD hS (lv_sub hl [1, 2, 3, 0] rfl)
set_option maxHeartbeats 4000000 in
set_option maxRecDepth 100000 in
theorem w_X7_asking_L21 {p : Program} {l : Launch} {e : Env} {s : State} {m : MethodId} {below : List Frame} {meth : Method} {c : Code} {G : va_G} {cA : Nat → ClassId} {A : Nat → Prop} {xa : Nat → Nat} {ka : Nat → Nat} {ra : Nat → Nat} {na : Nat → Nat} {ia : Nat → Nat} {ua : Nat → Nat} {va : Nat → Nat} {ca : Nat → Nat} {za : Nat → Nat} {pa : Nat → Nat} {qa : Nat → Nat} {X : Tr} {K : Tr} {R : Tr} {P : Tr} {P2 : Tr} {L2 : Lo} {Tn : Tr} {Ti : Tr} {Tv : Tr} {C : Tr} {Z : Tr} {q0 : Nat} {q1 : Nat} {q3 : Nat} {q4 : Nat} {q5 : Nat} {r0 : Int32} {L' : Lo} {Tu' : Tr} {q2' : Nat} {q2 : Nat} {x1 : Int32} (F : tF p s m ([.ref (xa 0)] : List Value).toArray meth c G cA A RX7 cX7_asking 4 (some .int))    (N : Nat) : ∀ (x2 : Int32) (L : Lo) (Tu : Tr) (H : Heap) (locs : List Loc) (ls : Array Slot), lpF (fun _ _ _ => none) (fB_X7_asking_L21 pa qa P Tn q0 q2 q4 x1) N x2 L Tu = some (r0, L', Tu', q2') → va_P G vwCl (wX cA xa ka ra na ia ua va ca za pa qa X K R P L P2 L2 Tn Ti Tu Tv C Z q0 q1 q2 q3 q4 q5) H → va_D A (wX cA xa ka ra na ia ua va ca za pa qa X K R P L P2 L2 Tn Ti Tu Tv C Z q0 q1 q2 q3 q4 q5) → va_S A s.heap H locs → lv_has ls 4 [(0, .ref (xa 0)), (1, .int x1), (2, .int x2)] → G_X7_asking p l e s m below meth c G cA A xa ka ra na ia ua va ca za pa qa X K R P P2 L2 Tn Ti Tv C Z q0 q1 q3 q4 q5 r0 L' Tu' q2' H locs (F0 m 21 ls []) := by
  obtain ⟨hx, hb, hr, hml, hT, hown, hlocks, hK, hN, hA⟩ := id F
  induction N with
  | zero =>
    intro x2 L Tu H locs ls h
    have h : (none : Option (Int32 × Lo × Tr × Nat)) = some (r0, L', Tu', q2') := h
    cases h
  | succ N hk21 =>
    intro x2 L Tu H locs ls h hP hD hS hl
    have h : fB_X7_asking_L21 pa qa P Tn q0 q2 q4 x1 (lpF (fun _ _ _ => none) (fB_X7_asking_L21 pa qa P Tn q0 q2 q4 x1) N) x2 L Tu = some (r0, L', Tu', q2') := h
    generalize hk21e : lpF (fun _ _ _ => none) (fB_X7_asking_L21 pa qa P Tn q0 q2 q4 x1) N = k21 at h hk21
    unfold fB_X7_asking_L21 at h
    refine lv_iload_n hx hb dX7_asking_21 rfl (lv_at hl 2 rfl) ?_
    refine lv_bipush (v := 20) hx hb dX7_asking_22 (by decide) ?_
    refine lv_icmp_gt (tgt := 79) hx hb dX7_asking_24 (by decide) (fun c15 => ?_) (fun c15 => ?_)
    · have h := tx_pos c15 h
      exact w_X7_asking_J79 F x1 L Tu q2 H locs ls h hP hD hS (lv_sub hl [0, 1] rfl)
    · have h := tx_neg c15 h
      refine lv_iconst (v := 0) hx hb dX7_asking_27 (by decide) ?_
      refine lv_istore_n (lv' := [(3, .int 0), (0, .ref (xa 0)), (1, .int x1), (2, .int x2)]) hx hb dX7_asking_28 rfl hl (by decide) rfl (fun ls hl => ?_)
      exact w_X7_asking_L29 F k21 hk21 2000 0 Tu H locs ls h hP hD hS (lv_sub hl [1, 2, 3, 0] rfl)
set_option maxHeartbeats 4000000 in
set_option maxRecDepth 100000 in
theorem c_X7_asking (l : Launch) (G : va_G) (cA : Nat → ClassId) (sz : Nat) (xa : Nat → Nat) (ka : Nat → Nat) (ra : Nat → Nat) (na : Nat → Nat) (ia : Nat → Nat) (ua : Nat → Nat) (va : Nat → Nat) (ca : Nat → Nat) (za : Nat → Nat) (pa : Nat → Nat) (qa : Nat → Nat) (X : Tr) (K : Tr) (R : Tr) (P : Tr) (L : Lo) (P2 : Tr) (L2 : Lo) (Tn : Tr) (Ti : Tr) (Tu : Tr) (Tv : Tr) (C : Tr) (Z : Tr) (q0 : Nat) (q1 : Nat) (q2 : Nat) (q3 : Nat) (q4 : Nat) (q5 : Nat)  (r0 : Int32) (L' : Lo) (Tu' : Tr) (q2' : Nat) (h : f_X7_asking pa qa P L Tn Tu q0 q2 q4 = some (r0, L', Tu', q2')) : Met l yX7_asking (.code yX7_asking cX7_asking 4 (some .int) :: T0) ({ frames := 7, cells := 0, slots := 0, locals := 173 } : Room) (tqP G cA [.ref (xa 0)] (wX cA xa ka ra na ia ua va ca za pa qa X K R P L P2 L2 Tn Ti Tu Tv C Z q0 q1 q2 q3 q4 q5) sz) (tqQi G cA (fun (r : Int32) (_ : Unit) => r = r0) (fun (_ : Unit) => wX cA xa ka ra na ia ua va ca za pa qa X K R P (L') P2 L2 Tn Ti (Tu') Tv C Z q0 q1 (q2') q3 q4 q5) (va_A (wX cA xa ka ra na ia ua va ca za pa qa X K R P L P2 L2 Tn Ti Tu Tv C Z q0 q1 q2 q3 q4 q5) sz)) 0 0 (va_A (wX cA xa ka ra na ia ua va ca za pa qa X K R P L P2 L2 Tn Ti Tu Tv C Z q0 q1 q2 q3 q4 q5) sz) := by
  refine Met.ofW (cc := cX7_asking) (maxL := 4) (ret := (some .int)) (by decide) rfl ?_
  intro p e s m args below meth c s₁ B hml hv
  obtain ⟨rfl, hsz, hP, hK, hD0, hN⟩ := hv
  have hx := B.exec
  have hb := B.bytes
  have hr := B.returns
  have hts := atoms_spec (ws := .code yX7_asking cX7_asking 4 (some .int) :: T0) B.pre
  have hT : ∀ w ∈ T0, w.before _ s = true := fun w h => hts w (List.mem_cons_of_mem _ h)
  have hown : s.vm.findClass RX7 = some m.cls := findClass_of_methodNamed B.named
  have hlocks := B.notSynchronized
  subst hsz
  have hD := hD0.self (sz := s.heap.size)
  generalize hAe : va_A (wX cA xa ka ra na ia ua va ca za pa qa X K R P L P2 L2 Tn Ti Tu Tv C Z q0 q1 q2 q3 q4 q5) s.heap.size = A at hD ⊢
  have hA : ∀ q : Nat, s.heap.size ≤ q → A q := fun q h => by rw [← hAe]; exact Or.inr h
  have hS : va_S A s.heap s.heap [] := va_S.rf
  have hl := lv_entry ([.ref (xa 0)]) (n := 4) (Nat.le_of_ble_eq_true rfl)
  rw [lg_entry_eq]
  generalize (lg_sl ([.ref (xa 0)]) ++ List.replicate (4 - (lg_sl ([.ref (xa 0)])).length) Slot.unset).toArray = ls at hl ⊢
  have hl : lv_has ls 4 [(0, .ref (xa 0))] := hl
  have F : tF p s m ([.ref (xa 0)] : List Value).toArray meth c G cA A RX7 cX7_asking 4 (some .int) := ⟨hx, hb, hr, hml, hT, hown, hlocks, hK, hN, hA⟩
  obtain ⟨H, hH⟩ : ∃ z, z = s.heap := ⟨_, rfl⟩
  rw [← hH] at hP
  have hS : va_S A s.heap H [] := by rw [hH]; exact hS
  suffices hgo : G_X7_asking p l e s m below meth c G cA A xa ka ra na ia ua va ca za pa qa X K R P P2 L2 Tn Ti Tv C Z q0 q1 q3 q4 q5 r0 L' Tu' q2' H [] (F0 m 0 ls []) by rw [hH] at hgo; exact hgo
  generalize ([] : List Loc) = locs at hS ⊢
  unfold f_X7_asking at h
  refine lv_aload_n hx hb dX7_asking_0 rfl (lv_at hl 0 rfl) ?_
  obtain ⟨⟨Tu_1, q2_2⟩, hc3, h⟩ := tx_bd h
  replace h := tx_let (y := Tu_1) rfl h
  replace h := tx_let (y := q2_2) rfl h
  refine tw_cv tw_all hP hD hS hA (va_runV (As := []) (rest := []) ⟨hx, hb, hml, hown, hT⟩ (c_X7_startTrial l G cA H.size xa ka ra na ia ua va ca za pa qa X K R P L P2 L2 Tn Ti Tu Tv C Z q0 q1 q2 q3 q4 q5  Tu_1 q2_2 hc3) (cwV 0 hT (tq_gV kw_46_17 kw_46_18 kw_46_19 kw_1_2 kw_46_20) rfl rfl rfl (by decide +kernel) ⟨Nat.le_of_ble_eq_true rfl, Nat.le_of_ble_eq_true rfl⟩) ⟨(tw_pre tw_all hP hD hK hN).1, va_recv hK hP (ci := 7) (q0 := 0) rfl rfl, (tw_pre tw_all hP hD hK hN).2⟩ rfl rfl hl.1 rfl (lv_room (Nat.le_of_ble_eq_true rfl)) dX7_asking_1 ⟨Nat.le_of_ble_eq_true rfl, Nat.le_of_ble_eq_true rfl⟩) (fun _ H locs z4 hP hD hS => ?_)
  rw [List.append_nil] at hP hD
  have hP : va_P G vwCl (wX cA xa ka ra na ia ua va ca za pa qa X K R P L P2 L2 Tn Ti Tu_1 Tv C Z q0 q1 q2_2 q3 q4 q5) H := hP
  have hD : va_D A (wX cA xa ka ra na ia ua va ca za pa qa X K R P L P2 L2 Tn Ti Tu_1 Tv C Z q0 q1 q2_2 q3 q4 q5) := hD
  refine lv_aload_n hx hb dX7_asking_4 rfl (lv_at hl 0 rfl) ?_
  obtain ⟨⟨r5, L_6, Tu_7⟩, hc8, h⟩ := tx_bd h
  replace h := tx_let (y := r5) rfl h
  replace h := tx_let (y := L_6) rfl h
  replace h := tx_let (y := Tu_7) rfl h
  refine tw_ci tw_all hP hD hS hA (va_runV (As := []) (rest := []) ⟨hx, hb, hml, hown, hT⟩ (c_X7_liftsOfTrial l G cA H.size xa ka ra na ia ua va ca za pa qa X K R P L P2 L2 Tn Ti Tu_1 Tv C Z q0 q1 q2_2 q3 q4 q5  r5 L_6 Tu_7 hc8) (cwV 0 hT (tq_gV kw_49_5 kw_49_6 kw_49_7 kw_1_2 kw_49_8) rfl rfl rfl (by decide +kernel) ⟨Nat.le_of_ble_eq_true rfl, Nat.le_of_ble_eq_true rfl⟩) ⟨(tw_pre tw_all hP hD hK hN).1, va_recv hK hP (ci := 7) (q0 := 0) rfl rfl, (tw_pre tw_all hP hD hK hN).2⟩ rfl rfl hl.1 rfl (lv_room (Nat.le_of_ble_eq_true rfl)) dX7_asking_5 ⟨Nat.le_of_ble_eq_true rfl, Nat.le_of_ble_eq_true rfl⟩) (fun _ _ H locs z9 hP hD hS => ?_)
  subst z9
  rw [List.append_nil] at hP hD
  have hP : va_P G vwCl (wX cA xa ka ra na ia ua va ca za pa qa X K R P L_6 P2 L2 Tn Ti Tu_7 Tv C Z q0 q1 q2_2 q3 q4 q5) H := hP
  have hD : va_D A (wX cA xa ka ra na ia ua va ca za pa qa X K R P L_6 P2 L2 Tn Ti Tu_7 Tv C Z q0 q1 q2_2 q3 q4 q5) := hD
  refine lv_istore_n (lv' := [(1, .int r5), (0, .ref (xa 0))]) hx hb dX7_asking_8 rfl hl (by decide) rfl (fun ls hl => ?_)
  refine lv_aload_n hx hb dX7_asking_9 rfl (lv_at hl 1 rfl) ?_
  obtain ⟨⟨Tu_10, q2_11⟩, hc12, h⟩ := tx_bd h
  replace h := tx_let (y := Tu_10) rfl h
  replace h := tx_let (y := q2_11) rfl h
  refine tw_cv tw_all hP hD hS hA (va_runV (As := []) (rest := []) ⟨hx, hb, hml, hown, hT⟩ (c_X7_startTrial l G cA H.size xa ka ra na ia ua va ca za pa qa X K R P L_6 P2 L2 Tn Ti Tu_7 Tv C Z q0 q1 q2_2 q3 q4 q5  Tu_10 q2_11 hc12) (cwV 0 hT (tq_gV kw_46_17 kw_46_18 kw_46_19 kw_1_2 kw_46_20) rfl rfl rfl (by decide +kernel) ⟨Nat.le_of_ble_eq_true rfl, Nat.le_of_ble_eq_true rfl⟩) ⟨(tw_pre tw_all hP hD hK hN).1, va_recv hK hP (ci := 7) (q0 := 0) rfl rfl, (tw_pre tw_all hP hD hK hN).2⟩ rfl rfl hl.1 rfl (lv_room (Nat.le_of_ble_eq_true rfl)) dX7_asking_10 ⟨Nat.le_of_ble_eq_true rfl, Nat.le_of_ble_eq_true rfl⟩) (fun _ H locs z13 hP hD hS => ?_)
  rw [List.append_nil] at hP hD
  have hP : va_P G vwCl (wX cA xa ka ra na ia ua va ca za pa qa X K R P L_6 P2 L2 Tn Ti Tu_10 Tv C Z q0 q1 q2_11 q3 q4 q5) H := hP
  have hD : va_D A (wX cA xa ka ra na ia ua va ca za pa qa X K R P L_6 P2 L2 Tn Ti Tu_10 Tv C Z q0 q1 q2_11 q3 q4 q5) := hD
  refine lv_aload_n hx hb dX7_asking_13 rfl (lv_at hl 1 rfl) ?_
  refine va_get (D := G) (ci := 7) (v := .ref (na 0)) (C := RX7) (T := TX7) (N := 12) hx hb hT ku_7 hown hK hP 0 rfl rfl 2 (by decide) (hT _ kw_2_0) (fun _ h9 => h9) rfl dX7_asking_14 ?_
  refine va_get (D := G) (ci := 6) (v := .int (Tn 0 0)) (C := RX6) (T := TX6) (N := 20) hx hb hT ku_6 hown hK hP 53 rfl rfl 0 (by decide) (hT _ kw_40_5) (fun _ h9 => h9) rfl dX7_asking_17 ?_
  refine lv_topi (fun y14 ey14 => ?_)
  have h := tx_let ey14 h
  refine lv_istore_n (lv' := [(2, .int y14), (1, .int r5), (0, .ref (xa 0))]) hx hb dX7_asking_20 rfl hl (by decide) rfl (fun ls hl => ?_)
  exact w_X7_asking_L21 F 2000 y14 L_6 Tu_10 H locs ls h hP hD hS (lv_sub hl [2, 1, 0] rfl)
abbrev G_X7_back (p : Program) (l : Launch) (e : Env) (s : State) (m : MethodId) (below : List Frame) (meth : Method) (c : Code) (G : va_G) (cA : Nat → ClassId) (A : Nat → Prop) (xa : Nat → Nat) (ka : Nat → Nat) (ra : Nat → Nat) (na : Nat → Nat) (ia : Nat → Nat) (ua : Nat → Nat) (va : Nat → Nat) (ca : Nat → Nat) (za : Nat → Nat) (pa : Nat → Nat) (qa : Nat → Nat) (X : Tr) (K : Tr) (R : Tr) (P : Tr) (L : Lo) (P2 : Tr) (L2 : Lo) (Ti : Tr) (Tu : Tr) (Tv : Tr) (Z : Tr) (q1 : Nat) (q2 : Nat) (q3 : Nat) (q4 : Nat) (q5 : Nat) (r0 : Int32) (Tn' : Tr) (C' : Tr) (q0' : Nat) (H : Heap) (locs : List Loc) (g : JFrame) : Prop := W p l e (headSpec (.code yX7_back cX7_back 1 (some .int) :: T0) ({ frames := 2, cells := 0, slots := 0, locals := 61 } : Room)).room s m ([.ref (xa 0)] : List Value).toArray below meth c H locs 0 0 (MQ below (tqQi G cA (fun (r : Int32) (_ : Unit) => r = r0) (fun (_ : Unit) => wX cA xa ka ra na ia ua va ca za pa qa X K R P L P2 L2 (Tn') Ti Tu Tv (C') Z (q0') q1 q2 q3 q4 q5) A) ([.ref (xa 0)] : List Value).toArray s 0 0 A) g
set_option maxHeartbeats 4000000 in
set_option maxRecDepth 100000 in
theorem c_X7_back (l : Launch) (G : va_G) (cA : Nat → ClassId) (sz : Nat) (xa : Nat → Nat) (ka : Nat → Nat) (ra : Nat → Nat) (na : Nat → Nat) (ia : Nat → Nat) (ua : Nat → Nat) (va : Nat → Nat) (ca : Nat → Nat) (za : Nat → Nat) (pa : Nat → Nat) (qa : Nat → Nat) (X : Tr) (K : Tr) (R : Tr) (P : Tr) (L : Lo) (P2 : Tr) (L2 : Lo) (Tn : Tr) (Ti : Tr) (Tu : Tr) (Tv : Tr) (C : Tr) (Z : Tr) (q0 : Nat) (q1 : Nat) (q2 : Nat) (q3 : Nat) (q4 : Nat) (q5 : Nat)  (r0 : Int32) (Tn' : Tr) (C' : Tr) (q0' : Nat) (h : f_X7_back pa qa X Tn Ti C q0 q1 = some (r0, Tn', C', q0')) : Met l yX7_back (.code yX7_back cX7_back 1 (some .int) :: T0) ({ frames := 2, cells := 0, slots := 0, locals := 61 } : Room) (tqP G cA [.ref (xa 0)] (wX cA xa ka ra na ia ua va ca za pa qa X K R P L P2 L2 Tn Ti Tu Tv C Z q0 q1 q2 q3 q4 q5) sz) (tqQi G cA (fun (r : Int32) (_ : Unit) => r = r0) (fun (_ : Unit) => wX cA xa ka ra na ia ua va ca za pa qa X K R P L P2 L2 (Tn') Ti Tu Tv (C') Z (q0') q1 q2 q3 q4 q5) (va_A (wX cA xa ka ra na ia ua va ca za pa qa X K R P L P2 L2 Tn Ti Tu Tv C Z q0 q1 q2 q3 q4 q5) sz)) 0 0 (va_A (wX cA xa ka ra na ia ua va ca za pa qa X K R P L P2 L2 Tn Ti Tu Tv C Z q0 q1 q2 q3 q4 q5) sz) := by
  refine Met.ofW (cc := cX7_back) (maxL := 1) (ret := (some .int)) (by decide) rfl ?_
  intro p e s m args below meth c s₁ B hml hv
  obtain ⟨rfl, hsz, hP, hK, hD0, hN⟩ := hv
  have hx := B.exec
  have hb := B.bytes
  have hr := B.returns
  have hts := atoms_spec (ws := .code yX7_back cX7_back 1 (some .int) :: T0) B.pre
  have hT : ∀ w ∈ T0, w.before _ s = true := fun w h => hts w (List.mem_cons_of_mem _ h)
  have hown : s.vm.findClass RX7 = some m.cls := findClass_of_methodNamed B.named
  have hlocks := B.notSynchronized
  subst hsz
  have hD := hD0.self (sz := s.heap.size)
  generalize hAe : va_A (wX cA xa ka ra na ia ua va ca za pa qa X K R P L P2 L2 Tn Ti Tu Tv C Z q0 q1 q2 q3 q4 q5) s.heap.size = A at hD ⊢
  have hA : ∀ q : Nat, s.heap.size ≤ q → A q := fun q h => by rw [← hAe]; exact Or.inr h
  have hS : va_S A s.heap s.heap [] := va_S.rf
  have hl := lv_entry ([.ref (xa 0)]) (n := 1) (Nat.le_of_ble_eq_true rfl)
  rw [lg_entry_eq]
  generalize (lg_sl ([.ref (xa 0)]) ++ List.replicate (1 - (lg_sl ([.ref (xa 0)])).length) Slot.unset).toArray = ls at hl ⊢
  have hl : lv_has ls 1 [(0, .ref (xa 0))] := hl
  have F : tF p s m ([.ref (xa 0)] : List Value).toArray meth c G cA A RX7 cX7_back 1 (some .int) := ⟨hx, hb, hr, hml, hT, hown, hlocks, hK, hN, hA⟩
  obtain ⟨H, hH⟩ : ∃ z, z = s.heap := ⟨_, rfl⟩
  rw [← hH] at hP
  have hS : va_S A s.heap H [] := by rw [hH]; exact hS
  suffices hgo : G_X7_back p l e s m below meth c G cA A xa ka ra na ia ua va ca za pa qa X K R P L P2 L2 Ti Tu Tv Z q1 q2 q3 q4 q5 r0 Tn' C' q0' H [] (F0 m 0 ls []) by rw [hH] at hgo; exact hgo
  generalize ([] : List Loc) = locs at hS ⊢
  unfold f_X7_back at h
  refine lv_aload_n hx hb dX7_back_0 rfl (lv_at hl 0 rfl) ?_
  refine va_get (D := G) (ci := 7) (v := .int (X 0 4)) (C := RX7) (T := TX7) (N := 12) hx hb hT ku_7 hown hK hP 0 rfl rfl 4 (by decide) (hT _ kw_2_2) (fun _ h9 => h9) rfl dX7_back_1 ?_
  refine lv_if_ne (tgt := 9) hx hb dX7_back_4 (by decide) (fun c1 => ?_) (fun c1 => ?_)
  · have h := tx_neg c1 h
    refine lv_aload_n hx hb dX7_back_9 rfl (lv_at hl 0 rfl) ?_
    refine va_get (D := G) (ci := 7) (v := .ref (na 0)) (C := RX7) (T := TX7) (N := 12) hx hb hT ku_7 hown hK hP 0 rfl rfl 2 (by decide) (hT _ kw_2_0) (fun _ h9 => h9) rfl dX7_back_10 ?_
    refine lv_aload_n hx hb dX7_back_13 rfl (lv_at hl 0 rfl) ?_
    refine va_get (D := G) (ci := 7) (v := .ref (ia 0)) (C := RX7) (T := TX7) (N := 12) hx hb hT ku_7 hown hK hP 0 rfl rfl 3 (by decide) (hT _ kw_2_1) (fun _ h9 => h9) rfl dX7_back_14 ?_
    obtain ⟨⟨Tn_2, q0_3⟩, hc4, h⟩ := tx_bd h
    replace h := tx_let (y := Tn_2) rfl h
    replace h := tx_let (y := q0_3) rfl h
    refine tw_cv pX_na_ia hP hD hS hA (va_runV (As := [.ref (ia 0)]) (rest := []) ⟨hx, hb, hml, hown, hT⟩ (c_X6_copy l G cA H.size na ia Tn Ti q0 q1  Tn_2 q0_3 hc4) (cwV 1 hT (tq_gV kw_38_6 kw_38_7 kw_38_8 kw_1_23 kw_38_9) rfl rfl rfl (by decide +kernel) ⟨Nat.le_of_ble_eq_true rfl, Nat.le_of_ble_eq_true rfl⟩) ⟨(tw_pre pX_na_ia hP hD hK hN).1, va_recv hK hP (ci := 6) (q0 := 53) rfl rfl, (tw_pre pX_na_ia hP hD hK hN).2⟩ rfl rfl hl.1 rfl (lv_room (Nat.le_of_ble_eq_true rfl)) dX7_back_17 ⟨Nat.le_of_ble_eq_true rfl, Nat.le_of_ble_eq_true rfl⟩) (fun _ H locs z5 hP hD hS => ?_)
    replace hP := tw_P pX_na_ia.symm hP
    replace hD := tw_D pX_na_ia.symm hD
    have hP : va_P G vwCl (wX cA xa ka ra na ia ua va ca za pa qa X K R P L P2 L2 Tn_2 Ti Tu Tv C Z q0_3 q1 q2 q3 q4 q5) H := hP
    have hD : va_D A (wX cA xa ka ra na ia ua va ca za pa qa X K R P L P2 L2 Tn_2 Ti Tu Tv C Z q0_3 q1 q2 q3 q4 q5) := hD
    refine lv_aload_n hx hb dX7_back_20 rfl (lv_at hl 0 rfl) ?_
    refine va_get (D := G) (ci := 7) (v := .ref (ca 0)) (C := RX7) (T := TX7) (N := 12) hx hb hT ku_7 hown hK hP 0 rfl rfl 7 (by decide) (hT _ kw_2_8) (fun _ h9 => h9) rfl dX7_back_21 ?_
    refine lv_iconst (v := 0) hx hb dX7_back_24 (by decide) ?_
    refine va_put (D := G) (ci := 0) (v := .int 0) (ty := .int) (C := RX0) (T := TX0) (N := 3) hx hb hT ku_0 tyX0 tyX0_ok nmX0 hown hK hP hD hS 101 rfl rfl 0 (by decide) (hT _ kw_14_7) (fun _ h9 => h9) rfl (by decide +kernel) rfl rfl (Nat.le_of_ble_eq_true rfl) dX7_back_25 (fun H locs hP hD hS => ?_)
    obtain ⟨C_6, eC_6, h⟩ := tx_lt h
    rw [sX_ca_f0, eC_6] at hP hD
    refine lv_aload_n hx hb dX7_back_28 rfl (lv_at hl 0 rfl) ?_
    refine va_get (D := G) (ci := 7) (v := .ref (na 0)) (C := RX7) (T := TX7) (N := 12) hx hb hT ku_7 hown hK hP 0 rfl rfl 2 (by decide) (hT _ kw_2_0) (fun _ h9 => h9) rfl dX7_back_29 ?_
    refine va_get (D := G) (ci := 6) (v := .int (Tn_2 0 0)) (C := RX6) (T := TX6) (N := 20) hx hb hT ku_6 hown hK hP 53 rfl rfl 0 (by decide) (hT _ kw_40_5) (fun _ h9 => h9) rfl dX7_back_32 ?_
    obtain ⟨rfl, rfl, rfl, rfl⟩ := tx_4 h
    exact W.iret hx hb hr (fun t ht hW => ⟨⟨_, (), rfl, rfl, by rw [ht]; exact hP, hD⟩, hS.F ht⟩) hS.2.2 dX7_back_35
  · have h := tx_pos c1 h
    refine lv_iconst (v := (-1)) hx hb dX7_back_7 (by decide) ?_
    obtain ⟨rfl, rfl, rfl, rfl⟩ := tx_4 h
    exact W.iret hx hb hr (fun t ht hW => ⟨⟨_, (), rfl, rfl, by rw [ht]; exact hP, hD⟩, hS.F ht⟩) hS.2.2 dX7_back_8
abbrev G_X7_bestRule (p : Program) (l : Launch) (e : Env) (s : State) (m : MethodId) (below : List Frame) (meth : Method) (c : Code) (G : va_G) (cA : Nat → ClassId) (A : Nat → Prop) (xa : Nat → Nat) (ka : Nat → Nat) (ra : Nat → Nat) (na : Nat → Nat) (ia : Nat → Nat) (ua : Nat → Nat) (va : Nat → Nat) (ca : Nat → Nat) (za : Nat → Nat) (pa : Nat → Nat) (qa : Nat → Nat) (X : Tr) (K : Tr) (R : Tr) (P : Tr) (P2 : Tr) (L2 : Lo) (Tn : Tr) (Ti : Tr) (Tv : Tr) (C : Tr) (Z : Tr) (q0 : Nat) (q1 : Nat) (q3 : Nat) (q4 : Nat) (q5 : Nat) (r0 : Int32) (L' : Lo) (Tu' : Tr) (q2' : Nat) (H : Heap) (locs : List Loc) (g : JFrame) : Prop := W p l e (headSpec (.code yX7_bestRule cX7_bestRule 5 (some .int) :: T0) ({ frames := 7, cells := 0, slots := 0, locals := 173 } : Room)).room s m ([.ref (xa 0)] : List Value).toArray below meth c H locs 0 0 (MQ below (tqQi G cA (fun (r : Int32) (_ : Unit) => r = r0) (fun (_ : Unit) => wX cA xa ka ra na ia ua va ca za pa qa X K R P (L') P2 L2 Tn Ti (Tu') Tv C Z q0 q1 (q2') q3 q4 q5) A) ([.ref (xa 0)] : List Value).toArray s 0 0 A) g
set_option maxHeartbeats 4000000 in
set_option maxRecDepth 100000 in
theorem w_X7_bestRule_L8 {p : Program} {l : Launch} {e : Env} {s : State} {m : MethodId} {below : List Frame} {meth : Method} {c : Code} {G : va_G} {cA : Nat → ClassId} {A : Nat → Prop} {xa : Nat → Nat} {ka : Nat → Nat} {ra : Nat → Nat} {na : Nat → Nat} {ia : Nat → Nat} {ua : Nat → Nat} {va : Nat → Nat} {ca : Nat → Nat} {za : Nat → Nat} {pa : Nat → Nat} {qa : Nat → Nat} {X : Tr} {K : Tr} {R : Tr} {P : Tr} {P2 : Tr} {L2 : Lo} {Tn : Tr} {Ti : Tr} {Tv : Tr} {C : Tr} {Z : Tr} {q0 : Nat} {q1 : Nat} {q3 : Nat} {q4 : Nat} {q5 : Nat} {r0 : Int32} {L' : Lo} {Tu' : Tr} {q2' : Nat} (F : tF p s m ([.ref (xa 0)] : List Value).toArray meth c G cA A RX7 cX7_bestRule 5 (some .int))    (N : Nat) : ∀ (x1 : Int32) (x2 : Int32) (x3 : Int32) (L : Lo) (Tu : Tr) (q2 : Nat) (H : Heap) (locs : List Loc) (ls : Array Slot), lpF (fun _ _ _ _ _ _ => none) (fB_X7_bestRule_L8 pa qa P Tn q0) N x1 x2 x3 L Tu q2 = some (r0, L', Tu', q2') → va_P G vwCl (wX cA xa ka ra na ia ua va ca za pa qa X K R P L P2 L2 Tn Ti Tu Tv C Z q0 q1 q2 q3 q4 q5) H → va_D A (wX cA xa ka ra na ia ua va ca za pa qa X K R P L P2 L2 Tn Ti Tu Tv C Z q0 q1 q2 q3 q4 q5) → va_S A s.heap H locs → lv_has ls 5 [(0, .ref (xa 0)), (1, .int x1), (2, .int x2), (3, .int x3)] → G_X7_bestRule p l e s m below meth c G cA A xa ka ra na ia ua va ca za pa qa X K R P P2 L2 Tn Ti Tv C Z q0 q1 q3 q4 q5 r0 L' Tu' q2' H locs (F0 m 8 ls []) := by
  obtain ⟨hx, hb, hr, hml, hT, hown, hlocks, hK, hN, hA⟩ := id F
  induction N with
  | zero =>
    intro x1 x2 x3 L Tu q2 H locs ls h
    have h : (none : Option (Int32 × Lo × Tr × Nat)) = some (r0, L', Tu', q2') := h
    cases h
  | succ N hk8 =>
    intro x1 x2 x3 L Tu q2 H locs ls h hP hD hS hl
    have h : fB_X7_bestRule_L8 pa qa P Tn q0 (lpF (fun _ _ _ _ _ _ => none) (fB_X7_bestRule_L8 pa qa P Tn q0) N) x1 x2 x3 L Tu q2 = some (r0, L', Tu', q2') := h
    generalize hk8e : lpF (fun _ _ _ _ _ _ => none) (fB_X7_bestRule_L8 pa qa P Tn q0) N = k8 at h hk8
    unfold fB_X7_bestRule_L8 at h
    refine lv_iload_n hx hb dX7_bestRule_8 rfl (lv_at hl 3 rfl) ?_
    refine lv_iconst (v := 3) hx hb dX7_bestRule_9 (by decide) ?_
    refine lv_icmp_ge (tgt := 48) hx hb dX7_bestRule_10 (by decide) (fun c1 => ?_) (fun c1 => ?_)
    · have h := tx_pos c1 h
      refine lv_iload_n hx hb dX7_bestRule_48 rfl (lv_at hl 1 rfl) ?_
      obtain ⟨rfl, rfl, rfl, rfl⟩ := tx_4 h
      exact W.iret hx hb hr (fun t ht hW => ⟨⟨_, (), rfl, rfl, by rw [ht]; exact hP, hD⟩, hS.F ht⟩) hS.2.2 dX7_bestRule_49
    · have h := tx_neg c1 h
      refine lv_aload_n hx hb dX7_bestRule_13 rfl (lv_at hl 0 rfl) ?_
      obtain ⟨⟨Tu_2, q2_3⟩, hc4, h⟩ := tx_bd h
      replace h := tx_let (y := Tu_2) rfl h
      replace h := tx_let (y := q2_3) rfl h
      refine tw_cv tw_all hP hD hS hA (va_runV (As := []) (rest := []) ⟨hx, hb, hml, hown, hT⟩ (c_X7_startTrial l G cA H.size xa ka ra na ia ua va ca za pa qa X K R P L P2 L2 Tn Ti Tu Tv C Z q0 q1 q2 q3 q4 q5  Tu_2 q2_3 hc4) (cwV 0 hT (tq_gV kw_46_17 kw_46_18 kw_46_19 kw_1_2 kw_46_20) rfl rfl rfl (by decide +kernel) ⟨Nat.le_of_ble_eq_true rfl, Nat.le_of_ble_eq_true rfl⟩) ⟨(tw_pre tw_all hP hD hK hN).1, va_recv hK hP (ci := 7) (q0 := 0) rfl rfl, (tw_pre tw_all hP hD hK hN).2⟩ rfl rfl hl.1 rfl (lv_room (Nat.le_of_ble_eq_true rfl)) dX7_bestRule_14 ⟨Nat.le_of_ble_eq_true rfl, Nat.le_of_ble_eq_true rfl⟩) (fun _ H locs z5 hP hD hS => ?_)
      rw [List.append_nil] at hP hD
      have hP : va_P G vwCl (wX cA xa ka ra na ia ua va ca za pa qa X K R P L P2 L2 Tn Ti Tu_2 Tv C Z q0 q1 q2_3 q3 q4 q5) H := hP
      have hD : va_D A (wX cA xa ka ra na ia ua va ca za pa qa X K R P L P2 L2 Tn Ti Tu_2 Tv C Z q0 q1 q2_3 q3 q4 q5) := hD
      refine lv_aload_n hx hb dX7_bestRule_17 rfl (lv_at hl 0 rfl) ?_
      refine va_get (D := G) (ci := 7) (v := .ref (ua 0)) (C := RX7) (T := TX7) (N := 12) hx hb hT ku_7 hown hK hP 0 rfl rfl 5 (by decide) (hT _ kw_2_3) (fun _ h9 => h9) rfl dX7_bestRule_18 ?_
      refine lv_iload_n hx hb dX7_bestRule_21 rfl (lv_at hl 3 rfl) ?_
      refine va_put (D := G) (ci := 6) (v := .int x3) (ty := .int) (C := RX6) (T := TX6) (N := 20) hx hb hT ku_6 tyX6 tyX6_ok nmX6 hown hK hP hD hS 77 rfl rfl 3 (by decide) (hT _ kw_51_13) (fun _ h9 => h9) rfl (by decide +kernel) rfl rfl (Nat.le_of_ble_eq_true rfl) dX7_bestRule_22 (fun H locs hP hD hS => ?_)
      obtain ⟨Tu_6, eTu_6, h⟩ := tx_lt h
      rw [sX_ua_f3, eTu_6] at hP hD
      refine lv_aload_n hx hb dX7_bestRule_25 rfl (lv_at hl 0 rfl) ?_
      obtain ⟨⟨r7, L_8, Tu_9⟩, hc10, h⟩ := tx_bd h
      replace h := tx_let (y := r7) rfl h
      replace h := tx_let (y := L_8) rfl h
      replace h := tx_let (y := Tu_9) rfl h
      refine tw_ci tw_all hP hD hS hA (va_runV (As := []) (rest := []) ⟨hx, hb, hml, hown, hT⟩ (c_X7_liftsOfTrial l G cA H.size xa ka ra na ia ua va ca za pa qa X K R P L P2 L2 Tn Ti Tu_6 Tv C Z q0 q1 q2_3 q3 q4 q5  r7 L_8 Tu_9 hc10) (cwV 0 hT (tq_gV kw_49_5 kw_49_6 kw_49_7 kw_1_2 kw_49_8) rfl rfl rfl (by decide +kernel) ⟨Nat.le_of_ble_eq_true rfl, Nat.le_of_ble_eq_true rfl⟩) ⟨(tw_pre tw_all hP hD hK hN).1, va_recv hK hP (ci := 7) (q0 := 0) rfl rfl, (tw_pre tw_all hP hD hK hN).2⟩ rfl rfl hl.1 rfl (lv_room (Nat.le_of_ble_eq_true rfl)) dX7_bestRule_26 ⟨Nat.le_of_ble_eq_true rfl, Nat.le_of_ble_eq_true rfl⟩) (fun _ _ H locs z11 hP hD hS => ?_)
      subst z11
      rw [List.append_nil] at hP hD
      have hP : va_P G vwCl (wX cA xa ka ra na ia ua va ca za pa qa X K R P L_8 P2 L2 Tn Ti Tu_9 Tv C Z q0 q1 q2_3 q3 q4 q5) H := hP
      have hD : va_D A (wX cA xa ka ra na ia ua va ca za pa qa X K R P L_8 P2 L2 Tn Ti Tu_9 Tv C Z q0 q1 q2_3 q3 q4 q5) := hD
      refine lv_istore (lv' := [(4, .int r7), (0, .ref (xa 0)), (1, .int x1), (2, .int x2), (3, .int x3)]) hx hb dX7_bestRule_29 hl (by decide) rfl (fun ls hl => ?_)
      refine lv_iload hx hb dX7_bestRule_31 (lv_at hl 0 rfl) ?_
      refine lv_iload_n hx hb dX7_bestRule_33 rfl (lv_at hl 3 rfl) ?_
      refine lv_icmp_ge (tgt := 42) hx hb dX7_bestRule_34 (by decide) (fun c12 => ?_) (fun c12 => ?_)
      · have h := tx_pos c12 h
        obtain ⟨y13, ey13, h⟩ := tx_lt h
        refine lv_iinc (v := y13) (lv' := [(3, .int y13), (4, .int r7), (0, .ref (xa 0)), (1, .int x1), (2, .int x2)]) hx hb dX7_bestRule_42 hl (k := 4) rfl ey13 (by decide) rfl (fun ls hl => ?_)
        refine lv_goto (tgt := 8) hx hb dX7_bestRule_45 (by decide) ?_
        exact hk8 x1 x2 y13 L_8 Tu_9 q2_3 H locs ls h hP hD hS (lv_sub hl [2, 3, 4, 0] rfl)
      · have h := tx_neg c12 h
        refine lv_iload hx hb dX7_bestRule_37 (lv_at hl 0 rfl) ?_
        refine lv_istore_n (lv' := [(2, .int r7), (4, .int r7), (0, .ref (xa 0)), (1, .int x1), (3, .int x3)]) hx hb dX7_bestRule_39 rfl hl (by decide) rfl (fun ls hl => ?_)
        refine lv_iload_n hx hb dX7_bestRule_40 rfl (lv_at hl 4 rfl) ?_
        refine lv_istore_n (lv' := [(1, .int x3), (2, .int r7), (4, .int r7), (0, .ref (xa 0)), (3, .int x3)]) hx hb dX7_bestRule_41 rfl hl (by decide) rfl (fun ls hl => ?_)
        obtain ⟨y14, ey14, h⟩ := tx_lt h
        refine lv_iinc (v := y14) (lv' := [(3, .int y14), (1, .int x3), (2, .int r7), (4, .int r7), (0, .ref (xa 0))]) hx hb dX7_bestRule_42 hl (k := 4) rfl ey14 (by decide) rfl (fun ls hl => ?_)
        refine lv_goto (tgt := 8) hx hb dX7_bestRule_45 (by decide) ?_
        exact hk8 x3 r7 y14 L_8 Tu_9 q2_3 H locs ls h hP hD hS (lv_sub hl [4, 1, 2, 0] rfl)
set_option maxHeartbeats 4000000 in
set_option maxRecDepth 100000 in
theorem c_X7_bestRule (l : Launch) (G : va_G) (cA : Nat → ClassId) (sz : Nat) (xa : Nat → Nat) (ka : Nat → Nat) (ra : Nat → Nat) (na : Nat → Nat) (ia : Nat → Nat) (ua : Nat → Nat) (va : Nat → Nat) (ca : Nat → Nat) (za : Nat → Nat) (pa : Nat → Nat) (qa : Nat → Nat) (X : Tr) (K : Tr) (R : Tr) (P : Tr) (L : Lo) (P2 : Tr) (L2 : Lo) (Tn : Tr) (Ti : Tr) (Tu : Tr) (Tv : Tr) (C : Tr) (Z : Tr) (q0 : Nat) (q1 : Nat) (q2 : Nat) (q3 : Nat) (q4 : Nat) (q5 : Nat)  (r0 : Int32) (L' : Lo) (Tu' : Tr) (q2' : Nat) (h : f_X7_bestRule pa qa P L Tn Tu q0 q2 = some (r0, L', Tu', q2')) : Met l yX7_bestRule (.code yX7_bestRule cX7_bestRule 5 (some .int) :: T0) ({ frames := 7, cells := 0, slots := 0, locals := 173 } : Room) (tqP G cA [.ref (xa 0)] (wX cA xa ka ra na ia ua va ca za pa qa X K R P L P2 L2 Tn Ti Tu Tv C Z q0 q1 q2 q3 q4 q5) sz) (tqQi G cA (fun (r : Int32) (_ : Unit) => r = r0) (fun (_ : Unit) => wX cA xa ka ra na ia ua va ca za pa qa X K R P (L') P2 L2 Tn Ti (Tu') Tv C Z q0 q1 (q2') q3 q4 q5) (va_A (wX cA xa ka ra na ia ua va ca za pa qa X K R P L P2 L2 Tn Ti Tu Tv C Z q0 q1 q2 q3 q4 q5) sz)) 0 0 (va_A (wX cA xa ka ra na ia ua va ca za pa qa X K R P L P2 L2 Tn Ti Tu Tv C Z q0 q1 q2 q3 q4 q5) sz) := by
  refine Met.ofW (cc := cX7_bestRule) (maxL := 5) (ret := (some .int)) (by decide) rfl ?_
  intro p e s m args below meth c s₁ B hml hv
  obtain ⟨rfl, hsz, hP, hK, hD0, hN⟩ := hv
  have hx := B.exec
  have hb := B.bytes
  have hr := B.returns
  have hts := atoms_spec (ws := .code yX7_bestRule cX7_bestRule 5 (some .int) :: T0) B.pre
  have hT : ∀ w ∈ T0, w.before _ s = true := fun w h => hts w (List.mem_cons_of_mem _ h)
  have hown : s.vm.findClass RX7 = some m.cls := findClass_of_methodNamed B.named
  have hlocks := B.notSynchronized
  subst hsz
  have hD := hD0.self (sz := s.heap.size)
  generalize hAe : va_A (wX cA xa ka ra na ia ua va ca za pa qa X K R P L P2 L2 Tn Ti Tu Tv C Z q0 q1 q2 q3 q4 q5) s.heap.size = A at hD ⊢
  have hA : ∀ q : Nat, s.heap.size ≤ q → A q := fun q h => by rw [← hAe]; exact Or.inr h
  have hS : va_S A s.heap s.heap [] := va_S.rf
  have hl := lv_entry ([.ref (xa 0)]) (n := 5) (Nat.le_of_ble_eq_true rfl)
  rw [lg_entry_eq]
  generalize (lg_sl ([.ref (xa 0)]) ++ List.replicate (5 - (lg_sl ([.ref (xa 0)])).length) Slot.unset).toArray = ls at hl ⊢
  have hl : lv_has ls 5 [(0, .ref (xa 0))] := hl
  have F : tF p s m ([.ref (xa 0)] : List Value).toArray meth c G cA A RX7 cX7_bestRule 5 (some .int) := ⟨hx, hb, hr, hml, hT, hown, hlocks, hK, hN, hA⟩
  obtain ⟨H, hH⟩ : ∃ z, z = s.heap := ⟨_, rfl⟩
  rw [← hH] at hP
  have hS : va_S A s.heap H [] := by rw [hH]; exact hS
  suffices hgo : G_X7_bestRule p l e s m below meth c G cA A xa ka ra na ia ua va ca za pa qa X K R P P2 L2 Tn Ti Tv C Z q0 q1 q3 q4 q5 r0 L' Tu' q2' H [] (F0 m 0 ls []) by rw [hH] at hgo; exact hgo
  generalize ([] : List Loc) = locs at hS ⊢
  unfold f_X7_bestRule at h
  refine lv_iconst (v := 0) hx hb dX7_bestRule_0 (by decide) ?_
  refine lv_istore_n (lv' := [(1, .int 0), (0, .ref (xa 0))]) hx hb dX7_bestRule_1 rfl hl (by decide) rfl (fun ls hl => ?_)
  refine lv_ldcw (v := 1000000) hx hb hown (hT _ kw_52_2) dX7_bestRule_2 ?_
  refine lv_istore_n (lv' := [(2, .int 1000000), (1, .int 0), (0, .ref (xa 0))]) hx hb dX7_bestRule_5 rfl hl (by decide) rfl (fun ls hl => ?_)
  refine lv_iconst (v := 0) hx hb dX7_bestRule_6 (by decide) ?_
  refine lv_istore_n (lv' := [(3, .int 0), (2, .int 1000000), (1, .int 0), (0, .ref (xa 0))]) hx hb dX7_bestRule_7 rfl hl (by decide) rfl (fun ls hl => ?_)
  exact w_X7_bestRule_L8 F 2000 0 1000000 0 L Tu q2 H locs ls h hP hD hS (lv_sub hl [3, 2, 1, 0] rfl)
abbrev G_X7_byRule (p : Program) (l : Launch) (e : Env) (s : State) (m : MethodId) (below : List Frame) (meth : Method) (c : Code) (G : va_G) (cA : Nat → ClassId) (A : Nat → Prop) (xa : Nat → Nat) (ka : Nat → Nat) (ra : Nat → Nat) (na : Nat → Nat) (ia : Nat → Nat) (ua : Nat → Nat) (va : Nat → Nat) (ca : Nat → Nat) (za : Nat → Nat) (pa : Nat → Nat) (qa : Nat → Nat) (X : Tr) (K : Tr) (R : Tr) (P : Tr) (P2 : Tr) (L2 : Lo) (Tn : Tr) (Ti : Tr) (Tv : Tr) (C : Tr) (Z : Tr) (q0 : Nat) (q1 : Nat) (q3 : Nat) (q4 : Nat) (q5 : Nat) (x1 : Int32) (r0 : Int32) (L' : Lo) (Tu' : Tr) (q2' : Nat) (H : Heap) (locs : List Loc) (g : JFrame) : Prop := W p l e (headSpec (.code yX7_byRule cX7_byRule 2 (some .int) :: T0) ({ frames := 7, cells := 0, slots := 0, locals := 173 } : Room)).room s m ([.ref (xa 0), .int x1] : List Value).toArray below meth c H locs 0 0 (MQ below (tqQi G cA (fun (r : Int32) (_ : Unit) => r = r0) (fun (_ : Unit) => wX cA xa ka ra na ia ua va ca za pa qa X K R P (L') P2 L2 Tn Ti (Tu') Tv C Z q0 q1 (q2') q3 q4 q5) A) ([.ref (xa 0), .int x1] : List Value).toArray s 0 0 A) g
set_option maxHeartbeats 4000000 in
set_option maxRecDepth 100000 in
theorem c_X7_byRule (l : Launch) (G : va_G) (cA : Nat → ClassId) (sz : Nat) (xa : Nat → Nat) (ka : Nat → Nat) (ra : Nat → Nat) (na : Nat → Nat) (ia : Nat → Nat) (ua : Nat → Nat) (va : Nat → Nat) (ca : Nat → Nat) (za : Nat → Nat) (pa : Nat → Nat) (qa : Nat → Nat) (X : Tr) (K : Tr) (R : Tr) (P : Tr) (L : Lo) (P2 : Tr) (L2 : Lo) (Tn : Tr) (Ti : Tr) (Tu : Tr) (Tv : Tr) (C : Tr) (Z : Tr) (q0 : Nat) (q1 : Nat) (q2 : Nat) (q3 : Nat) (q4 : Nat) (q5 : Nat) (x1 : Int32)  (r0 : Int32) (L' : Lo) (Tu' : Tr) (q2' : Nat) (h : f_X7_byRule pa qa P L Tn Tu q0 q2 x1 = some (r0, L', Tu', q2')) : Met l yX7_byRule (.code yX7_byRule cX7_byRule 2 (some .int) :: T0) ({ frames := 7, cells := 0, slots := 0, locals := 173 } : Room) (tqP G cA [.ref (xa 0), .int x1] (wX cA xa ka ra na ia ua va ca za pa qa X K R P L P2 L2 Tn Ti Tu Tv C Z q0 q1 q2 q3 q4 q5) sz) (tqQi G cA (fun (r : Int32) (_ : Unit) => r = r0) (fun (_ : Unit) => wX cA xa ka ra na ia ua va ca za pa qa X K R P (L') P2 L2 Tn Ti (Tu') Tv C Z q0 q1 (q2') q3 q4 q5) (va_A (wX cA xa ka ra na ia ua va ca za pa qa X K R P L P2 L2 Tn Ti Tu Tv C Z q0 q1 q2 q3 q4 q5) sz)) 0 0 (va_A (wX cA xa ka ra na ia ua va ca za pa qa X K R P L P2 L2 Tn Ti Tu Tv C Z q0 q1 q2 q3 q4 q5) sz) := by
  refine Met.ofW (cc := cX7_byRule) (maxL := 2) (ret := (some .int)) (by decide) rfl ?_
  intro p e s m args below meth c s₁ B hml hv
  obtain ⟨rfl, hsz, hP, hK, hD0, hN⟩ := hv
  have hx := B.exec
  have hb := B.bytes
  have hr := B.returns
  have hts := atoms_spec (ws := .code yX7_byRule cX7_byRule 2 (some .int) :: T0) B.pre
  have hT : ∀ w ∈ T0, w.before _ s = true := fun w h => hts w (List.mem_cons_of_mem _ h)
  have hown : s.vm.findClass RX7 = some m.cls := findClass_of_methodNamed B.named
  have hlocks := B.notSynchronized
  subst hsz
  have hD := hD0.self (sz := s.heap.size)
  generalize hAe : va_A (wX cA xa ka ra na ia ua va ca za pa qa X K R P L P2 L2 Tn Ti Tu Tv C Z q0 q1 q2 q3 q4 q5) s.heap.size = A at hD ⊢
  have hA : ∀ q : Nat, s.heap.size ≤ q → A q := fun q h => by rw [← hAe]; exact Or.inr h
  have hS : va_S A s.heap s.heap [] := va_S.rf
  have hl := lv_entry ([.ref (xa 0), .int x1]) (n := 2) (Nat.le_of_ble_eq_true rfl)
  rw [lg_entry_eq]
  generalize (lg_sl ([.ref (xa 0), .int x1]) ++ List.replicate (2 - (lg_sl ([.ref (xa 0), .int x1])).length) Slot.unset).toArray = ls at hl ⊢
  have hl : lv_has ls 2 [(0, .ref (xa 0)), (1, .int x1)] := hl
  have F : tF p s m ([.ref (xa 0), .int x1] : List Value).toArray meth c G cA A RX7 cX7_byRule 2 (some .int) := ⟨hx, hb, hr, hml, hT, hown, hlocks, hK, hN, hA⟩
  obtain ⟨H, hH⟩ : ∃ z, z = s.heap := ⟨_, rfl⟩
  rw [← hH] at hP
  have hS : va_S A s.heap H [] := by rw [hH]; exact hS
  suffices hgo : G_X7_byRule p l e s m below meth c G cA A xa ka ra na ia ua va ca za pa qa X K R P P2 L2 Tn Ti Tv C Z q0 q1 q3 q4 q5 x1 r0 L' Tu' q2' H [] (F0 m 0 ls []) by rw [hH] at hgo; exact hgo
  generalize ([] : List Loc) = locs at hS ⊢
  unfold f_X7_byRule at h
  refine lv_iload_n hx hb dX7_byRule_0 rfl (lv_at hl 1 rfl) ?_
  refine lv_if_lt (tgt := 9) hx hb dX7_byRule_1 (by decide) (fun c1 => ?_) (fun c1 => ?_)
  · have h := tx_pos c1 h
    refine lv_iconst (v := (-1)) hx hb dX7_byRule_9 (by decide) ?_
    obtain ⟨rfl, rfl, rfl, rfl⟩ := tx_4 h
    exact W.iret hx hb hr (fun t ht hW => ⟨⟨_, (), rfl, rfl, by rw [ht]; exact hP, hD⟩, hS.F ht⟩) hS.2.2 dX7_byRule_10
  · have h := tx_neg c1 h
    refine lv_iload_n hx hb dX7_byRule_4 rfl (lv_at hl 1 rfl) ?_
    refine lv_iconst (v := 3) hx hb dX7_byRule_5 (by decide) ?_
    refine lv_icmp_lt (tgt := 11) hx hb dX7_byRule_6 (by decide) (fun c2 => ?_) (fun c2 => ?_)
    · have h := tx_pos c2 h
      refine lv_aload_n hx hb dX7_byRule_11 rfl (lv_at hl 0 rfl) ?_
      obtain ⟨⟨Tu_3, q2_4⟩, hc5, h⟩ := tx_bd h
      replace h := tx_let (y := Tu_3) rfl h
      replace h := tx_let (y := q2_4) rfl h
      refine tw_cv tw_all hP hD hS hA (va_runV (As := []) (rest := []) ⟨hx, hb, hml, hown, hT⟩ (c_X7_startTrial l G cA H.size xa ka ra na ia ua va ca za pa qa X K R P L P2 L2 Tn Ti Tu Tv C Z q0 q1 q2 q3 q4 q5  Tu_3 q2_4 hc5) (cwV 0 hT (tq_gV kw_46_17 kw_46_18 kw_46_19 kw_1_2 kw_46_20) rfl rfl rfl (by decide +kernel) ⟨Nat.le_of_ble_eq_true rfl, Nat.le_of_ble_eq_true rfl⟩) ⟨(tw_pre tw_all hP hD hK hN).1, va_recv hK hP (ci := 7) (q0 := 0) rfl rfl, (tw_pre tw_all hP hD hK hN).2⟩ rfl rfl hl.1 rfl (lv_room (Nat.le_of_ble_eq_true rfl)) dX7_byRule_12 ⟨Nat.le_of_ble_eq_true rfl, Nat.le_of_ble_eq_true rfl⟩) (fun _ H locs z6 hP hD hS => ?_)
      rw [List.append_nil] at hP hD
      have hP : va_P G vwCl (wX cA xa ka ra na ia ua va ca za pa qa X K R P L P2 L2 Tn Ti Tu_3 Tv C Z q0 q1 q2_4 q3 q4 q5) H := hP
      have hD : va_D A (wX cA xa ka ra na ia ua va ca za pa qa X K R P L P2 L2 Tn Ti Tu_3 Tv C Z q0 q1 q2_4 q3 q4 q5) := hD
      refine lv_aload_n hx hb dX7_byRule_15 rfl (lv_at hl 0 rfl) ?_
      refine va_get (D := G) (ci := 7) (v := .ref (ua 0)) (C := RX7) (T := TX7) (N := 12) hx hb hT ku_7 hown hK hP 0 rfl rfl 5 (by decide) (hT _ kw_2_3) (fun _ h9 => h9) rfl dX7_byRule_16 ?_
      refine lv_iload_n hx hb dX7_byRule_19 rfl (lv_at hl 1 rfl) ?_
      refine va_put (D := G) (ci := 6) (v := .int x1) (ty := .int) (C := RX6) (T := TX6) (N := 20) hx hb hT ku_6 tyX6 tyX6_ok nmX6 hown hK hP hD hS 77 rfl rfl 3 (by decide) (hT _ kw_51_13) (fun _ h9 => h9) rfl (by decide +kernel) rfl rfl (Nat.le_of_ble_eq_true rfl) dX7_byRule_20 (fun H locs hP hD hS => ?_)
      obtain ⟨Tu_7, eTu_7, h⟩ := tx_lt h
      rw [sX_ua_f3, eTu_7] at hP hD
      refine lv_aload_n hx hb dX7_byRule_23 rfl (lv_at hl 0 rfl) ?_
      obtain ⟨⟨r8, L_9, Tu_10⟩, hc11, h⟩ := tx_bd h
      replace h := tx_let (y := r8) rfl h
      replace h := tx_let (y := L_9) rfl h
      replace h := tx_let (y := Tu_10) rfl h
      refine tw_ci tw_all hP hD hS hA (va_runV (As := []) (rest := []) ⟨hx, hb, hml, hown, hT⟩ (c_X7_liftsOfTrial l G cA H.size xa ka ra na ia ua va ca za pa qa X K R P L P2 L2 Tn Ti Tu_7 Tv C Z q0 q1 q2_4 q3 q4 q5  r8 L_9 Tu_10 hc11) (cwV 0 hT (tq_gV kw_49_5 kw_49_6 kw_49_7 kw_1_2 kw_49_8) rfl rfl rfl (by decide +kernel) ⟨Nat.le_of_ble_eq_true rfl, Nat.le_of_ble_eq_true rfl⟩) ⟨(tw_pre tw_all hP hD hK hN).1, va_recv hK hP (ci := 7) (q0 := 0) rfl rfl, (tw_pre tw_all hP hD hK hN).2⟩ rfl rfl hl.1 rfl (lv_room (Nat.le_of_ble_eq_true rfl)) dX7_byRule_24 ⟨Nat.le_of_ble_eq_true rfl, Nat.le_of_ble_eq_true rfl⟩) (fun _ _ H locs z12 hP hD hS => ?_)
      subst z12
      rw [List.append_nil] at hP hD
      have hP : va_P G vwCl (wX cA xa ka ra na ia ua va ca za pa qa X K R P L_9 P2 L2 Tn Ti Tu_10 Tv C Z q0 q1 q2_4 q3 q4 q5) H := hP
      have hD : va_D A (wX cA xa ka ra na ia ua va ca za pa qa X K R P L_9 P2 L2 Tn Ti Tu_10 Tv C Z q0 q1 q2_4 q3 q4 q5) := hD
      obtain ⟨rfl, rfl, rfl, rfl⟩ := tx_4 h
      exact W.iret hx hb hr (fun t ht hW => ⟨⟨_, (), rfl, rfl, by rw [ht]; exact hP, hD⟩, hS.F ht⟩) hS.2.2 dX7_byRule_27
    · have h := tx_neg c2 h
      refine lv_iconst (v := (-1)) hx hb dX7_byRule_9 (by decide) ?_
      obtain ⟨rfl, rfl, rfl, rfl⟩ := tx_4 h
      exact W.iret hx hb hr (fun t ht hW => ⟨⟨_, (), rfl, rfl, by rw [ht]; exact hP, hD⟩, hS.F ht⟩) hS.2.2 dX7_byRule_10
abbrev G_X7_isPiece (p : Program) (l : Launch) (e : Env) (s : State) (m : MethodId) (below : List Frame) (meth : Method) (c : Code) (G : va_G) (cA : Nat → ClassId) (A : Nat → Prop) (xa : Nat → Nat) (ka : Nat → Nat) (ra : Nat → Nat) (na : Nat → Nat) (ia : Nat → Nat) (ua : Nat → Nat) (va : Nat → Nat) (ca : Nat → Nat) (za : Nat → Nat) (pa : Nat → Nat) (qa : Nat → Nat) (X : Tr) (K : Tr) (R : Tr) (P : Tr) (L : Lo) (P2 : Tr) (L2 : Lo) (Tn : Tr) (Ti : Tr) (Tu : Tr) (Tv : Tr) (C : Tr) (Z : Tr) (q0 : Nat) (q1 : Nat) (q2 : Nat) (q3 : Nat) (q4 : Nat) (q5 : Nat) (x1 : Int32) (r0 : Int32) (H : Heap) (locs : List Loc) (g : JFrame) : Prop := W p l e (headSpec (.code yX7_isPiece cX7_isPiece 2 (some .boolean) :: T0) ({ frames := 0, cells := 0, slots := 0, locals := 0 } : Room)).room s m ([.ref (xa 0), .int x1] : List Value).toArray below meth c H locs 0 0 (MQ below (tqQi G cA (fun (r : Int32) (_ : Unit) => r = r0) (fun (_ : Unit) => wX cA xa ka ra na ia ua va ca za pa qa X K R P L P2 L2 Tn Ti Tu Tv C Z q0 q1 q2 q3 q4 q5) A) ([.ref (xa 0), .int x1] : List Value).toArray s 0 0 A) g
set_option maxHeartbeats 4000000 in
set_option maxRecDepth 100000 in
theorem c_X7_isPiece (l : Launch) (G : va_G) (cA : Nat → ClassId) (sz : Nat) (xa : Nat → Nat) (ka : Nat → Nat) (ra : Nat → Nat) (na : Nat → Nat) (ia : Nat → Nat) (ua : Nat → Nat) (va : Nat → Nat) (ca : Nat → Nat) (za : Nat → Nat) (pa : Nat → Nat) (qa : Nat → Nat) (X : Tr) (K : Tr) (R : Tr) (P : Tr) (L : Lo) (P2 : Tr) (L2 : Lo) (Tn : Tr) (Ti : Tr) (Tu : Tr) (Tv : Tr) (C : Tr) (Z : Tr) (q0 : Nat) (q1 : Nat) (q2 : Nat) (q3 : Nat) (q4 : Nat) (q5 : Nat) (x1 : Int32)  (r0 : Int32) (h : f_X7_isPiece pa qa P q4 x1 = some r0) : Met l yX7_isPiece (.code yX7_isPiece cX7_isPiece 2 (some .boolean) :: T0) ({ frames := 0, cells := 0, slots := 0, locals := 0 } : Room) (tqP G cA [.ref (xa 0), .int x1] (wX cA xa ka ra na ia ua va ca za pa qa X K R P L P2 L2 Tn Ti Tu Tv C Z q0 q1 q2 q3 q4 q5) sz) (tqQi G cA (fun (r : Int32) (_ : Unit) => r = r0) (fun (_ : Unit) => wX cA xa ka ra na ia ua va ca za pa qa X K R P L P2 L2 Tn Ti Tu Tv C Z q0 q1 q2 q3 q4 q5) (va_A (wX cA xa ka ra na ia ua va ca za pa qa X K R P L P2 L2 Tn Ti Tu Tv C Z q0 q1 q2 q3 q4 q5) sz)) 0 0 (va_A (wX cA xa ka ra na ia ua va ca za pa qa X K R P L P2 L2 Tn Ti Tu Tv C Z q0 q1 q2 q3 q4 q5) sz) := by
  refine Met.ofW (cc := cX7_isPiece) (maxL := 2) (ret := (some .boolean)) (by decide) rfl ?_
  intro p e s m args below meth c s₁ B hml hv
  obtain ⟨rfl, hsz, hP, hK, hD0, hN⟩ := hv
  have hx := B.exec
  have hb := B.bytes
  have hr := B.returns
  have hts := atoms_spec (ws := .code yX7_isPiece cX7_isPiece 2 (some .boolean) :: T0) B.pre
  have hT : ∀ w ∈ T0, w.before _ s = true := fun w h => hts w (List.mem_cons_of_mem _ h)
  have hown : s.vm.findClass RX7 = some m.cls := findClass_of_methodNamed B.named
  have hlocks := B.notSynchronized
  subst hsz
  have hD := hD0.self (sz := s.heap.size)
  generalize hAe : va_A (wX cA xa ka ra na ia ua va ca za pa qa X K R P L P2 L2 Tn Ti Tu Tv C Z q0 q1 q2 q3 q4 q5) s.heap.size = A at hD ⊢
  have hA : ∀ q : Nat, s.heap.size ≤ q → A q := fun q h => by rw [← hAe]; exact Or.inr h
  have hS : va_S A s.heap s.heap [] := va_S.rf
  have hl := lv_entry ([.ref (xa 0), .int x1]) (n := 2) (Nat.le_of_ble_eq_true rfl)
  rw [lg_entry_eq]
  generalize (lg_sl ([.ref (xa 0), .int x1]) ++ List.replicate (2 - (lg_sl ([.ref (xa 0), .int x1])).length) Slot.unset).toArray = ls at hl ⊢
  have hl : lv_has ls 2 [(0, .ref (xa 0)), (1, .int x1)] := hl
  have F : tF p s m ([.ref (xa 0), .int x1] : List Value).toArray meth c G cA A RX7 cX7_isPiece 2 (some .boolean) := ⟨hx, hb, hr, hml, hT, hown, hlocks, hK, hN, hA⟩
  obtain ⟨H, hH⟩ : ∃ z, z = s.heap := ⟨_, rfl⟩
  rw [← hH] at hP
  have hS : va_S A s.heap H [] := by rw [hH]; exact hS
  suffices hgo : G_X7_isPiece p l e s m below meth c G cA A xa ka ra na ia ua va ca za pa qa X K R P L P2 L2 Tn Ti Tu Tv C Z q0 q1 q2 q3 q4 q5 x1 r0 H [] (F0 m 0 ls []) by rw [hH] at hgo; exact hgo
  generalize ([] : List Loc) = locs at hS ⊢
  unfold f_X7_isPiece at h
  refine lv_iload_n hx hb dX7_isPiece_0 rfl (lv_at hl 1 rfl) ?_
  refine lv_if_lt (tgt := 19) hx hb dX7_isPiece_1 (by decide) (fun c1 => ?_) (fun c1 => ?_)
  · have h := tx_pos c1 h
    refine lv_iconst (v := 0) hx hb dX7_isPiece_19 (by decide) ?_
    obtain rfl := tx_1 h
    exact W.zret (ty := .boolean) hx hb hr rfl (fun t ht hW => ⟨⟨_, (), rfl, rfl, by rw [ht]; exact hP, hD⟩, hS.F ht⟩) hS.2.2 dX7_isPiece_20
  · have h := tx_neg c1 h
    refine lv_iload_n hx hb dX7_isPiece_4 rfl (lv_at hl 1 rfl) ?_
    refine lv_aload_n hx hb dX7_isPiece_5 rfl (lv_at hl 0 rfl) ?_
    refine va_get (D := G) (ci := 7) (v := .ref q4) (C := RX7) (T := TX7) (N := 12) hx hb hT ku_7 hown hK hP 0 rfl rfl 1 (by decide) (hT _ kw_1_20) (fun _ h9 => h9) rfl dX7_isPiece_6 ?_
    obtain ⟨g2, h⟩ := tx_ck h
    have eg2 := of_decide_eq_true g2
    subst eg2
    refine va_get (D := G) (ci := 2) (v := .int (P 0 2)) (C := RX2) (T := TX2) (N := 19) hx hb hT ku_2 hown hK hP 9 rfl rfl 2 (by decide) (hT _ kw_30_9) (fun _ h9 => h9) rfl dX7_isPiece_9 ?_
    refine lv_icmp_ge (tgt := 19) hx hb dX7_isPiece_12 (by decide) (fun c3 => ?_) (fun c3 => ?_)
    · have h := tx_pos c3 h
      refine lv_iconst (v := 0) hx hb dX7_isPiece_19 (by decide) ?_
      obtain rfl := tx_1 h
      exact W.zret (ty := .boolean) hx hb hr rfl (fun t ht hW => ⟨⟨_, (), rfl, rfl, by rw [ht]; exact hP, hD⟩, hS.F ht⟩) hS.2.2 dX7_isPiece_20
    · have h := tx_neg c3 h
      refine lv_iconst (v := 1) hx hb dX7_isPiece_15 (by decide) ?_
      refine lv_goto (tgt := 20) hx hb dX7_isPiece_16 (by decide) ?_
      obtain rfl := tx_1 h
      exact W.zret (ty := .boolean) hx hb hr rfl (fun t ht hW => ⟨⟨_, (), rfl, rfl, by rw [ht]; exact hP, hD⟩, hS.F ht⟩) hS.2.2 dX7_isPiece_20
