abbrev G_X6_begin (p : Program) (l : Launch) (e : Env) (s : State) (m : MethodId) (below : List Frame) (meth : Method) (c : Code) (G : va_G) (cA : Nat → ClassId) (A : Nat → Prop) (ta : Nat → Nat) (pa : Nat → Nat) (P : Tr) (T' : Tr) (q' : Nat) (H : Heap) (locs : List Loc) (g : JFrame) : Prop := W p l e (headSpec (.code yX6_begin cX6_begin 3 none :: T0) ({ frames := 0, cells := 0, slots := 0, locals := 0 } : Room)).room s m ([.ref (ta 0), .ref (pa 0)] : List Value).toArray below meth c H locs 0 0 (MQ below (tqQv G cA (fun (_ : Unit) => True) (fun (_ : Unit) => wTB cA ta pa (T') P (q')) A) ([.ref (ta 0), .ref (pa 0)] : List Value).toArray s 0 0 A) g
set_option maxHeartbeats 4000000 in
set_option maxRecDepth 100000 in
theorem w_X6_begin_L133 {p : Program} {l : Launch} {e : Env} {s : State} {m : MethodId} {below : List Frame} {meth : Method} {c : Code} {G : va_G} {cA : Nat → ClassId} {A : Nat → Prop} {ta : Nat → Nat} {pa : Nat → Nat} {P : Tr} {T' : Tr} {q' : Nat} {q : Nat} (F : tF p s m ([.ref (ta 0), .ref (pa 0)] : List Value).toArray meth c G cA A RX6 cX6_begin 3 none)    (N : Nat) : ∀ (x2 : Int32) (T : Tr) (H : Heap) (locs : List Loc) (ls : Array Slot), lpF (fun _ _ => none) (fB_X6_begin_L133 pa P q) N x2 T = some (T', q') → va_P G vwCl (wTB cA ta pa T P q) H → va_D A (wTB cA ta pa T P q) → va_S A s.heap H locs → lv_has ls 3 [(0, .ref (ta 0)), (2, .int x2)] → G_X6_begin p l e s m below meth c G cA A ta pa P T' q' H locs (F0 m 133 ls []) := by
  obtain ⟨hx, hb, hr, hml, hT, hown, hlocks, hK, hN, hA⟩ := id F
  induction N with
  | zero =>
    intro x2 T H locs ls h
    have h : (none : Option (Tr × Nat)) = some (T', q') := h
    cases h
  | succ N hk133 =>
    intro x2 T H locs ls h hP hD hS hl
    have h : fB_X6_begin_L133 pa P q (lpF (fun _ _ => none) (fB_X6_begin_L133 pa P q) N) x2 T = some (T', q') := h
    generalize hk133e : lpF (fun _ _ => none) (fB_X6_begin_L133 pa P q) N = k133 at h hk133
    unfold fB_X6_begin_L133 at h
    refine lv_iload_n hx hb dX6_begin_133 rfl (lv_at hl 1 rfl) ?_
    refine lv_iconst (v := 5) hx hb dX6_begin_134 (by decide) ?_
    refine lv_icmp_ge (tgt := 158) hx hb dX6_begin_135 (by decide) (fun c8 => ?_) (fun c8 => ?_)
    · have h := tx_pos c8 h
      obtain ⟨rfl, rfl⟩ := tx_2 h
      exact W.vret hx hb hr (fun t ht hW => ⟨⟨(), rfl, trivial, by rw [ht]; exact hP, hD⟩, hS.F ht⟩) hS.2.2 dX6_begin_158
    · have h := tx_neg c8 h
      refine lv_aload_n hx hb dX6_begin_138 rfl (lv_at hl 0 rfl) ?_
      refine va_get (D := G) (ci := 6) (v := .ref (ta 17)) (C := RX6) (T := TX6) (N := 20) hx hb hT ku_6 hown hK hP 0 rfl rfl 16 (by decide) (hT _ kw_7_15) (fun _ h9 => h9) rfl dX6_begin_139 ?_
      refine lv_iload_n hx hb dX6_begin_142 rfl (lv_at hl 1 rfl) ?_
      refine lv_iconst (v := 0) hx hb dX6_begin_143 (by decide) ?_
      obtain ⟨g9, h⟩ := tx_ck h
      refine va_iast (i := x2) hx hb hK hP hD hS 9 0 rfl rfl (tx_in g9) dX6_begin_144 (fun H locs hP hD hS => ?_)
      obtain ⟨T_10, eT_10, h⟩ := tx_lt h
      rw [sTB_ta_a16, eT_10] at hP hD
      refine lv_aload_n hx hb dX6_begin_145 rfl (lv_at hl 0 rfl) ?_
      refine va_get (D := G) (ci := 6) (v := .ref (ta 18)) (C := RX6) (T := TX6) (N := 20) hx hb hT ku_6 hown hK hP 0 rfl rfl 17 (by decide) (hT _ kw_7_16) (fun _ h9 => h9) rfl dX6_begin_146 ?_
      refine lv_iload_n hx hb dX6_begin_149 rfl (lv_at hl 1 rfl) ?_
      refine lv_iconst (v := 0) hx hb dX6_begin_150 (by decide) ?_
      refine va_iast (i := x2) hx hb hK hP hD hS 10 0 rfl rfl (tx_in g9) dX6_begin_151 (fun H locs hP hD hS => ?_)
      obtain ⟨T_11, eT_11, h⟩ := tx_lt h
      rw [sTB_ta_a17, eT_11] at hP hD
      obtain ⟨y12, ey12, h⟩ := tx_lt h
      refine lv_iinc (v := y12) (lv' := [(2, .int y12), (0, .ref (ta 0))]) hx hb dX6_begin_152 hl (k := 1) rfl ey12 (by decide) rfl (fun ls hl => ?_)
      refine lv_goto (tgt := 133) hx hb dX6_begin_155 (by decide) ?_
      exact hk133 y12 T_11 H locs ls h hP hD hS (lv_sub hl [1, 0] rfl)
set_option maxHeartbeats 4000000 in
set_option maxRecDepth 100000 in
theorem w_X6_begin_L93 {p : Program} {l : Launch} {e : Env} {s : State} {m : MethodId} {below : List Frame} {meth : Method} {c : Code} {G : va_G} {cA : Nat → ClassId} {A : Nat → Prop} {ta : Nat → Nat} {pa : Nat → Nat} {P : Tr} {T' : Tr} {q' : Nat} {q : Nat} (F : tF p s m ([.ref (ta 0), .ref (pa 0)] : List Value).toArray meth c G cA A RX6 cX6_begin 3 none)    (N : Nat) : ∀ (x2 : Int32) (T : Tr) (H : Heap) (locs : List Loc) (ls : Array Slot), lpF (fun _ _ => none) (fB_X6_begin_L93 pa P q) N x2 T = some (T', q') → va_P G vwCl (wTB cA ta pa T P q) H → va_D A (wTB cA ta pa T P q) → va_S A s.heap H locs → lv_has ls 3 [(0, .ref (ta 0)), (1, .ref (pa 0)), (2, .int x2)] → G_X6_begin p l e s m below meth c G cA A ta pa P T' q' H locs (F0 m 93 ls []) := by
  obtain ⟨hx, hb, hr, hml, hT, hown, hlocks, hK, hN, hA⟩ := id F
  induction N with
  | zero =>
    intro x2 T H locs ls h
    have h : (none : Option (Tr × Nat)) = some (T', q') := h
    cases h
  | succ N hk93 =>
    intro x2 T H locs ls h hP hD hS hl
    have h : fB_X6_begin_L93 pa P q (lpF (fun _ _ => none) (fB_X6_begin_L93 pa P q) N) x2 T = some (T', q') := h
    generalize hk93e : lpF (fun _ _ => none) (fB_X6_begin_L93 pa P q) N = k93 at h hk93
    unfold fB_X6_begin_L93 at h
    refine lv_iload_n hx hb dX6_begin_93 rfl (lv_at hl 2 rfl) ?_
    refine lv_bipush (v := 10) hx hb dX6_begin_94 (by decide) ?_
    refine lv_icmp_ge (tgt := 131) hx hb dX6_begin_96 (by decide) (fun c7 => ?_) (fun c7 => ?_)
    · have h := tx_pos c7 h
      refine lv_iconst (v := 0) hx hb dX6_begin_131 (by decide) ?_
      refine lv_istore_n (lv' := [(2, .int 0), (0, .ref (ta 0)), (1, .ref (pa 0))]) hx hb dX6_begin_132 rfl hl (by decide) rfl (fun ls hl => ?_)
      exact w_X6_begin_L133 F 2000 0 T H locs ls h hP hD hS (lv_sub hl [1, 0] rfl)
    · have h := tx_neg c7 h
      refine lv_aload_n hx hb dX6_begin_99 rfl (lv_at hl 0 rfl) ?_
      refine va_get (D := G) (ci := 6) (v := .ref (ta 13)) (C := RX6) (T := TX6) (N := 20) hx hb hT ku_6 hown hK hP 0 rfl rfl 12 (by decide) (hT _ kw_7_11) (fun _ h9 => h9) rfl dX6_begin_100 ?_
      refine lv_iload_n hx hb dX6_begin_103 rfl (lv_at hl 2 rfl) ?_
      refine lv_aload_n hx hb dX6_begin_104 rfl (lv_at hl 1 rfl) ?_
      refine va_get (D := G) (ci := 2) (v := .ref (pa 17)) (C := RX2) (T := TX2) (N := 19) hx hb hT ku_2 hown hK hP 12 rfl rfl 16 (by decide) (hT _ kw_8_12) (fun _ h9 => h9) rfl dX6_begin_105 ?_
      refine lv_iload_n hx hb dX6_begin_108 rfl (lv_at hl 2 rfl) ?_
      obtain ⟨g13, h⟩ := tx_ck h
      refine va_iald (i := x2) hx hb hK hP 22 0 rfl rfl (tx_in g13) dX6_begin_109 ?_
      refine va_iast (i := x2) hx hb hK hP hD hS 5 0 rfl rfl (tx_in g13) dX6_begin_110 (fun H locs hP hD hS => ?_)
      obtain ⟨T_14, eT_14, h⟩ := tx_lt h
      rw [sTB_ta_a12, eT_14] at hP hD
      refine lv_aload_n hx hb dX6_begin_111 rfl (lv_at hl 0 rfl) ?_
      refine va_get (D := G) (ci := 6) (v := .ref (ta 14)) (C := RX6) (T := TX6) (N := 20) hx hb hT ku_6 hown hK hP 0 rfl rfl 13 (by decide) (hT _ kw_7_12) (fun _ h9 => h9) rfl dX6_begin_112 ?_
      refine lv_iload_n hx hb dX6_begin_115 rfl (lv_at hl 2 rfl) ?_
      refine lv_iconst (v := 0) hx hb dX6_begin_116 (by decide) ?_
      refine va_iast (i := x2) hx hb hK hP hD hS 6 0 rfl rfl (tx_in g13) dX6_begin_117 (fun H locs hP hD hS => ?_)
      obtain ⟨T_15, eT_15, h⟩ := tx_lt h
      rw [sTB_ta_a13, eT_15] at hP hD
      refine lv_aload_n hx hb dX6_begin_118 rfl (lv_at hl 0 rfl) ?_
      refine va_get (D := G) (ci := 6) (v := .ref (ta 15)) (C := RX6) (T := TX6) (N := 20) hx hb hT ku_6 hown hK hP 0 rfl rfl 14 (by decide) (hT _ kw_7_13) (fun _ h9 => h9) rfl dX6_begin_119 ?_
      refine lv_iload_n hx hb dX6_begin_122 rfl (lv_at hl 2 rfl) ?_
      refine lv_iconst (v := (-1)) hx hb dX6_begin_123 (by decide) ?_
      refine va_iast (i := x2) hx hb hK hP hD hS 7 0 rfl rfl (tx_in g13) dX6_begin_124 (fun H locs hP hD hS => ?_)
      obtain ⟨T_16, eT_16, h⟩ := tx_lt h
      rw [sTB_ta_a14, eT_16] at hP hD
      obtain ⟨y17, ey17, h⟩ := tx_lt h
      refine lv_iinc (v := y17) (lv' := [(2, .int y17), (0, .ref (ta 0)), (1, .ref (pa 0))]) hx hb dX6_begin_125 hl (k := 2) rfl ey17 (by decide) rfl (fun ls hl => ?_)
      refine lv_goto (tgt := 93) hx hb dX6_begin_128 (by decide) ?_
      exact hk93 y17 T_16 H locs ls h hP hD hS (lv_sub hl [1, 2, 0] rfl)
set_option maxHeartbeats 4000000 in
set_option maxRecDepth 100000 in
theorem w_X6_begin_L41 {p : Program} {l : Launch} {e : Env} {s : State} {m : MethodId} {below : List Frame} {meth : Method} {c : Code} {G : va_G} {cA : Nat → ClassId} {A : Nat → Prop} {ta : Nat → Nat} {pa : Nat → Nat} {P : Tr} {T' : Tr} {q' : Nat} {q : Nat} (F : tF p s m ([.ref (ta 0), .ref (pa 0)] : List Value).toArray meth c G cA A RX6 cX6_begin 3 none)    (N : Nat) : ∀ (x2 : Int32) (T : Tr) (H : Heap) (locs : List Loc) (ls : Array Slot), lpF (fun _ _ => none) (fB_X6_begin_L41 pa P q) N x2 T = some (T', q') → va_P G vwCl (wTB cA ta pa T P q) H → va_D A (wTB cA ta pa T P q) → va_S A s.heap H locs → lv_has ls 3 [(0, .ref (ta 0)), (1, .ref (pa 0)), (2, .int x2)] → G_X6_begin p l e s m below meth c G cA A ta pa P T' q' H locs (F0 m 41 ls []) := by
  obtain ⟨hx, hb, hr, hml, hT, hown, hlocks, hK, hN, hA⟩ := id F
  induction N with
  | zero =>
    intro x2 T H locs ls h
    have h : (none : Option (Tr × Nat)) = some (T', q') := h
    cases h
  | succ N hk41 =>
    intro x2 T H locs ls h hP hD hS hl
    have h : fB_X6_begin_L41 pa P q (lpF (fun _ _ => none) (fB_X6_begin_L41 pa P q) N) x2 T = some (T', q') := h
    generalize hk41e : lpF (fun _ _ => none) (fB_X6_begin_L41 pa P q) N = k41 at h hk41
    unfold fB_X6_begin_L41 at h
    refine lv_iload_n hx hb dX6_begin_41 rfl (lv_at hl 2 rfl) ?_
    refine lv_bipush (v := 6) hx hb dX6_begin_42 (by decide) ?_
    refine lv_icmp_ge (tgt := 91) hx hb dX6_begin_44 (by decide) (fun c6 => ?_) (fun c6 => ?_)
    · have h := tx_pos c6 h
      refine lv_iconst (v := 0) hx hb dX6_begin_91 (by decide) ?_
      refine lv_istore_n (lv' := [(2, .int 0), (0, .ref (ta 0)), (1, .ref (pa 0))]) hx hb dX6_begin_92 rfl hl (by decide) rfl (fun ls hl => ?_)
      exact w_X6_begin_L93 F 2000 0 T H locs ls h hP hD hS (lv_sub hl [1, 2, 0] rfl)
    · have h := tx_neg c6 h
      refine lv_aload_n hx hb dX6_begin_47 rfl (lv_at hl 0 rfl) ?_
      refine va_get (D := G) (ci := 6) (v := .ref (ta 9)) (C := RX6) (T := TX6) (N := 20) hx hb hT ku_6 hown hK hP 0 rfl rfl 8 (by decide) (hT _ kw_7_7) (fun _ h9 => h9) rfl dX6_begin_48 ?_
      refine lv_iload_n hx hb dX6_begin_51 rfl (lv_at hl 2 rfl) ?_
      refine lv_aload_n hx hb dX6_begin_52 rfl (lv_at hl 1 rfl) ?_
      refine va_get (D := G) (ci := 2) (v := .ref (pa 11)) (C := RX2) (T := TX2) (N := 19) hx hb hT ku_2 hown hK hP 12 rfl rfl 10 (by decide) (hT _ kw_8_10) (fun _ h9 => h9) rfl dX6_begin_53 ?_
      refine lv_iload_n hx hb dX6_begin_56 rfl (lv_at hl 2 rfl) ?_
      obtain ⟨g18, h⟩ := tx_ck h
      refine va_iald (i := x2) hx hb hK hP 16 0 rfl rfl (tx_in g18) dX6_begin_57 ?_
      refine va_iast (i := x2) hx hb hK hP hD hS 1 0 rfl rfl (tx_in g18) dX6_begin_58 (fun H locs hP hD hS => ?_)
      obtain ⟨T_19, eT_19, h⟩ := tx_lt h
      rw [sTB_ta_a8, eT_19] at hP hD
      refine lv_aload_n hx hb dX6_begin_59 rfl (lv_at hl 0 rfl) ?_
      refine va_get (D := G) (ci := 6) (v := .ref (ta 10)) (C := RX6) (T := TX6) (N := 20) hx hb hT ku_6 hown hK hP 0 rfl rfl 9 (by decide) (hT _ kw_7_8) (fun _ h9 => h9) rfl dX6_begin_60 ?_
      refine lv_iload_n hx hb dX6_begin_63 rfl (lv_at hl 2 rfl) ?_
      refine lv_aload_n hx hb dX6_begin_64 rfl (lv_at hl 1 rfl) ?_
      refine va_get (D := G) (ci := 2) (v := .ref (pa 13)) (C := RX2) (T := TX2) (N := 19) hx hb hT ku_2 hown hK hP 12 rfl rfl 12 (by decide) (hT _ kw_8_11) (fun _ h9 => h9) rfl dX6_begin_65 ?_
      refine lv_iload_n hx hb dX6_begin_68 rfl (lv_at hl 2 rfl) ?_
      refine va_iald (i := x2) hx hb hK hP 18 0 rfl rfl (tx_in g18) dX6_begin_69 ?_
      refine va_iast (i := x2) hx hb hK hP hD hS 2 0 rfl rfl (tx_in g18) dX6_begin_70 (fun H locs hP hD hS => ?_)
      obtain ⟨T_20, eT_20, h⟩ := tx_lt h
      rw [sTB_ta_a9, eT_20] at hP hD
      refine lv_aload_n hx hb dX6_begin_71 rfl (lv_at hl 0 rfl) ?_
      refine va_get (D := G) (ci := 6) (v := .ref (ta 11)) (C := RX6) (T := TX6) (N := 20) hx hb hT ku_6 hown hK hP 0 rfl rfl 10 (by decide) (hT _ kw_7_9) (fun _ h9 => h9) rfl dX6_begin_72 ?_
      refine lv_iload_n hx hb dX6_begin_75 rfl (lv_at hl 2 rfl) ?_
      refine lv_iconst (v := 0) hx hb dX6_begin_76 (by decide) ?_
      refine va_iast (i := x2) hx hb hK hP hD hS 3 0 rfl rfl (tx_in g18) dX6_begin_77 (fun H locs hP hD hS => ?_)
      obtain ⟨T_21, eT_21, h⟩ := tx_lt h
      rw [sTB_ta_a10, eT_21] at hP hD
      refine lv_aload_n hx hb dX6_begin_78 rfl (lv_at hl 0 rfl) ?_
      refine va_get (D := G) (ci := 6) (v := .ref (ta 12)) (C := RX6) (T := TX6) (N := 20) hx hb hT ku_6 hown hK hP 0 rfl rfl 11 (by decide) (hT _ kw_7_10) (fun _ h9 => h9) rfl dX6_begin_79 ?_
      refine lv_iload_n hx hb dX6_begin_82 rfl (lv_at hl 2 rfl) ?_
      refine lv_iconst (v := 0) hx hb dX6_begin_83 (by decide) ?_
      refine va_iast (i := x2) hx hb hK hP hD hS 4 0 rfl rfl (tx_in g18) dX6_begin_84 (fun H locs hP hD hS => ?_)
      obtain ⟨T_22, eT_22, h⟩ := tx_lt h
      rw [sTB_ta_a11, eT_22] at hP hD
      obtain ⟨y23, ey23, h⟩ := tx_lt h
      refine lv_iinc (v := y23) (lv' := [(2, .int y23), (0, .ref (ta 0)), (1, .ref (pa 0))]) hx hb dX6_begin_85 hl (k := 2) rfl ey23 (by decide) rfl (fun ls hl => ?_)
      refine lv_goto (tgt := 41) hx hb dX6_begin_88 (by decide) ?_
      exact hk41 y23 T_22 H locs ls h hP hD hS (lv_sub hl [1, 2, 0] rfl)
set_option maxHeartbeats 4000000 in
set_option maxRecDepth 100000 in
theorem c_X6_begin (l : Launch) (G : va_G) (cA : Nat → ClassId) (sz : Nat) (ta : Nat → Nat) (pa : Nat → Nat) (T : Tr) (P : Tr) (q : Nat)  (T' : Tr) (q' : Nat) (h : f_X6_begin pa T P q = some (T', q')) : Met l yX6_begin (.code yX6_begin cX6_begin 3 none :: T0) ({ frames := 0, cells := 0, slots := 0, locals := 0 } : Room) (tqP G cA [.ref (ta 0), .ref (pa 0)] (wTB cA ta pa T P q) sz) (tqQv G cA (fun (_ : Unit) => True) (fun (_ : Unit) => wTB cA ta pa (T') P (q')) (va_A (wTB cA ta pa T P q) sz)) 0 0 (va_A (wTB cA ta pa T P q) sz) := by
  refine Met.ofW (cc := cX6_begin) (maxL := 3) (ret := none) (by decide) rfl ?_
  intro p e s m args below meth c s₁ B hml hv
  obtain ⟨rfl, hsz, hP, hK, hD0, hN⟩ := hv
  have hx := B.exec
  have hb := B.bytes
  have hr := B.returns
  have hts := atoms_spec (ws := .code yX6_begin cX6_begin 3 none :: T0) B.pre
  have hT : ∀ w ∈ T0, w.before _ s = true := fun w h => hts w (List.mem_cons_of_mem _ h)
  have hown : s.vm.findClass RX6 = some m.cls := findClass_of_methodNamed B.named
  have hlocks := B.notSynchronized
  subst hsz
  have hD := hD0.self (sz := s.heap.size)
  generalize hAe : va_A (wTB cA ta pa T P q) s.heap.size = A at hD ⊢
  have hA : ∀ q : Nat, s.heap.size ≤ q → A q := fun q h => by rw [← hAe]; exact Or.inr h
  have hS : va_S A s.heap s.heap [] := va_S.rf
  have hl := lv_entry ([.ref (ta 0), .ref (pa 0)]) (n := 3) (Nat.le_of_ble_eq_true rfl)
  rw [lg_entry_eq]
  generalize (lg_sl ([.ref (ta 0), .ref (pa 0)]) ++ List.replicate (3 - (lg_sl ([.ref (ta 0), .ref (pa 0)])).length) Slot.unset).toArray = ls at hl ⊢
  have hl : lv_has ls 3 [(0, .ref (ta 0)), (1, .ref (pa 0))] := hl
  have F : tF p s m ([.ref (ta 0), .ref (pa 0)] : List Value).toArray meth c G cA A RX6 cX6_begin 3 none := ⟨hx, hb, hr, hml, hT, hown, hlocks, hK, hN, hA⟩
  obtain ⟨H, hH⟩ : ∃ z, z = s.heap := ⟨_, rfl⟩
  rw [← hH] at hP
  have hS : va_S A s.heap H [] := by rw [hH]; exact hS
  suffices hgo : G_X6_begin p l e s m below meth c G cA A ta pa P T' q' H [] (F0 m 0 ls []) by rw [hH] at hgo; exact hgo
  generalize ([] : List Loc) = locs at hS ⊢
  unfold f_X6_begin at h
  refine lv_aload_n hx hb dX6_begin_0 rfl (lv_at hl 0 rfl) ?_
  refine lv_aload_n hx hb dX6_begin_1 rfl (lv_at hl 1 rfl) ?_
  refine va_put (D := G) (ci := 6) (v := .ref (pa 0)) (ty := (.object "RackTrain$Plan")) (C := RX6) (T := TX6) (N := 20) hx hb hT ku_6 tyX6 tyX6_ok nmX6 hown hK hP hD hS 0 rfl rfl 19 (by decide) (hT _ kw_8_1) (fun _ h9 => h9) rfl (by decide +kernel) rfl rfl (Nat.le_of_ble_eq_true rfl) dX6_begin_2 (fun H locs hP hD hS => ?_)
  rw [sTB_ta_r19] at hP hD
  refine lv_aload_n hx hb dX6_begin_5 rfl (lv_at hl 0 rfl) ?_
  refine lv_iconst (v := 0) hx hb dX6_begin_6 (by decide) ?_
  refine va_put (D := G) (ci := 6) (v := .int 0) (ty := .int) (C := RX6) (T := TX6) (N := 20) hx hb hT ku_6 tyX6 tyX6_ok nmX6 hown hK hP hD hS 0 rfl rfl 0 (by decide) (hT _ kw_8_2) (fun _ h9 => h9) rfl (by decide +kernel) rfl rfl (Nat.le_of_ble_eq_true rfl) dX6_begin_7 (fun H locs hP hD hS => ?_)
  obtain ⟨T_1, eT_1, h⟩ := tx_lt h
  rw [sTB_ta_f0, eT_1] at hP hD
  refine lv_aload_n hx hb dX6_begin_10 rfl (lv_at hl 0 rfl) ?_
  refine lv_iconst (v := 0) hx hb dX6_begin_11 (by decide) ?_
  refine va_put (D := G) (ci := 6) (v := .int 0) (ty := .int) (C := RX6) (T := TX6) (N := 20) hx hb hT ku_6 tyX6 tyX6_ok nmX6 hown hK hP hD hS 0 rfl rfl 1 (by decide) (hT _ kw_8_3) (fun _ h9 => h9) rfl (by decide +kernel) rfl rfl (Nat.le_of_ble_eq_true rfl) dX6_begin_12 (fun H locs hP hD hS => ?_)
  obtain ⟨T_2, eT_2, h⟩ := tx_lt h
  rw [sTB_ta_f1, eT_2] at hP hD
  refine lv_aload_n hx hb dX6_begin_15 rfl (lv_at hl 0 rfl) ?_
  refine lv_aload_n hx hb dX6_begin_16 rfl (lv_at hl 1 rfl) ?_
  refine va_get (D := G) (ci := 2) (v := .int (P 0 6)) (C := RX2) (T := TX2) (N := 19) hx hb hT ku_2 hown hK hP 12 rfl rfl 6 (by decide) (hT _ kw_8_4) (fun _ h9 => h9) rfl dX6_begin_17 ?_
  refine va_put (D := G) (ci := 6) (v := .int (P 0 6)) (ty := .int) (C := RX6) (T := TX6) (N := 20) hx hb hT ku_6 tyX6 tyX6_ok nmX6 hown hK hP hD hS 0 rfl rfl 2 (by decide) (hT _ kw_8_5) (fun _ h9 => h9) rfl (by decide +kernel) rfl rfl (Nat.le_of_ble_eq_true rfl) dX6_begin_20 (fun H locs hP hD hS => ?_)
  obtain ⟨T_3, eT_3, h⟩ := tx_lt h
  rw [sTB_ta_f2, eT_3] at hP hD
  refine lv_aload_n hx hb dX6_begin_23 rfl (lv_at hl 0 rfl) ?_
  refine lv_aload_n hx hb dX6_begin_24 rfl (lv_at hl 1 rfl) ?_
  refine va_get (D := G) (ci := 2) (v := .int (P 0 4)) (C := RX2) (T := TX2) (N := 19) hx hb hT ku_2 hown hK hP 12 rfl rfl 4 (by decide) (hT _ kw_8_6) (fun _ h9 => h9) rfl dX6_begin_25 ?_
  refine va_put (D := G) (ci := 6) (v := .int (P 0 4)) (ty := .int) (C := RX6) (T := TX6) (N := 20) hx hb hT ku_6 tyX6 tyX6_ok nmX6 hown hK hP hD hS 0 rfl rfl 3 (by decide) (hT _ kw_8_7) (fun _ h9 => h9) rfl (by decide +kernel) rfl rfl (Nat.le_of_ble_eq_true rfl) dX6_begin_28 (fun H locs hP hD hS => ?_)
  obtain ⟨T_4, eT_4, h⟩ := tx_lt h
  rw [sTB_ta_f3, eT_4] at hP hD
  refine lv_aload_n hx hb dX6_begin_31 rfl (lv_at hl 0 rfl) ?_
  refine lv_aload_n hx hb dX6_begin_32 rfl (lv_at hl 1 rfl) ?_
  refine va_get (D := G) (ci := 2) (v := .int (P 0 5)) (C := RX2) (T := TX2) (N := 19) hx hb hT ku_2 hown hK hP 12 rfl rfl 5 (by decide) (hT _ kw_8_8) (fun _ h9 => h9) rfl dX6_begin_33 ?_
  refine va_put (D := G) (ci := 6) (v := .int (P 0 5)) (ty := .int) (C := RX6) (T := TX6) (N := 20) hx hb hT ku_6 tyX6 tyX6_ok nmX6 hown hK hP hD hS 0 rfl rfl 4 (by decide) (hT _ kw_8_9) (fun _ h9 => h9) rfl (by decide +kernel) rfl rfl (Nat.le_of_ble_eq_true rfl) dX6_begin_36 (fun H locs hP hD hS => ?_)
  obtain ⟨T_5, eT_5, h⟩ := tx_lt h
  rw [sTB_ta_f4, eT_5] at hP hD
  refine lv_iconst (v := 0) hx hb dX6_begin_39 (by decide) ?_
  refine lv_istore_n (lv' := [(2, .int 0), (0, .ref (ta 0)), (1, .ref (pa 0))]) hx hb dX6_begin_40 rfl hl (by decide) rfl (fun ls hl => ?_)
  exact w_X6_begin_L41 F 2000 0 T_5 H locs ls h hP hD hS (lv_sub hl [1, 2, 0] rfl)
abbrev G_X4_agreeWith_x_ua0 (p : Program) (l : Launch) (e : Env) (s : State) (m : MethodId) (below : List Frame) (meth : Method) (c : Code) (G : va_G) (cA : Nat → ClassId) (A : Nat → Prop) (xa : Nat → Nat) (ka : Nat → Nat) (ra : Nat → Nat) (na : Nat → Nat) (ia : Nat → Nat) (ua : Nat → Nat) (va : Nat → Nat) (ca : Nat → Nat) (za : Nat → Nat) (pa : Nat → Nat) (qa : Nat → Nat) (X : Tr) (K : Tr) (R : Tr) (P : Tr) (L : Lo) (P2 : Tr) (L2 : Lo) (Tn : Tr) (Ti : Tr) (Tu : Tr) (Tv : Tr) (C : Tr) (Z : Tr) (q0 : Nat) (q1 : Nat) (q2 : Nat) (q3 : Nat) (q4 : Nat) (q5 : Nat) (r0 : Int32) (H : Heap) (locs : List Loc) (g : JFrame) : Prop := W p l e (headSpec (.code yX4_agreeWith cX4_agreeWith 3 (some .boolean) :: T0) ({ frames := 0, cells := 0, slots := 0, locals := 0 } : Room)).room s m ([.ref (za 0), .ref (ua 0)] : List Value).toArray below meth c H locs 0 0 (MQ below (tqQi G cA (fun (r : Int32) (_ : Unit) => r = r0) (fun (_ : Unit) => wX cA xa ka ra na ia ua va ca za pa qa X K R P L P2 L2 Tn Ti Tu Tv C Z q0 q1 q2 q3 q4 q5) A) ([.ref (za 0), .ref (ua 0)] : List Value).toArray s 0 0 A) g
set_option maxHeartbeats 4000000 in
set_option maxRecDepth 100000 in
theorem w_X4_agreeWith_x_ua0_J72 {p : Program} {l : Launch} {e : Env} {s : State} {m : MethodId} {below : List Frame} {meth : Method} {c : Code} {G : va_G} {cA : Nat → ClassId} {A : Nat → Prop} {xa : Nat → Nat} {ka : Nat → Nat} {ra : Nat → Nat} {na : Nat → Nat} {ia : Nat → Nat} {ua : Nat → Nat} {va : Nat → Nat} {ca : Nat → Nat} {za : Nat → Nat} {pa : Nat → Nat} {qa : Nat → Nat} {X : Tr} {K : Tr} {R : Tr} {P : Tr} {L : Lo} {P2 : Tr} {L2 : Lo} {Tn : Tr} {Ti : Tr} {Tu : Tr} {Tv : Tr} {C : Tr} {Z : Tr} {q0 : Nat} {q1 : Nat} {q2 : Nat} {q3 : Nat} {q4 : Nat} {q5 : Nat} {r0 : Int32} (F : tF p s m ([.ref (za 0), .ref (ua 0)] : List Value).toArray meth c G cA A RX4 cX4_agreeWith 3 (some .boolean))  (k2 : Int32 → Option (Int32)) (hk2 : ∀ (x2 : Int32) (H : Heap) (locs : List Loc) (ls : Array Slot), k2 x2 = some r0 → va_P G vwCl (wX cA xa ka ra na ia ua va ca za pa qa X K R P L P2 L2 Tn Ti Tu Tv C Z q0 q1 q2 q3 q4 q5) H → va_D A (wX cA xa ka ra na ia ua va ca za pa qa X K R P L P2 L2 Tn Ti Tu Tv C Z q0 q1 q2 q3 q4 q5) → va_S A s.heap H locs → lv_has ls 3 [(0, .ref (za 0)), (1, .ref (ua 0)), (2, .int x2)] → G_X4_agreeWith_x_ua0 p l e s m below meth c G cA A xa ka ra na ia ua va ca za pa qa X K R P L P2 L2 Tn Ti Tu Tv C Z q0 q1 q2 q3 q4 q5 r0 H locs (F0 m 2 ls [])) (x2 : Int32) (s0 : Int32) (s1 : Int32) (H : Heap) (locs : List Loc) (ls : Array Slot) (h : fJ_X4_agreeWith_x_ua0_J72 k2 pa qa Tu Z x2 s0 s1 = some r0) (hP : va_P G vwCl (wX cA xa ka ra na ia ua va ca za pa qa X K R P L P2 L2 Tn Ti Tu Tv C Z q0 q1 q2 q3 q4 q5) H) (hD : va_D A (wX cA xa ka ra na ia ua va ca za pa qa X K R P L P2 L2 Tn Ti Tu Tv C Z q0 q1 q2 q3 q4 q5)) (hS : va_S A s.heap H locs) (hl : lv_has ls 3 [(0, .ref (za 0)), (1, .ref (ua 0)), (2, .int x2)]) : G_X4_agreeWith_x_ua0 p l e s m below meth c G cA A xa ka ra na ia ua va ca za pa qa X K R P L P2 L2 Tn Ti Tu Tv C Z q0 q1 q2 q3 q4 q5 r0 H locs (F0 m 72 ls [.int s0, .int s1]) := by
  obtain ⟨hx, hb, hr, hml, hT, hown, hlocks, hK, hN, hA⟩ := id F
  unfold fJ_X4_agreeWith_x_ua0_J72 at h
  refine lv_icmp_eq (tgt := 77) hx hb dX4_agreeWith_72 (by decide) (fun c11 => ?_) (fun c11 => ?_)
  · replace h := tx_pos c11 h
    replace h := tx_lt h
    obtain ⟨y12, ey12, h⟩ := h
    refine lv_iinc (v := y12) (lv' := [(2, .int y12), (0, .ref (za 0)), (1, .ref (ua 0))]) hx hb dX4_agreeWith_77 hl (k := 2) rfl ey12 (by decide) rfl (fun ls hl => ?_)
    refine lv_goto (tgt := 2) hx hb dX4_agreeWith_80 (by decide) ?_
    exact hk2 y12 H locs ls h hP hD hS (lv_sub hl [1, 2, 0] rfl)
  · replace h := tx_neg c11 h
    refine lv_iconst (v := 0) hx hb dX4_agreeWith_75 (by decide) ?_
    obtain rfl := tx_1 h
    exact W.zret (ty := .boolean) hx hb hr rfl (fun t ht hW => ⟨⟨_, (), rfl, rfl, by rw [ht]; exact hP, hD⟩, hS.F ht⟩) hS.2.2 dX4_agreeWith_76
set_option maxHeartbeats 4000000 in
set_option maxRecDepth 100000 in
theorem w_X4_agreeWith_x_ua0_J57 {p : Program} {l : Launch} {e : Env} {s : State} {m : MethodId} {below : List Frame} {meth : Method} {c : Code} {G : va_G} {cA : Nat → ClassId} {A : Nat → Prop} {xa : Nat → Nat} {ka : Nat → Nat} {ra : Nat → Nat} {na : Nat → Nat} {ia : Nat → Nat} {ua : Nat → Nat} {va : Nat → Nat} {ca : Nat → Nat} {za : Nat → Nat} {pa : Nat → Nat} {qa : Nat → Nat} {X : Tr} {K : Tr} {R : Tr} {P : Tr} {L : Lo} {P2 : Tr} {L2 : Lo} {Tn : Tr} {Ti : Tr} {Tu : Tr} {Tv : Tr} {C : Tr} {Z : Tr} {q0 : Nat} {q1 : Nat} {q2 : Nat} {q3 : Nat} {q4 : Nat} {q5 : Nat} {r0 : Int32} (F : tF p s m ([.ref (za 0), .ref (ua 0)] : List Value).toArray meth c G cA A RX4 cX4_agreeWith 3 (some .boolean))  (k2 : Int32 → Option (Int32)) (hk2 : ∀ (x2 : Int32) (H : Heap) (locs : List Loc) (ls : Array Slot), k2 x2 = some r0 → va_P G vwCl (wX cA xa ka ra na ia ua va ca za pa qa X K R P L P2 L2 Tn Ti Tu Tv C Z q0 q1 q2 q3 q4 q5) H → va_D A (wX cA xa ka ra na ia ua va ca za pa qa X K R P L P2 L2 Tn Ti Tu Tv C Z q0 q1 q2 q3 q4 q5) → va_S A s.heap H locs → lv_has ls 3 [(0, .ref (za 0)), (1, .ref (ua 0)), (2, .int x2)] → G_X4_agreeWith_x_ua0 p l e s m below meth c G cA A xa ka ra na ia ua va ca za pa qa X K R P L P2 L2 Tn Ti Tu Tv C Z q0 q1 q2 q3 q4 q5 r0 H locs (F0 m 2 ls [])) (x2 : Int32) (s0 : Int32) (H : Heap) (locs : List Loc) (ls : Array Slot) (h : fJ_X4_agreeWith_x_ua0_J57 k2 pa qa Tu Z x2 s0 = some r0) (hP : va_P G vwCl (wX cA xa ka ra na ia ua va ca za pa qa X K R P L P2 L2 Tn Ti Tu Tv C Z q0 q1 q2 q3 q4 q5) H) (hD : va_D A (wX cA xa ka ra na ia ua va ca za pa qa X K R P L P2 L2 Tn Ti Tu Tv C Z q0 q1 q2 q3 q4 q5)) (hS : va_S A s.heap H locs) (hl : lv_has ls 3 [(0, .ref (za 0)), (1, .ref (ua 0)), (2, .int x2)]) : G_X4_agreeWith_x_ua0 p l e s m below meth c G cA A xa ka ra na ia ua va ca za pa qa X K R P L P2 L2 Tn Ti Tu Tv C Z q0 q1 q2 q3 q4 q5 r0 H locs (F0 m 57 ls [.int s0]) := by
  obtain ⟨hx, hb, hr, hml, hT, hown, hlocks, hK, hN, hA⟩ := id F
  unfold fJ_X4_agreeWith_x_ua0_J57 at h
  refine lv_aload_n hx hb dX4_agreeWith_57 rfl (lv_at hl 0 rfl) ?_
  refine va_get (D := G) (ci := 4) (v := .ref (za 6)) (C := RX4) (T := TX4) (N := 7) hx hb hT ku_4 hown hK hP 103 rfl rfl 5 (by decide) (hT _ kw_9_3) (fun _ h9 => h9) rfl dX4_agreeWith_58 ?_
  refine lv_iload_n hx hb dX4_agreeWith_61 rfl (lv_at hl 2 rfl) ?_
  replace h := tx_ck h
  obtain ⟨g9, h⟩ := h
  refine va_iald (i := x2) hx hb hK hP 107 0 rfl rfl (tx_in g9) dX4_agreeWith_62 ?_
  refine lv_iconst (v := 1) hx hb dX4_agreeWith_63 (by decide) ?_
  refine lv_icmp_ne (tgt := 71) hx hb dX4_agreeWith_64 (by decide) (fun c10 => ?_) (fun c10 => ?_)
  · replace h := tx_neg c10 h
    refine lv_iconst (v := 0) hx hb dX4_agreeWith_71 (by decide) ?_
    exact w_X4_agreeWith_x_ua0_J72 F k2 hk2 x2 0 s0 H locs ls h hP hD hS (lv_sub hl [0, 1, 2] rfl)
  · replace h := tx_pos c10 h
    refine lv_iconst (v := 1) hx hb dX4_agreeWith_67 (by decide) ?_
    refine lv_goto (tgt := 72) hx hb dX4_agreeWith_68 (by decide) ?_
    exact w_X4_agreeWith_x_ua0_J72 F k2 hk2 x2 1 s0 H locs ls h hP hD hS (lv_sub hl [0, 1, 2] rfl)
set_option maxHeartbeats 4000000 in
set_option maxRecDepth 100000 in
theorem w_X4_agreeWith_x_ua0_L2 {p : Program} {l : Launch} {e : Env} {s : State} {m : MethodId} {below : List Frame} {meth : Method} {c : Code} {G : va_G} {cA : Nat → ClassId} {A : Nat → Prop} {xa : Nat → Nat} {ka : Nat → Nat} {ra : Nat → Nat} {na : Nat → Nat} {ia : Nat → Nat} {ua : Nat → Nat} {va : Nat → Nat} {ca : Nat → Nat} {za : Nat → Nat} {pa : Nat → Nat} {qa : Nat → Nat} {X : Tr} {K : Tr} {R : Tr} {P : Tr} {L : Lo} {P2 : Tr} {L2 : Lo} {Tn : Tr} {Ti : Tr} {Tu : Tr} {Tv : Tr} {C : Tr} {Z : Tr} {q0 : Nat} {q1 : Nat} {q2 : Nat} {q3 : Nat} {q4 : Nat} {q5 : Nat} {r0 : Int32} (F : tF p s m ([.ref (za 0), .ref (ua 0)] : List Value).toArray meth c G cA A RX4 cX4_agreeWith 3 (some .boolean))    (N : Nat) : ∀ (x2 : Int32) (H : Heap) (locs : List Loc) (ls : Array Slot), lpF (fun _ => none) (fB_X4_agreeWith_x_ua0_L2 pa qa Tu Z) N x2 = some r0 → va_P G vwCl (wX cA xa ka ra na ia ua va ca za pa qa X K R P L P2 L2 Tn Ti Tu Tv C Z q0 q1 q2 q3 q4 q5) H → va_D A (wX cA xa ka ra na ia ua va ca za pa qa X K R P L P2 L2 Tn Ti Tu Tv C Z q0 q1 q2 q3 q4 q5) → va_S A s.heap H locs → lv_has ls 3 [(0, .ref (za 0)), (1, .ref (ua 0)), (2, .int x2)] → G_X4_agreeWith_x_ua0 p l e s m below meth c G cA A xa ka ra na ia ua va ca za pa qa X K R P L P2 L2 Tn Ti Tu Tv C Z q0 q1 q2 q3 q4 q5 r0 H locs (F0 m 2 ls []) := by
  obtain ⟨hx, hb, hr, hml, hT, hown, hlocks, hK, hN, hA⟩ := id F
  induction N with
  | zero =>
    intro x2 H locs ls h
    replace h : (none : Option (Int32)) = some r0 := h
    cases h
  | succ N hk2 =>
    intro x2 H locs ls h hP hD hS hl
    replace h : fB_X4_agreeWith_x_ua0_L2 pa qa Tu Z (lpF (fun _ => none) (fB_X4_agreeWith_x_ua0_L2 pa qa Tu Z) N) x2 = some r0 := h
    generalize hk2e : lpF (fun _ => none) (fB_X4_agreeWith_x_ua0_L2 pa qa Tu Z) N = k2 at h hk2
    unfold fB_X4_agreeWith_x_ua0_L2 at h
    refine lv_iload_n hx hb dX4_agreeWith_2 rfl (lv_at hl 2 rfl) ?_
    refine lv_aload_n hx hb dX4_agreeWith_3 rfl (lv_at hl 0 rfl) ?_
    refine va_get (D := G) (ci := 4) (v := .int (Z 0 0)) (C := RX4) (T := TX4) (N := 7) hx hb hT ku_4 hown hK hP 103 rfl rfl 0 (by decide) (hT _ kw_8_22) (fun _ h9 => h9) rfl dX4_agreeWith_4 ?_
    refine lv_icmp_ge (tgt := 83) hx hb dX4_agreeWith_7 (by decide) (fun c1 => ?_) (fun c1 => ?_)
    · replace h := tx_pos c1 h
      refine lv_iconst (v := 1) hx hb dX4_agreeWith_83 (by decide) ?_
      obtain rfl := tx_1 h
      exact W.zret (ty := .boolean) hx hb hr rfl (fun t ht hW => ⟨⟨_, (), rfl, rfl, by rw [ht]; exact hP, hD⟩, hS.F ht⟩) hS.2.2 dX4_agreeWith_84
    · replace h := tx_neg c1 h
      refine lv_aload_n hx hb dX4_agreeWith_10 rfl (lv_at hl 0 rfl) ?_
      refine va_get (D := G) (ci := 4) (v := .ref (za 7)) (C := RX4) (T := TX4) (N := 7) hx hb hT ku_4 hown hK hP 103 rfl rfl 6 (by decide) (hT _ kw_9_5) (fun _ h9 => h9) rfl dX4_agreeWith_11 ?_
      refine lv_iload_n hx hb dX4_agreeWith_14 rfl (lv_at hl 2 rfl) ?_
      replace h := tx_ck h
      obtain ⟨g2, h⟩ := h
      refine va_zald (i := x2) hx hb hK hP 108 1 rfl rfl (tx_in g2) dX4_agreeWith_15 ?_
      refine lv_if_eq (tgt := 77) hx hb dX4_agreeWith_16 (by decide) (fun c3 => ?_) (fun c3 => ?_)
      · replace h := tx_pos c3 h
        replace h := tx_lt h
        obtain ⟨y4, ey4, h⟩ := h
        refine lv_iinc (v := y4) (lv' := [(2, .int y4), (0, .ref (za 0)), (1, .ref (ua 0))]) hx hb dX4_agreeWith_77 hl (k := 2) rfl ey4 (by decide) rfl (fun ls hl => ?_)
        refine lv_goto (tgt := 2) hx hb dX4_agreeWith_80 (by decide) ?_
        exact hk2 y4 H locs ls h hP hD hS (lv_sub hl [1, 2, 0] rfl)
      · replace h := tx_neg c3 h
        refine lv_aload_n hx hb dX4_agreeWith_19 rfl (lv_at hl 0 rfl) ?_
        refine va_get (D := G) (ci := 4) (v := .ref (za 3)) (C := RX4) (T := TX4) (N := 7) hx hb hT ku_4 hown hK hP 103 rfl rfl 2 (by decide) (hT _ kw_9_0) (fun _ h9 => h9) rfl dX4_agreeWith_20 ?_
        refine lv_iload_n hx hb dX4_agreeWith_23 rfl (lv_at hl 2 rfl) ?_
        refine va_iald (i := x2) hx hb hK hP 104 0 rfl rfl (tx_in g2) dX4_agreeWith_24 ?_
        refine lv_aload_n hx hb dX4_agreeWith_25 rfl (lv_at hl 1 rfl) ?_
        refine va_get (D := G) (ci := 6) (v := .int (Tu 0 0)) (C := RX6) (T := TX6) (N := 20) hx hb hT ku_6 hown hK hP 77 rfl rfl 0 (by decide) (hT _ kw_56_4) (fun _ h9 => h9) rfl dX4_agreeWith_26 ?_
        refine lv_icmp_ne (tgt := 77) hx hb dX4_agreeWith_29 (by decide) (fun c5 => ?_) (fun c5 => ?_)
        · replace h := tx_neg c5 h
          replace h := tx_lt h
          obtain ⟨y6, ey6, h⟩ := h
          refine lv_iinc (v := y6) (lv' := [(2, .int y6), (0, .ref (za 0)), (1, .ref (ua 0))]) hx hb dX4_agreeWith_77 hl (k := 2) rfl ey6 (by decide) rfl (fun ls hl => ?_)
          refine lv_goto (tgt := 2) hx hb dX4_agreeWith_80 (by decide) ?_
          exact hk2 y6 H locs ls h hP hD hS (lv_sub hl [1, 2, 0] rfl)
        · replace h := tx_pos c5 h
          refine lv_aload_n hx hb dX4_agreeWith_32 rfl (lv_at hl 1 rfl) ?_
          refine va_get (D := G) (ci := 6) (v := .ref (ua 15)) (C := RX6) (T := TX6) (N := 20) hx hb hT ku_6 hown hK hP 77 rfl rfl 14 (by decide) (hT _ kw_56_5) (fun _ h9 => h9) rfl dX4_agreeWith_33 ?_
          refine lv_aload_n hx hb dX4_agreeWith_36 rfl (lv_at hl 0 rfl) ?_
          refine va_get (D := G) (ci := 4) (v := .ref (za 4)) (C := RX4) (T := TX4) (N := 7) hx hb hT ku_4 hown hK hP 103 rfl rfl 3 (by decide) (hT _ kw_9_1) (fun _ h9 => h9) rfl dX4_agreeWith_37 ?_
          refine lv_iload_n hx hb dX4_agreeWith_40 rfl (lv_at hl 2 rfl) ?_
          refine va_iald (i := x2) hx hb hK hP 105 0 rfl rfl (tx_in g2) dX4_agreeWith_41 ?_
          replace h := tx_ck h
          obtain ⟨g7, h⟩ := h
          refine va_iald (i := (Z 4 x2.toNatClampNeg)) hx hb hK hP 84 0 rfl rfl (tx_in g7) dX4_agreeWith_42 ?_
          refine lv_aload_n hx hb dX4_agreeWith_43 rfl (lv_at hl 0 rfl) ?_
          refine va_get (D := G) (ci := 4) (v := .ref (za 5)) (C := RX4) (T := TX4) (N := 7) hx hb hT ku_4 hown hK hP 103 rfl rfl 4 (by decide) (hT _ kw_9_2) (fun _ h9 => h9) rfl dX4_agreeWith_44 ?_
          refine lv_iload_n hx hb dX4_agreeWith_47 rfl (lv_at hl 2 rfl) ?_
          refine va_iald (i := x2) hx hb hK hP 106 0 rfl rfl (tx_in g2) dX4_agreeWith_48 ?_
          refine lv_icmp_ne (tgt := 56) hx hb dX4_agreeWith_49 (by decide) (fun c8 => ?_) (fun c8 => ?_)
          · replace h := tx_neg c8 h
            refine lv_iconst (v := 0) hx hb dX4_agreeWith_56 (by decide) ?_
            exact w_X4_agreeWith_x_ua0_J57 F k2 hk2 x2 0 H locs ls h hP hD hS (lv_sub hl [0, 1, 2] rfl)
          · replace h := tx_pos c8 h
            refine lv_iconst (v := 1) hx hb dX4_agreeWith_52 (by decide) ?_
            refine lv_goto (tgt := 57) hx hb dX4_agreeWith_53 (by decide) ?_
            exact w_X4_agreeWith_x_ua0_J57 F k2 hk2 x2 1 H locs ls h hP hD hS (lv_sub hl [0, 1, 2] rfl)
set_option maxHeartbeats 4000000 in
set_option maxRecDepth 100000 in
theorem c_X4_agreeWith_x_ua0 (l : Launch) (G : va_G) (cA : Nat → ClassId) (sz : Nat) (xa : Nat → Nat) (ka : Nat → Nat) (ra : Nat → Nat) (na : Nat → Nat) (ia : Nat → Nat) (ua : Nat → Nat) (va : Nat → Nat) (ca : Nat → Nat) (za : Nat → Nat) (pa : Nat → Nat) (qa : Nat → Nat) (X : Tr) (K : Tr) (R : Tr) (P : Tr) (L : Lo) (P2 : Tr) (L2 : Lo) (Tn : Tr) (Ti : Tr) (Tu : Tr) (Tv : Tr) (C : Tr) (Z : Tr) (q0 : Nat) (q1 : Nat) (q2 : Nat) (q3 : Nat) (q4 : Nat) (q5 : Nat)  (r0 : Int32) (h : f_X4_agreeWith_x_ua0 pa qa Tu Z = some r0) : Met l yX4_agreeWith (.code yX4_agreeWith cX4_agreeWith 3 (some .boolean) :: T0) ({ frames := 0, cells := 0, slots := 0, locals := 0 } : Room) (tqP G cA [.ref (za 0), .ref (ua 0)] (wX cA xa ka ra na ia ua va ca za pa qa X K R P L P2 L2 Tn Ti Tu Tv C Z q0 q1 q2 q3 q4 q5) sz) (tqQi G cA (fun (r : Int32) (_ : Unit) => r = r0) (fun (_ : Unit) => wX cA xa ka ra na ia ua va ca za pa qa X K R P L P2 L2 Tn Ti Tu Tv C Z q0 q1 q2 q3 q4 q5) (va_A (wX cA xa ka ra na ia ua va ca za pa qa X K R P L P2 L2 Tn Ti Tu Tv C Z q0 q1 q2 q3 q4 q5) sz)) 0 0 (va_A (wX cA xa ka ra na ia ua va ca za pa qa X K R P L P2 L2 Tn Ti Tu Tv C Z q0 q1 q2 q3 q4 q5) sz) := by
  refine Met.ofW (cc := cX4_agreeWith) (maxL := 3) (ret := (some .boolean)) (by decide) rfl ?_
  intro p e s m args below meth c s₁ B hml hv
  obtain ⟨rfl, hsz, hP, hK, hD0, hN⟩ := hv
  have hx := B.exec
  have hb := B.bytes
  have hr := B.returns
  have hts := atoms_spec (ws := .code yX4_agreeWith cX4_agreeWith 3 (some .boolean) :: T0) B.pre
  have hT : ∀ w ∈ T0, w.before _ s = true := fun w h => hts w (List.mem_cons_of_mem _ h)
  have hown : s.vm.findClass RX4 = some m.cls := findClass_of_methodNamed B.named
  have hlocks := B.notSynchronized
  subst hsz
  have hD := hD0.self (sz := s.heap.size)
  generalize hAe : va_A (wX cA xa ka ra na ia ua va ca za pa qa X K R P L P2 L2 Tn Ti Tu Tv C Z q0 q1 q2 q3 q4 q5) s.heap.size = A at hD ⊢
  have hA : ∀ q : Nat, s.heap.size ≤ q → A q := fun q h => by rw [← hAe]; exact Or.inr h
  have hS : va_S A s.heap s.heap [] := va_S.rf
  have hl := lv_entry ([.ref (za 0), .ref (ua 0)]) (n := 3) (Nat.le_of_ble_eq_true rfl)
  rw [lg_entry_eq]
  generalize (lg_sl ([.ref (za 0), .ref (ua 0)]) ++ List.replicate (3 - (lg_sl ([.ref (za 0), .ref (ua 0)])).length) Slot.unset).toArray = ls at hl ⊢
  have hl : lv_has ls 3 [(0, .ref (za 0)), (1, .ref (ua 0))] := hl
  have F : tF p s m ([.ref (za 0), .ref (ua 0)] : List Value).toArray meth c G cA A RX4 cX4_agreeWith 3 (some .boolean) := ⟨hx, hb, hr, hml, hT, hown, hlocks, hK, hN, hA⟩
  obtain ⟨H, hH⟩ : ∃ z, z = s.heap := ⟨_, rfl⟩
  rw [← hH] at hP
  have hS : va_S A s.heap H [] := by rw [hH]; exact hS
  suffices hgo : G_X4_agreeWith_x_ua0 p l e s m below meth c G cA A xa ka ra na ia ua va ca za pa qa X K R P L P2 L2 Tn Ti Tu Tv C Z q0 q1 q2 q3 q4 q5 r0 H [] (F0 m 0 ls []) by rw [hH] at hgo; exact hgo
  generalize ([] : List Loc) = locs at hS ⊢
  unfold f_X4_agreeWith_x_ua0 at h
  refine lv_iconst (v := 0) hx hb dX4_agreeWith_0 (by decide) ?_
  refine lv_istore_n (lv' := [(2, .int 0), (0, .ref (za 0)), (1, .ref (ua 0))]) hx hb dX4_agreeWith_1 rfl hl (by decide) rfl (fun ls hl => ?_)
  exact w_X4_agreeWith_x_ua0_L2 F 2000 0 H locs ls h hP hD hS (lv_sub hl [1, 2, 0] rfl)
abbrev G_X7_agreesIfIn (p : Program) (l : Launch) (e : Env) (s : State) (m : MethodId) (below : List Frame) (meth : Method) (c : Code) (G : va_G) (cA : Nat → ClassId) (A : Nat → Prop) (xa : Nat → Nat) (ka : Nat → Nat) (ra : Nat → Nat) (na : Nat → Nat) (ia : Nat → Nat) (ua : Nat → Nat) (va : Nat → Nat) (ca : Nat → Nat) (za : Nat → Nat) (pa : Nat → Nat) (qa : Nat → Nat) (X : Tr) (K : Tr) (R : Tr) (P : Tr) (P2 : Tr) (L2 : Lo) (Tn : Tr) (Ti : Tr) (Tv : Tr) (C : Tr) (Z : Tr) (q0 : Nat) (q1 : Nat) (q3 : Nat) (q4 : Nat) (q5 : Nat) (x1 : Int32) (x2 : Int32) (r0 : Int32) (L' : Lo) (Tu' : Tr) (q2' : Nat) (H : Heap) (locs : List Loc) (g : JFrame) : Prop := W p l e (headSpec (.code yX7_agreesIfIn cX7_agreesIfIn 4 (some .boolean) :: T0) ({ frames := 6, cells := 0, slots := 0, locals := 144 } : Room)).room s m ([.ref (xa 0), .int x1, .int x2] : List Value).toArray below meth c H locs 0 0 (MQ below (tqQi G cA (fun (r : Int32) (_ : Unit) => r = r0) (fun (_ : Unit) => wX cA xa ka ra na ia ua va ca za pa qa X K R P (L') P2 L2 Tn Ti (Tu') Tv C Z q0 q1 (q2') q3 q4 q5) A) ([.ref (xa 0), .int x1, .int x2] : List Value).toArray s 0 0 A) g
set_option maxHeartbeats 4000000 in
set_option maxRecDepth 100000 in
theorem w_X7_agreesIfIn_L47 {p : Program} {l : Launch} {e : Env} {s : State} {m : MethodId} {below : List Frame} {meth : Method} {c : Code} {G : va_G} {cA : Nat → ClassId} {A : Nat → Prop} {xa : Nat → Nat} {ka : Nat → Nat} {ra : Nat → Nat} {na : Nat → Nat} {ia : Nat → Nat} {ua : Nat → Nat} {va : Nat → Nat} {ca : Nat → Nat} {za : Nat → Nat} {pa : Nat → Nat} {qa : Nat → Nat} {X : Tr} {K : Tr} {R : Tr} {P : Tr} {P2 : Tr} {L2 : Lo} {Tn : Tr} {Ti : Tr} {Tv : Tr} {C : Tr} {Z : Tr} {q0 : Nat} {q1 : Nat} {q3 : Nat} {q4 : Nat} {q5 : Nat} {x1₀ : Int32} {x2₀ : Int32} {r0 : Int32} {L' : Lo} {Tu' : Tr} {q2' : Nat} {q2 : Nat} (F : tF p s m ([.ref (xa 0), .int x1₀, .int x2₀] : List Value).toArray meth c G cA A RX7 cX7_agreesIfIn 4 (some .boolean))    (N : Nat) : ∀ (x3 : Int32) (L : Lo) (Tu : Tr) (H : Heap) (locs : List Loc) (ls : Array Slot), lpF (fun _ _ _ => none) (fB_X7_agreesIfIn_L47 pa qa P Z q2 q4) N x3 L Tu = some (r0, L', Tu', q2') → va_P G vwCl (wX cA xa ka ra na ia ua va ca za pa qa X K R P L P2 L2 Tn Ti Tu Tv C Z q0 q1 q2 q3 q4 q5) H → va_D A (wX cA xa ka ra na ia ua va ca za pa qa X K R P L P2 L2 Tn Ti Tu Tv C Z q0 q1 q2 q3 q4 q5) → va_S A s.heap H locs → lv_has ls 4 [(0, .ref (xa 0)), (3, .int x3)] → G_X7_agreesIfIn p l e s m below meth c G cA A xa ka ra na ia ua va ca za pa qa X K R P P2 L2 Tn Ti Tv C Z q0 q1 q3 q4 q5 x1₀ x2₀ r0 L' Tu' q2' H locs (F0 m 47 ls []) := by
  obtain ⟨hx, hb, hr, hml, hT, hown, hlocks, hK, hN, hA⟩ := id F
  induction N with
  | zero =>
    intro x3 L Tu H locs ls h
    replace h : (none : Option (Int32 × Lo × Tr × Nat)) = some (r0, L', Tu', q2') := h
    cases h
  | succ N hk47 =>
    intro x3 L Tu H locs ls h hP hD hS hl
    replace h : fB_X7_agreesIfIn_L47 pa qa P Z q2 q4 (lpF (fun _ _ _ => none) (fB_X7_agreesIfIn_L47 pa qa P Z q2 q4) N) x3 L Tu = some (r0, L', Tu', q2') := h
    generalize hk47e : lpF (fun _ _ _ => none) (fB_X7_agreesIfIn_L47 pa qa P Z q2 q4) N = k47 at h hk47
    unfold fB_X7_agreesIfIn_L47 at h
    refine lv_iload_n hx hb dX7_agreesIfIn_47 rfl (lv_at hl 1 rfl) ?_
    refine lv_bipush (v := 20) hx hb dX7_agreesIfIn_48 (by decide) ?_
    refine lv_icmp_ge (tgt := 106) hx hb dX7_agreesIfIn_50 (by decide) (fun c11 => ?_) (fun c11 => ?_)
    · replace h := tx_pos c11 h
      refine lv_iconst (v := 1) hx hb dX7_agreesIfIn_106 (by decide) ?_
      obtain ⟨rfl, rfl, rfl, rfl⟩ := tx_4 h
      exact W.zret (ty := .boolean) hx hb hr rfl (fun t ht hW => ⟨⟨_, (), rfl, rfl, by rw [ht]; exact hP, hD⟩, hS.F ht⟩) hS.2.2 dX7_agreesIfIn_107
    · replace h := tx_neg c11 h
      refine lv_aload_n hx hb dX7_agreesIfIn_53 rfl (lv_at hl 0 rfl) ?_
      refine va_get (D := G) (ci := 7) (v := .ref (ua 0)) (C := RX7) (T := TX7) (N := 12) hx hb hT ku_7 hown hK hP 0 rfl rfl 5 (by decide) (hT _ kw_2_3) (fun _ h9 => h9) rfl dX7_agreesIfIn_54 ?_
      refine lv_aload_n hx hb dX7_agreesIfIn_57 rfl (lv_at hl 0 rfl) ?_
      refine va_get (D := G) (ci := 7) (v := .ref q4) (C := RX7) (T := TX7) (N := 12) hx hb hT ku_7 hown hK hP 0 rfl rfl 1 (by decide) (hT _ kw_1_20) (fun _ h9 => h9) rfl dX7_agreesIfIn_58 ?_
      replace h := tx_ck h
      obtain ⟨g12, h⟩ := h
      have eg12 := of_decide_eq_true g12
      subst eg12
      refine va_get (D := G) (ci := 2) (v := .ref (pa 18)) (C := RX2) (T := TX2) (N := 19) hx hb hT ku_2 hown hK hP 9 rfl rfl 17 (by decide) (hT _ kw_32_23) (fun _ h9 => h9) rfl dX7_agreesIfIn_61 ?_
      refine lv_iload_n hx hb dX7_agreesIfIn_64 rfl (lv_at hl 1 rfl) ?_
      replace h := tx_ck h
      obtain ⟨g13, h⟩ := h
      refine va_iald (i := x3) hx hb hK hP 20 0 rfl rfl (tx_in g13) dX7_agreesIfIn_65 ?_
      replace h := tx_ck h
      obtain ⟨g14, h⟩ := h
      have eg14 := of_decide_eq_true g14
      subst eg14
      replace h := tx_bd h
      obtain ⟨⟨r15, Tu_16, L_17⟩, hc18, h⟩ := h
      replace h := tx_let (y := r15) rfl h
      replace h := tx_let (y := Tu_16) rfl h
      replace h := tx_let (y := L_17) rfl h
      refine tw_ci pX_ua hP hD hS hA (va_runV (As := [.int (P 18 x3.toNatClampNeg)]) (rest := []) ⟨hx, hb, hml, hown, hT⟩ (c_X6_takeDown l G cA H.size ua pa Tu P L (P 18 x3.toNatClampNeg)  r15 Tu_16 L_17 hc18) (cwV 1 hT (tq_gV kw_46_23 kw_40_13 kw_40_14 kw_1_23 kw_40_15) rfl rfl rfl dkdV_yX6_takeDown_1 ⟨Nat.le_of_ble_eq_true rfl, Nat.le_of_ble_eq_true rfl⟩) ⟨(tw_pre pX_ua hP hD hK hN).1, va_recv hK hP (ci := 6) (q0 := 77) rfl rfl, (tw_pre pX_ua hP hD hK hN).2⟩ rfl rfl hl.1 rfl (lv_room (Nat.le_of_ble_eq_true rfl)) dX7_agreesIfIn_66 ⟨Nat.le_of_ble_eq_true rfl, Nat.le_of_ble_eq_true rfl⟩) (fun _ _ H locs z19 hP hD hS => ?_)
      have z19 := z19.symm
      subst z19
      replace hP := tw_P pX_ua.symm hP
      replace hD := tw_D pX_ua.symm hD
      have hP : va_P G vwCl (wX cA xa ka ra na ia ua va ca za pa qa X K R P L_17 P2 L2 Tn Ti Tu_16 Tv C Z q0 q1 (pa 0) q3 (pa 0) q5) H := hP
      have hD : va_D A (wX cA xa ka ra na ia ua va ca za pa qa X K R P L_17 P2 L2 Tn Ti Tu_16 Tv C Z q0 q1 (pa 0) q3 (pa 0) q5) := hD
      refine lv_pop hx hb dX7_agreesIfIn_69 rfl ?_
      refine lv_aload_n hx hb dX7_agreesIfIn_70 rfl (lv_at hl 0 rfl) ?_
      refine va_get (D := G) (ci := 7) (v := .ref (ua 0)) (C := RX7) (T := TX7) (N := 12) hx hb hT ku_7 hown hK hP 0 rfl rfl 5 (by decide) (hT _ kw_2_3) (fun _ h9 => h9) rfl dX7_agreesIfIn_71 ?_
      replace h := tx_bd h
      obtain ⟨Tu_20, hc21, h⟩ := h
      refine tw_cv pX_ua hP hD hS hA (va_runV (As := []) (rest := []) ⟨hx, hb, hml, hown, hT⟩ (c_X6_getIn l G cA H.size ua pa Tu_16 P L_17  Tu_20 hc21) (cwV 0 hT (tq_gV kw_47_4 kw_41_13 kw_41_14 kw_1_23 kw_41_15) rfl rfl rfl dkdV_yX6_getIn_0 ⟨Nat.le_of_ble_eq_true rfl, Nat.le_of_ble_eq_true rfl⟩) ⟨(tw_pre pX_ua hP hD hK hN).1, va_recv hK hP (ci := 6) (q0 := 77) rfl rfl, (tw_pre pX_ua hP hD hK hN).2⟩ rfl rfl hl.1 rfl (lv_room (Nat.le_of_ble_eq_true rfl)) dX7_agreesIfIn_74 ⟨Nat.le_of_ble_eq_true rfl, Nat.le_of_ble_eq_true rfl⟩) (fun _ H locs z22 hP hD hS => ?_)
      replace hP := tw_P pX_ua.symm hP
      replace hD := tw_D pX_ua.symm hD
      have hP : va_P G vwCl (wX cA xa ka ra na ia ua va ca za pa qa X K R P L_17 P2 L2 Tn Ti Tu_20 Tv C Z q0 q1 (pa 0) q3 (pa 0) q5) H := hP
      have hD : va_D A (wX cA xa ka ra na ia ua va ca za pa qa X K R P L_17 P2 L2 Tn Ti Tu_20 Tv C Z q0 q1 (pa 0) q3 (pa 0) q5) := hD
      refine lv_aload_n hx hb dX7_agreesIfIn_77 rfl (lv_at hl 0 rfl) ?_
      refine va_get (D := G) (ci := 7) (v := .ref (za 0)) (C := RX7) (T := TX7) (N := 12) hx hb hT ku_7 hown hK hP 0 rfl rfl 8 (by decide) (hT _ kw_2_12) (fun _ h9 => h9) rfl dX7_agreesIfIn_78 ?_
      refine lv_aload_n hx hb dX7_agreesIfIn_81 rfl (lv_at hl 0 rfl) ?_
      refine va_get (D := G) (ci := 7) (v := .ref (ua 0)) (C := RX7) (T := TX7) (N := 12) hx hb hT ku_7 hown hK hP 0 rfl rfl 5 (by decide) (hT _ kw_2_3) (fun _ h9 => h9) rfl dX7_agreesIfIn_82 ?_
      replace h := tx_bd h
      obtain ⟨r23, hc24, h⟩ := h
      refine tz_i (As := [.ref (ua 0)]) (rest := []) ⟨hx, hb, hml, hown, hT⟩ hP hD hS hA hK hN (c_X4_agreeWith_x_ua0 l G cA H.size xa ka ra na ia ua va ca za pa qa X K R P L_17 P2 L2 Tn Ti Tu_20 Tv C Z q0 q1 (pa 0) q3 (pa 0) q5  r23 hc24) (tq_gV kw_56_0 kw_56_1 kw_56_2 kw_2_11 kw_56_3) rfl rfl dkdV_yX4_agreeWith_1 (Nat.le_of_ble_eq_true rfl) (Nat.le_of_ble_eq_true rfl) (ci := 4) (q0 := 103) rfl rfl rfl hl.1 rfl (Nat.le_of_ble_eq_true rfl) dX7_agreesIfIn_85 ⟨Nat.le_of_ble_eq_true rfl, Nat.le_of_ble_eq_true rfl⟩ (fun _ _ H locs z25 hP hD hS => ?_)
      have z25 := z25.symm
      subst z25
      have hP : va_P G vwCl (wX cA xa ka ra na ia ua va ca za pa qa X K R P L_17 P2 L2 Tn Ti Tu_20 Tv C Z q0 q1 (pa 0) q3 (pa 0) q5) H := hP
      have hD : va_D A (wX cA xa ka ra na ia ua va ca za pa qa X K R P L_17 P2 L2 Tn Ti Tu_20 Tv C Z q0 q1 (pa 0) q3 (pa 0) q5) := hD
      refine lv_if_ne (tgt := 93) hx hb dX7_agreesIfIn_88 (by decide) (fun c26 => ?_) (fun c26 => ?_)
      · replace h := tx_neg c26 h
        refine lv_aload_n hx hb dX7_agreesIfIn_93 rfl (lv_at hl 0 rfl) ?_
        refine va_get (D := G) (ci := 7) (v := .ref (ua 0)) (C := RX7) (T := TX7) (N := 12) hx hb hT ku_7 hown hK hP 0 rfl rfl 5 (by decide) (hT _ kw_2_3) (fun _ h9 => h9) rfl dX7_agreesIfIn_94 ?_
        replace h := tx_bd h
        obtain ⟨⟨Tu_27, L_28⟩, hc29, h⟩ := h
        replace h := tx_let (y := Tu_27) rfl h
        replace h := tx_let (y := L_28) rfl h
        refine tw_cv pX_ua hP hD hS hA (va_runV (As := []) (rest := []) ⟨hx, hb, hml, hown, hT⟩ (c_X6_wayOn l G cA H.size ua pa Tu_20 P L_17  Tu_27 L_28 hc29) (cwV 0 hT (tq_gV kw_47_9 kw_42_4 kw_42_5 kw_1_23 kw_42_6) rfl rfl rfl dkdV_yX6_wayOn_0 ⟨Nat.le_of_ble_eq_true rfl, Nat.le_of_ble_eq_true rfl⟩) ⟨(tw_pre pX_ua hP hD hK hN).1, va_recv hK hP (ci := 6) (q0 := 77) rfl rfl, (tw_pre pX_ua hP hD hK hN).2⟩ rfl rfl hl.1 rfl (lv_room (Nat.le_of_ble_eq_true rfl)) dX7_agreesIfIn_97 ⟨Nat.le_of_ble_eq_true rfl, Nat.le_of_ble_eq_true rfl⟩) (fun _ H locs z30 hP hD hS => ?_)
        replace hP := tw_P pX_ua.symm hP
        replace hD := tw_D pX_ua.symm hD
        have hP : va_P G vwCl (wX cA xa ka ra na ia ua va ca za pa qa X K R P L_28 P2 L2 Tn Ti Tu_27 Tv C Z q0 q1 (pa 0) q3 (pa 0) q5) H := hP
        have hD : va_D A (wX cA xa ka ra na ia ua va ca za pa qa X K R P L_28 P2 L2 Tn Ti Tu_27 Tv C Z q0 q1 (pa 0) q3 (pa 0) q5) := hD
        replace h := tx_lt h
        obtain ⟨y31, ey31, h⟩ := h
        refine lv_iinc (v := y31) (lv' := [(3, .int y31), (0, .ref (xa 0))]) hx hb dX7_agreesIfIn_100 hl (k := 1) rfl ey31 (by decide) rfl (fun ls hl => ?_)
        refine lv_goto (tgt := 47) hx hb dX7_agreesIfIn_103 (by decide) ?_
        exact hk47 y31 L_28 Tu_27 H locs ls h hP hD hS (lv_sub hl [1, 0] rfl)
      · replace h := tx_pos c26 h
        refine lv_iconst (v := 0) hx hb dX7_agreesIfIn_91 (by decide) ?_
        obtain ⟨rfl, rfl, rfl, rfl⟩ := tx_4 h
        exact W.zret (ty := .boolean) hx hb hr rfl (fun t ht hW => ⟨⟨_, (), rfl, rfl, by rw [ht]; exact hP, hD⟩, hS.F ht⟩) hS.2.2 dX7_agreesIfIn_92
set_option maxHeartbeats 4000000 in
set_option maxRecDepth 100000 in
theorem c_X7_agreesIfIn (l : Launch) (G : va_G) (cA : Nat → ClassId) (sz : Nat) (xa : Nat → Nat) (ka : Nat → Nat) (ra : Nat → Nat) (na : Nat → Nat) (ia : Nat → Nat) (ua : Nat → Nat) (va : Nat → Nat) (ca : Nat → Nat) (za : Nat → Nat) (pa : Nat → Nat) (qa : Nat → Nat) (X : Tr) (K : Tr) (R : Tr) (P : Tr) (L : Lo) (P2 : Tr) (L2 : Lo) (Tn : Tr) (Ti : Tr) (Tu : Tr) (Tv : Tr) (C : Tr) (Z : Tr) (q0 : Nat) (q1 : Nat) (q2 : Nat) (q3 : Nat) (q4 : Nat) (q5 : Nat) (x1 : Int32) (x2 : Int32)  (r0 : Int32) (L' : Lo) (Tu' : Tr) (q2' : Nat) (h : f_X7_agreesIfIn pa qa P L Tu Z q2 q4 x1 x2 = some (r0, L', Tu', q2')) : Met l yX7_agreesIfIn (.code yX7_agreesIfIn cX7_agreesIfIn 4 (some .boolean) :: T0) ({ frames := 6, cells := 0, slots := 0, locals := 144 } : Room) (tqP G cA [.ref (xa 0), .int x1, .int x2] (wX cA xa ka ra na ia ua va ca za pa qa X K R P L P2 L2 Tn Ti Tu Tv C Z q0 q1 q2 q3 q4 q5) sz) (tqQi G cA (fun (r : Int32) (_ : Unit) => r = r0) (fun (_ : Unit) => wX cA xa ka ra na ia ua va ca za pa qa X K R P (L') P2 L2 Tn Ti (Tu') Tv C Z q0 q1 (q2') q3 q4 q5) (va_A (wX cA xa ka ra na ia ua va ca za pa qa X K R P L P2 L2 Tn Ti Tu Tv C Z q0 q1 q2 q3 q4 q5) sz)) 0 0 (va_A (wX cA xa ka ra na ia ua va ca za pa qa X K R P L P2 L2 Tn Ti Tu Tv C Z q0 q1 q2 q3 q4 q5) sz) := by
  refine Met.ofW (cc := cX7_agreesIfIn) (maxL := 4) (ret := (some .boolean)) (by decide) rfl ?_
  intro p e s m args below meth c s₁ B hml hv
  obtain ⟨rfl, hsz, hP, hK, hD0, hN⟩ := hv
  have hx := B.exec
  have hb := B.bytes
  have hr := B.returns
  have hts := atoms_spec (ws := .code yX7_agreesIfIn cX7_agreesIfIn 4 (some .boolean) :: T0) B.pre
  have hT : ∀ w ∈ T0, w.before _ s = true := fun w h => hts w (List.mem_cons_of_mem _ h)
  have hown : s.vm.findClass RX7 = some m.cls := findClass_of_methodNamed B.named
  have hlocks := B.notSynchronized
  subst hsz
  have hD := hD0.self (sz := s.heap.size)
  generalize hAe : va_A (wX cA xa ka ra na ia ua va ca za pa qa X K R P L P2 L2 Tn Ti Tu Tv C Z q0 q1 q2 q3 q4 q5) s.heap.size = A at hD ⊢
  have hA : ∀ q : Nat, s.heap.size ≤ q → A q := fun q h => by rw [← hAe]; exact Or.inr h
  have hS : va_S A s.heap s.heap [] := va_S.rf
  have hl := lv_entry ([.ref (xa 0), .int x1, .int x2]) (n := 4) (Nat.le_of_ble_eq_true rfl)
  rw [lg_entry_eq]
  generalize (lg_sl ([.ref (xa 0), .int x1, .int x2]) ++ List.replicate (4 - (lg_sl ([.ref (xa 0), .int x1, .int x2])).length) Slot.unset).toArray = ls at hl ⊢
  have hl : lv_has ls 4 [(0, .ref (xa 0)), (1, .int x1), (2, .int x2)] := hl
  have F : tF p s m ([.ref (xa 0), .int x1, .int x2] : List Value).toArray meth c G cA A RX7 cX7_agreesIfIn 4 (some .boolean) := ⟨hx, hb, hr, hml, hT, hown, hlocks, hK, hN, hA⟩
  obtain ⟨H, hH⟩ : ∃ z, z = s.heap := ⟨_, rfl⟩
  rw [← hH] at hP
  have hS : va_S A s.heap H [] := by rw [hH]; exact hS
  suffices hgo : G_X7_agreesIfIn p l e s m below meth c G cA A xa ka ra na ia ua va ca za pa qa X K R P P2 L2 Tn Ti Tv C Z q0 q1 q3 q4 q5 x1 x2 r0 L' Tu' q2' H [] (F0 m 0 ls []) by rw [hH] at hgo; exact hgo
  generalize ([] : List Loc) = locs at hS ⊢
  unfold f_X7_agreesIfIn at h
  refine lv_aload_n hx hb dX7_agreesIfIn_0 rfl (lv_at hl 0 rfl) ?_
  refine va_get (D := G) (ci := 7) (v := .ref (ua 0)) (C := RX7) (T := TX7) (N := 12) hx hb hT ku_7 hown hK hP 0 rfl rfl 5 (by decide) (hT _ kw_2_3) (fun _ h9 => h9) rfl dX7_agreesIfIn_1 ?_
  refine lv_aload_n hx hb dX7_agreesIfIn_4 rfl (lv_at hl 0 rfl) ?_
  refine va_get (D := G) (ci := 7) (v := .ref q4) (C := RX7) (T := TX7) (N := 12) hx hb hT ku_7 hown hK hP 0 rfl rfl 1 (by decide) (hT _ kw_1_20) (fun _ h9 => h9) rfl dX7_agreesIfIn_5 ?_
  replace h := tx_ck h
  obtain ⟨g1, h⟩ := h
  have eg1 := of_decide_eq_true g1
  subst eg1
  replace h := tx_bd h
  obtain ⟨⟨Tu_2, q2_3⟩, hc4, h⟩ := h
  replace h := tx_let (y := Tu_2) rfl h
  replace h := tx_let (y := q2_3) rfl h
  refine tw_cv pX_ua_pa hP hD hS hA (va_runV (As := [.ref (pa 0)]) (rest := []) ⟨hx, hb, hml, hown, hT⟩ (c_X6_begin l G cA H.size ua pa Tu P q2  Tu_2 q2_3 hc4) (cwV 1 hT (tq_gV kw_22_2 kw_7_22 kw_7_23 kw_1_23 kw_8_0) rfl rfl rfl dkdV_yX6_begin_1 ⟨Nat.le_of_ble_eq_true rfl, Nat.le_of_ble_eq_true rfl⟩) ⟨(tw_pre pX_ua_pa hP hD hK hN).1, va_recv hK hP (ci := 6) (q0 := 77) rfl rfl, (tw_pre pX_ua_pa hP hD hK hN).2⟩ rfl rfl hl.1 rfl (lv_room (Nat.le_of_ble_eq_true rfl)) dX7_agreesIfIn_8 ⟨Nat.le_of_ble_eq_true rfl, Nat.le_of_ble_eq_true rfl⟩) (fun _ H locs z5 hP hD hS => ?_)
  replace hP := tw_P pX_ua_pa.symm hP
  replace hD := tw_D pX_ua_pa.symm hD
  have hP : va_P G vwCl (wX cA xa ka ra na ia ua va ca za pa qa X K R P L P2 L2 Tn Ti Tu_2 Tv C Z q0 q1 q2_3 q3 (pa 0) q5) H := hP
  have hD : va_D A (wX cA xa ka ra na ia ua va ca za pa qa X K R P L P2 L2 Tn Ti Tu_2 Tv C Z q0 q1 q2_3 q3 (pa 0) q5) := hD
  refine lv_aload_n hx hb dX7_agreesIfIn_11 rfl (lv_at hl 0 rfl) ?_
  refine va_get (D := G) (ci := 7) (v := .ref (ua 0)) (C := RX7) (T := TX7) (N := 12) hx hb hT ku_7 hown hK hP 0 rfl rfl 5 (by decide) (hT _ kw_2_3) (fun _ h9 => h9) rfl dX7_agreesIfIn_12 ?_
  refine lv_iconst (v := 0) hx hb dX7_agreesIfIn_15 (by decide) ?_
  refine va_put (D := G) (ci := 6) (v := .int 0) (ty := .boolean) (C := RX6) (T := TX6) (N := 20) hx hb hT ku_6 tyX6 tyX6_ok nmX6 hown hK hP hD hS 77 rfl rfl 5 (by decide) (hT _ kw_40_6) (fun _ h9 => h9) rfl (by decide +kernel) rfl rfl (Nat.le_of_ble_eq_true rfl) dX7_agreesIfIn_16 (fun H locs hP hD hS => ?_)
  replace h := tx_lt h
  obtain ⟨Tu_6, eTu_6, h⟩ := h
  rw [sX_ua_f5, eTu_6] at hP hD
  refine lv_aload_n hx hb dX7_agreesIfIn_19 rfl (lv_at hl 0 rfl) ?_
  refine va_get (D := G) (ci := 7) (v := .ref (ua 0)) (C := RX7) (T := TX7) (N := 12) hx hb hT ku_7 hown hK hP 0 rfl rfl 5 (by decide) (hT _ kw_2_3) (fun _ h9 => h9) rfl dX7_agreesIfIn_20 ?_
  refine lv_iconst (v := 1) hx hb dX7_agreesIfIn_23 (by decide) ?_
  refine va_put (D := G) (ci := 6) (v := .int 1) (ty := .boolean) (C := RX6) (T := TX6) (N := 20) hx hb hT ku_6 tyX6 tyX6_ok nmX6 hown hK hP hD hS 77 rfl rfl 6 (by decide) (hT _ kw_46_21) (fun _ h9 => h9) rfl (by decide +kernel) rfl rfl (Nat.le_of_ble_eq_true rfl) dX7_agreesIfIn_24 (fun H locs hP hD hS => ?_)
  replace h := tx_lt h
  obtain ⟨Tu_7, eTu_7, h⟩ := h
  rw [sX_ua_f6, eTu_7] at hP hD
  refine lv_aload_n hx hb dX7_agreesIfIn_27 rfl (lv_at hl 0 rfl) ?_
  refine va_get (D := G) (ci := 7) (v := .ref (ua 0)) (C := RX7) (T := TX7) (N := 12) hx hb hT ku_7 hown hK hP 0 rfl rfl 5 (by decide) (hT _ kw_2_3) (fun _ h9 => h9) rfl dX7_agreesIfIn_28 ?_
  refine lv_iconst (v := 1) hx hb dX7_agreesIfIn_31 (by decide) ?_
  refine va_put (D := G) (ci := 6) (v := .int 1) (ty := .boolean) (C := RX6) (T := TX6) (N := 20) hx hb hT ku_6 tyX6 tyX6_ok nmX6 hown hK hP hD hS 77 rfl rfl 7 (by decide) (hT _ kw_46_22) (fun _ h9 => h9) rfl (by decide +kernel) rfl rfl (Nat.le_of_ble_eq_true rfl) dX7_agreesIfIn_32 (fun H locs hP hD hS => ?_)
  replace h := tx_lt h
  obtain ⟨Tu_8, eTu_8, h⟩ := h
  rw [sX_ua_f7, eTu_8] at hP hD
  refine lv_aload_n hx hb dX7_agreesIfIn_35 rfl (lv_at hl 0 rfl) ?_
  refine va_get (D := G) (ci := 7) (v := .ref (ua 0)) (C := RX7) (T := TX7) (N := 12) hx hb hT ku_7 hown hK hP 0 rfl rfl 5 (by decide) (hT _ kw_2_3) (fun _ h9 => h9) rfl dX7_agreesIfIn_36 ?_
  refine va_get (D := G) (ci := 6) (v := .ref (ua 9)) (C := RX6) (T := TX6) (N := 20) hx hb hT ku_6 hown hK hP 77 rfl rfl 8 (by decide) (hT _ kw_55_23) (fun _ h9 => h9) rfl dX7_agreesIfIn_39 ?_
  refine lv_iload_n hx hb dX7_agreesIfIn_42 rfl (lv_at hl 1 rfl) ?_
  refine lv_iload_n hx hb dX7_agreesIfIn_43 rfl (lv_at hl 2 rfl) ?_
  replace h := tx_ck h
  obtain ⟨g9, h⟩ := h
  refine va_iast (i := x1) hx hb hK hP hD hS 78 0 rfl rfl (tx_in g9) dX7_agreesIfIn_44 (fun H locs hP hD hS => ?_)
  replace h := tx_lt h
  obtain ⟨Tu_10, eTu_10, h⟩ := h
  rw [sX_ua_a8, eTu_10] at hP hD
  refine lv_iconst (v := 0) hx hb dX7_agreesIfIn_45 (by decide) ?_
  refine lv_istore_n (lv' := [(3, .int 0), (0, .ref (xa 0)), (1, .int x1), (2, .int x2)]) hx hb dX7_agreesIfIn_46 rfl hl (by decide) rfl (fun ls hl => ?_)
  exact w_X7_agreesIfIn_L47 F 2000 0 L Tu_10 H locs ls h hP hD hS (lv_sub hl [1, 0] rfl)
abbrev G_X6_copy (p : Program) (l : Launch) (e : Env) (s : State) (m : MethodId) (below : List Frame) (meth : Method) (c : Code) (G : va_G) (cA : Nat → ClassId) (A : Nat → Prop) (ta : Nat → Nat) (tb : Nat → Nat) (T2 : Tr) (q2 : Nat) (T' : Tr) (q' : Nat) (H : Heap) (locs : List Loc) (g : JFrame) : Prop := W p l e (headSpec (.code yX6_copy cX6_copy 2 none :: T0) ({ frames := 1, cells := 0, slots := 0, locals := 40 } : Room)).room s m ([.ref (ta 0), .ref (tb 0)] : List Value).toArray below meth c H locs 0 0 (MQ below (tqQv G cA (fun (_ : Unit) => True) (fun (_ : Unit) => wTT cA ta tb (T') T2 (q') q2) A) ([.ref (ta 0), .ref (tb 0)] : List Value).toArray s 0 0 A) g
set_option maxHeartbeats 4000000 in
set_option maxRecDepth 100000 in
theorem c_X6_copy (l : Launch) (G : va_G) (cA : Nat → ClassId) (sz : Nat) (ta : Nat → Nat) (tb : Nat → Nat) (T : Tr) (T2 : Tr) (q : Nat) (q2 : Nat)  (T' : Tr) (q' : Nat) (h : f_X6_copy T T2 q q2 = some (T', q')) : Met l yX6_copy (.code yX6_copy cX6_copy 2 none :: T0) ({ frames := 1, cells := 0, slots := 0, locals := 40 } : Room) (tqP G cA [.ref (ta 0), .ref (tb 0)] (wTT cA ta tb T T2 q q2) sz) (tqQv G cA (fun (_ : Unit) => True) (fun (_ : Unit) => wTT cA ta tb (T') T2 (q') q2) (va_A (wTT cA ta tb T T2 q q2) sz)) 0 0 (va_A (wTT cA ta tb T T2 q q2) sz) := by
  refine Met.ofW (cc := cX6_copy) (maxL := 2) (ret := none) (by decide) rfl ?_
  intro p e s m args below meth c s₁ B hml hv
  obtain ⟨rfl, hsz, hP, hK, hD0, hN⟩ := hv
  have hx := B.exec
  have hb := B.bytes
  have hr := B.returns
  have hts := atoms_spec (ws := .code yX6_copy cX6_copy 2 none :: T0) B.pre
  have hT : ∀ w ∈ T0, w.before _ s = true := fun w h => hts w (List.mem_cons_of_mem _ h)
  have hown : s.vm.findClass RX6 = some m.cls := findClass_of_methodNamed B.named
  have hlocks := B.notSynchronized
  subst hsz
  have hD := hD0.self (sz := s.heap.size)
  generalize hAe : va_A (wTT cA ta tb T T2 q q2) s.heap.size = A at hD ⊢
  have hA : ∀ q : Nat, s.heap.size ≤ q → A q := fun q h => by rw [← hAe]; exact Or.inr h
  have hS : va_S A s.heap s.heap [] := va_S.rf
  have hl := lv_entry ([.ref (ta 0), .ref (tb 0)]) (n := 2) (Nat.le_of_ble_eq_true rfl)
  rw [lg_entry_eq]
  generalize (lg_sl ([.ref (ta 0), .ref (tb 0)]) ++ List.replicate (2 - (lg_sl ([.ref (ta 0), .ref (tb 0)])).length) Slot.unset).toArray = ls at hl ⊢
  have hl : lv_has ls 2 [(0, .ref (ta 0)), (1, .ref (tb 0))] := hl
  have F : tF p s m ([.ref (ta 0), .ref (tb 0)] : List Value).toArray meth c G cA A RX6 cX6_copy 2 none := ⟨hx, hb, hr, hml, hT, hown, hlocks, hK, hN, hA⟩
  obtain ⟨H, hH⟩ : ∃ z, z = s.heap := ⟨_, rfl⟩
  rw [← hH] at hP
  have hS : va_S A s.heap H [] := by rw [hH]; exact hS
  suffices hgo : G_X6_copy p l e s m below meth c G cA A ta tb T2 q2 T' q' H [] (F0 m 0 ls []) by rw [hH] at hgo; exact hgo
  generalize ([] : List Loc) = locs at hS ⊢
  unfold f_X6_copy at h
  refine lv_aload_n hx hb dX6_copy_0 rfl (lv_at hl 0 rfl) ?_
  refine lv_aload_n hx hb dX6_copy_1 rfl (lv_at hl 1 rfl) ?_
  refine va_get (D := G) (ci := 6) (v := .ref q2) (C := RX6) (T := TX6) (N := 20) hx hb hT ku_6 hown hK hP 12 rfl rfl 19 (by decide) (hT _ kw_8_1) (fun _ h9 => h9) rfl dX6_copy_2 ?_
  refine va_put (D := G) (ci := 6) (v := .ref q2) (ty := (.object "RackTrain$Plan")) (C := RX6) (T := TX6) (N := 20) hx hb hT ku_6 tyX6 tyX6_ok nmX6 hown hK hP hD hS 0 rfl rfl 19 (by decide) (hT _ kw_8_1) (fun _ h9 => h9) rfl (by decide +kernel) rfl rfl (Nat.le_of_ble_eq_true rfl) dX6_copy_5 (fun H locs hP hD hS => ?_)
  rw [sTT_ta_r19] at hP hD
  refine lv_aload_n hx hb dX6_copy_8 rfl (lv_at hl 0 rfl) ?_
  refine lv_aload_n hx hb dX6_copy_9 rfl (lv_at hl 1 rfl) ?_
  refine va_get (D := G) (ci := 6) (v := .int (T2 0 0)) (C := RX6) (T := TX6) (N := 20) hx hb hT ku_6 hown hK hP 12 rfl rfl 0 (by decide) (hT _ kw_8_2) (fun _ h9 => h9) rfl dX6_copy_10 ?_
  refine va_put (D := G) (ci := 6) (v := .int (T2 0 0)) (ty := .int) (C := RX6) (T := TX6) (N := 20) hx hb hT ku_6 tyX6 tyX6_ok nmX6 hown hK hP hD hS 0 rfl rfl 0 (by decide) (hT _ kw_8_2) (fun _ h9 => h9) rfl (by decide +kernel) rfl rfl (Nat.le_of_ble_eq_true rfl) dX6_copy_13 (fun H locs hP hD hS => ?_)
  obtain ⟨T_1, eT_1, h⟩ := tx_lt h
  rw [sTT_ta_f0, eT_1] at hP hD
  refine lv_aload_n hx hb dX6_copy_16 rfl (lv_at hl 0 rfl) ?_
  refine lv_aload_n hx hb dX6_copy_17 rfl (lv_at hl 1 rfl) ?_
  refine va_get (D := G) (ci := 6) (v := .int (T2 0 1)) (C := RX6) (T := TX6) (N := 20) hx hb hT ku_6 hown hK hP 12 rfl rfl 1 (by decide) (hT _ kw_8_3) (fun _ h9 => h9) rfl dX6_copy_18 ?_
  refine va_put (D := G) (ci := 6) (v := .int (T2 0 1)) (ty := .int) (C := RX6) (T := TX6) (N := 20) hx hb hT ku_6 tyX6 tyX6_ok nmX6 hown hK hP hD hS 0 rfl rfl 1 (by decide) (hT _ kw_8_3) (fun _ h9 => h9) rfl (by decide +kernel) rfl rfl (Nat.le_of_ble_eq_true rfl) dX6_copy_21 (fun H locs hP hD hS => ?_)
  obtain ⟨T_2, eT_2, h⟩ := tx_lt h
  rw [sTT_ta_f1, eT_2] at hP hD
  refine lv_aload_n hx hb dX6_copy_24 rfl (lv_at hl 0 rfl) ?_
  refine lv_aload_n hx hb dX6_copy_25 rfl (lv_at hl 1 rfl) ?_
  refine va_get (D := G) (ci := 6) (v := .int (T2 0 2)) (C := RX6) (T := TX6) (N := 20) hx hb hT ku_6 hown hK hP 12 rfl rfl 2 (by decide) (hT _ kw_8_5) (fun _ h9 => h9) rfl dX6_copy_26 ?_
  refine va_put (D := G) (ci := 6) (v := .int (T2 0 2)) (ty := .int) (C := RX6) (T := TX6) (N := 20) hx hb hT ku_6 tyX6 tyX6_ok nmX6 hown hK hP hD hS 0 rfl rfl 2 (by decide) (hT _ kw_8_5) (fun _ h9 => h9) rfl (by decide +kernel) rfl rfl (Nat.le_of_ble_eq_true rfl) dX6_copy_29 (fun H locs hP hD hS => ?_)
  obtain ⟨T_3, eT_3, h⟩ := tx_lt h
  rw [sTT_ta_f2, eT_3] at hP hD
  refine lv_aload_n hx hb dX6_copy_32 rfl (lv_at hl 0 rfl) ?_
  refine lv_aload_n hx hb dX6_copy_33 rfl (lv_at hl 1 rfl) ?_
  refine va_get (D := G) (ci := 6) (v := .int (T2 0 3)) (C := RX6) (T := TX6) (N := 20) hx hb hT ku_6 hown hK hP 12 rfl rfl 3 (by decide) (hT _ kw_8_7) (fun _ h9 => h9) rfl dX6_copy_34 ?_
  refine va_put (D := G) (ci := 6) (v := .int (T2 0 3)) (ty := .int) (C := RX6) (T := TX6) (N := 20) hx hb hT ku_6 tyX6 tyX6_ok nmX6 hown hK hP hD hS 0 rfl rfl 3 (by decide) (hT _ kw_8_7) (fun _ h9 => h9) rfl (by decide +kernel) rfl rfl (Nat.le_of_ble_eq_true rfl) dX6_copy_37 (fun H locs hP hD hS => ?_)
  obtain ⟨T_4, eT_4, h⟩ := tx_lt h
  rw [sTT_ta_f3, eT_4] at hP hD
  refine lv_aload_n hx hb dX6_copy_40 rfl (lv_at hl 0 rfl) ?_
  refine lv_aload_n hx hb dX6_copy_41 rfl (lv_at hl 1 rfl) ?_
  refine va_get (D := G) (ci := 6) (v := .int (T2 0 4)) (C := RX6) (T := TX6) (N := 20) hx hb hT ku_6 hown hK hP 12 rfl rfl 4 (by decide) (hT _ kw_8_9) (fun _ h9 => h9) rfl dX6_copy_42 ?_
  refine va_put (D := G) (ci := 6) (v := .int (T2 0 4)) (ty := .int) (C := RX6) (T := TX6) (N := 20) hx hb hT ku_6 tyX6 tyX6_ok nmX6 hown hK hP hD hS 0 rfl rfl 4 (by decide) (hT _ kw_8_9) (fun _ h9 => h9) rfl (by decide +kernel) rfl rfl (Nat.le_of_ble_eq_true rfl) dX6_copy_45 (fun H locs hP hD hS => ?_)
  obtain ⟨T_5, eT_5, h⟩ := tx_lt h
  rw [sTT_ta_f4, eT_5] at hP hD
  refine lv_aload_n hx hb dX6_copy_48 rfl (lv_at hl 1 rfl) ?_
  refine va_get (D := G) (ci := 6) (v := .ref (tb 9)) (C := RX6) (T := TX6) (N := 20) hx hb hT ku_6 hown hK hP 12 rfl rfl 8 (by decide) (hT _ kw_7_7) (fun _ h9 => h9) rfl dX6_copy_49 ?_
  refine lv_iconst (v := 0) hx hb dX6_copy_52 (by decide) ?_
  refine lv_aload_n hx hb dX6_copy_53 rfl (lv_at hl 0 rfl) ?_
  refine va_get (D := G) (ci := 6) (v := .ref (ta 9)) (C := RX6) (T := TX6) (N := 20) hx hb hT ku_6 hown hK hP 0 rfl rfl 8 (by decide) (hT _ kw_7_7) (fun _ h9 => h9) rfl dX6_copy_54 ?_
  refine lv_iconst (v := 0) hx hb dX6_copy_57 (by decide) ?_
  refine lv_bipush (v := 6) hx hb dX6_copy_58 (by decide) ?_
  refine va_copyi (ty := .int) (sp := 0) (dp := 0) (n := 6) hx hb (hml.trans hl.1.symm) hown (hT _ kw_38_10) (hT _ kw_36_15) (hT _ kw_36_16) (hT _ kw_36_17) hK hP hD hS 13 1 0 0 rfl rfl rfl rfl rfl (by decide) (by decide) (by decide) (by decide) (by decide) (fun _ _ => rfl) (Nat.le_of_ble_eq_true rfl) (by decide) dX6_copy_60 (fun H locs hP hD hS => ?_)
  try rw [show (0 : Int32).toNatClampNeg = 0 from rfl] at hP hD
  try rw [show (0 : Int32).toNatClampNeg = 0 from rfl] at hP hD
  try rw [show (6 : Int32).toNatClampNeg = 6 from rfl] at hP hD
  obtain ⟨T_6, eT_6, h⟩ := tx_lt h
  rw [sTT_ta_c8, eT_6] at hP hD
  refine lv_aload_n hx hb dX6_copy_63 rfl (lv_at hl 1 rfl) ?_
  refine va_get (D := G) (ci := 6) (v := .ref (tb 10)) (C := RX6) (T := TX6) (N := 20) hx hb hT ku_6 hown hK hP 12 rfl rfl 9 (by decide) (hT _ kw_7_8) (fun _ h9 => h9) rfl dX6_copy_64 ?_
  refine lv_iconst (v := 0) hx hb dX6_copy_67 (by decide) ?_
  refine lv_aload_n hx hb dX6_copy_68 rfl (lv_at hl 0 rfl) ?_
  refine va_get (D := G) (ci := 6) (v := .ref (ta 10)) (C := RX6) (T := TX6) (N := 20) hx hb hT ku_6 hown hK hP 0 rfl rfl 9 (by decide) (hT _ kw_7_8) (fun _ h9 => h9) rfl dX6_copy_69 ?_
  refine lv_iconst (v := 0) hx hb dX6_copy_72 (by decide) ?_
  refine lv_bipush (v := 6) hx hb dX6_copy_73 (by decide) ?_
  refine va_copyi (ty := .int) (sp := 0) (dp := 0) (n := 6) hx hb (hml.trans hl.1.symm) hown (hT _ kw_38_10) (hT _ kw_36_15) (hT _ kw_36_16) (hT _ kw_36_17) hK hP hD hS 14 2 0 0 rfl rfl rfl rfl rfl (by decide) (by decide) (by decide) (by decide) (by decide) (fun _ _ => rfl) (Nat.le_of_ble_eq_true rfl) (by decide) dX6_copy_75 (fun H locs hP hD hS => ?_)
  try rw [show (0 : Int32).toNatClampNeg = 0 from rfl] at hP hD
  try rw [show (0 : Int32).toNatClampNeg = 0 from rfl] at hP hD
  try rw [show (6 : Int32).toNatClampNeg = 6 from rfl] at hP hD
  obtain ⟨T_7, eT_7, h⟩ := tx_lt h
  rw [sTT_ta_c9, eT_7] at hP hD
  refine lv_aload_n hx hb dX6_copy_78 rfl (lv_at hl 1 rfl) ?_
  refine va_get (D := G) (ci := 6) (v := .ref (tb 11)) (C := RX6) (T := TX6) (N := 20) hx hb hT ku_6 hown hK hP 12 rfl rfl 10 (by decide) (hT _ kw_7_9) (fun _ h9 => h9) rfl dX6_copy_79 ?_
  refine lv_iconst (v := 0) hx hb dX6_copy_82 (by decide) ?_
  refine lv_aload_n hx hb dX6_copy_83 rfl (lv_at hl 0 rfl) ?_
  refine va_get (D := G) (ci := 6) (v := .ref (ta 11)) (C := RX6) (T := TX6) (N := 20) hx hb hT ku_6 hown hK hP 0 rfl rfl 10 (by decide) (hT _ kw_7_9) (fun _ h9 => h9) rfl dX6_copy_84 ?_
  refine lv_iconst (v := 0) hx hb dX6_copy_87 (by decide) ?_
  refine lv_bipush (v := 6) hx hb dX6_copy_88 (by decide) ?_
  refine va_copyi (ty := .int) (sp := 0) (dp := 0) (n := 6) hx hb (hml.trans hl.1.symm) hown (hT _ kw_38_10) (hT _ kw_36_15) (hT _ kw_36_16) (hT _ kw_36_17) hK hP hD hS 15 3 0 0 rfl rfl rfl rfl rfl (by decide) (by decide) (by decide) (by decide) (by decide) (fun _ _ => rfl) (Nat.le_of_ble_eq_true rfl) (by decide) dX6_copy_90 (fun H locs hP hD hS => ?_)
  try rw [show (0 : Int32).toNatClampNeg = 0 from rfl] at hP hD
  try rw [show (0 : Int32).toNatClampNeg = 0 from rfl] at hP hD
  try rw [show (6 : Int32).toNatClampNeg = 6 from rfl] at hP hD
  obtain ⟨T_8, eT_8, h⟩ := tx_lt h
  rw [sTT_ta_c10, eT_8] at hP hD
  refine lv_aload_n hx hb dX6_copy_93 rfl (lv_at hl 1 rfl) ?_
  refine va_get (D := G) (ci := 6) (v := .ref (tb 12)) (C := RX6) (T := TX6) (N := 20) hx hb hT ku_6 hown hK hP 12 rfl rfl 11 (by decide) (hT _ kw_7_10) (fun _ h9 => h9) rfl dX6_copy_94 ?_
  refine lv_iconst (v := 0) hx hb dX6_copy_97 (by decide) ?_
  refine lv_aload_n hx hb dX6_copy_98 rfl (lv_at hl 0 rfl) ?_
  refine va_get (D := G) (ci := 6) (v := .ref (ta 12)) (C := RX6) (T := TX6) (N := 20) hx hb hT ku_6 hown hK hP 0 rfl rfl 11 (by decide) (hT _ kw_7_10) (fun _ h9 => h9) rfl dX6_copy_99 ?_
  refine lv_iconst (v := 0) hx hb dX6_copy_102 (by decide) ?_
  refine lv_bipush (v := 6) hx hb dX6_copy_103 (by decide) ?_
  refine va_copyi (ty := .int) (sp := 0) (dp := 0) (n := 6) hx hb (hml.trans hl.1.symm) hown (hT _ kw_38_10) (hT _ kw_36_15) (hT _ kw_36_16) (hT _ kw_36_17) hK hP hD hS 16 4 0 0 rfl rfl rfl rfl rfl (by decide) (by decide) (by decide) (by decide) (by decide) (fun _ _ => rfl) (Nat.le_of_ble_eq_true rfl) (by decide) dX6_copy_105 (fun H locs hP hD hS => ?_)
  try rw [show (0 : Int32).toNatClampNeg = 0 from rfl] at hP hD
  try rw [show (0 : Int32).toNatClampNeg = 0 from rfl] at hP hD
  try rw [show (6 : Int32).toNatClampNeg = 6 from rfl] at hP hD
  obtain ⟨T_9, eT_9, h⟩ := tx_lt h
  rw [sTT_ta_c11, eT_9] at hP hD
  refine lv_aload_n hx hb dX6_copy_108 rfl (lv_at hl 1 rfl) ?_
  refine va_get (D := G) (ci := 6) (v := .ref (tb 13)) (C := RX6) (T := TX6) (N := 20) hx hb hT ku_6 hown hK hP 12 rfl rfl 12 (by decide) (hT _ kw_7_11) (fun _ h9 => h9) rfl dX6_copy_109 ?_
  refine lv_iconst (v := 0) hx hb dX6_copy_112 (by decide) ?_
  refine lv_aload_n hx hb dX6_copy_113 rfl (lv_at hl 0 rfl) ?_
  refine va_get (D := G) (ci := 6) (v := .ref (ta 13)) (C := RX6) (T := TX6) (N := 20) hx hb hT ku_6 hown hK hP 0 rfl rfl 12 (by decide) (hT _ kw_7_11) (fun _ h9 => h9) rfl dX6_copy_114 ?_
  refine lv_iconst (v := 0) hx hb dX6_copy_117 (by decide) ?_
  refine lv_bipush (v := 10) hx hb dX6_copy_118 (by decide) ?_
  refine va_copyi (ty := .int) (sp := 0) (dp := 0) (n := 10) hx hb (hml.trans hl.1.symm) hown (hT _ kw_38_10) (hT _ kw_36_15) (hT _ kw_36_16) (hT _ kw_36_17) hK hP hD hS 17 5 0 0 rfl rfl rfl rfl rfl (by decide) (by decide) (by decide) (by decide) (by decide) (fun _ _ => rfl) (Nat.le_of_ble_eq_true rfl) (by decide) dX6_copy_120 (fun H locs hP hD hS => ?_)
  try rw [show (0 : Int32).toNatClampNeg = 0 from rfl] at hP hD
  try rw [show (0 : Int32).toNatClampNeg = 0 from rfl] at hP hD
  try rw [show (10 : Int32).toNatClampNeg = 10 from rfl] at hP hD
  obtain ⟨T_10, eT_10, h⟩ := tx_lt h
  rw [sTT_ta_c12, eT_10] at hP hD
  refine lv_aload_n hx hb dX6_copy_123 rfl (lv_at hl 1 rfl) ?_
  refine va_get (D := G) (ci := 6) (v := .ref (tb 14)) (C := RX6) (T := TX6) (N := 20) hx hb hT ku_6 hown hK hP 12 rfl rfl 13 (by decide) (hT _ kw_7_12) (fun _ h9 => h9) rfl dX6_copy_124 ?_
  refine lv_iconst (v := 0) hx hb dX6_copy_127 (by decide) ?_
  refine lv_aload_n hx hb dX6_copy_128 rfl (lv_at hl 0 rfl) ?_
  refine va_get (D := G) (ci := 6) (v := .ref (ta 14)) (C := RX6) (T := TX6) (N := 20) hx hb hT ku_6 hown hK hP 0 rfl rfl 13 (by decide) (hT _ kw_7_12) (fun _ h9 => h9) rfl dX6_copy_129 ?_
  refine lv_iconst (v := 0) hx hb dX6_copy_132 (by decide) ?_
  refine lv_bipush (v := 10) hx hb dX6_copy_133 (by decide) ?_
  refine va_copyi (ty := .int) (sp := 0) (dp := 0) (n := 10) hx hb (hml.trans hl.1.symm) hown (hT _ kw_38_10) (hT _ kw_36_15) (hT _ kw_36_16) (hT _ kw_36_17) hK hP hD hS 18 6 0 0 rfl rfl rfl rfl rfl (by decide) (by decide) (by decide) (by decide) (by decide) (fun _ _ => rfl) (Nat.le_of_ble_eq_true rfl) (by decide) dX6_copy_135 (fun H locs hP hD hS => ?_)
  try rw [show (0 : Int32).toNatClampNeg = 0 from rfl] at hP hD
  try rw [show (0 : Int32).toNatClampNeg = 0 from rfl] at hP hD
  try rw [show (10 : Int32).toNatClampNeg = 10 from rfl] at hP hD
  obtain ⟨T_11, eT_11, h⟩ := tx_lt h
  rw [sTT_ta_c13, eT_11] at hP hD
  refine lv_aload_n hx hb dX6_copy_138 rfl (lv_at hl 1 rfl) ?_
  refine va_get (D := G) (ci := 6) (v := .ref (tb 15)) (C := RX6) (T := TX6) (N := 20) hx hb hT ku_6 hown hK hP 12 rfl rfl 14 (by decide) (hT _ kw_7_13) (fun _ h9 => h9) rfl dX6_copy_139 ?_
  refine lv_iconst (v := 0) hx hb dX6_copy_142 (by decide) ?_
  refine lv_aload_n hx hb dX6_copy_143 rfl (lv_at hl 0 rfl) ?_
  refine va_get (D := G) (ci := 6) (v := .ref (ta 15)) (C := RX6) (T := TX6) (N := 20) hx hb hT ku_6 hown hK hP 0 rfl rfl 14 (by decide) (hT _ kw_7_13) (fun _ h9 => h9) rfl dX6_copy_144 ?_
  refine lv_iconst (v := 0) hx hb dX6_copy_147 (by decide) ?_
  refine lv_bipush (v := 10) hx hb dX6_copy_148 (by decide) ?_
  refine va_copyi (ty := .int) (sp := 0) (dp := 0) (n := 10) hx hb (hml.trans hl.1.symm) hown (hT _ kw_38_10) (hT _ kw_36_15) (hT _ kw_36_16) (hT _ kw_36_17) hK hP hD hS 19 7 0 0 rfl rfl rfl rfl rfl (by decide) (by decide) (by decide) (by decide) (by decide) (fun _ _ => rfl) (Nat.le_of_ble_eq_true rfl) (by decide) dX6_copy_150 (fun H locs hP hD hS => ?_)
  try rw [show (0 : Int32).toNatClampNeg = 0 from rfl] at hP hD
  try rw [show (0 : Int32).toNatClampNeg = 0 from rfl] at hP hD
  try rw [show (10 : Int32).toNatClampNeg = 10 from rfl] at hP hD
  obtain ⟨T_12, eT_12, h⟩ := tx_lt h
  rw [sTT_ta_c14, eT_12] at hP hD
  refine lv_aload_n hx hb dX6_copy_153 rfl (lv_at hl 1 rfl) ?_
  refine va_get (D := G) (ci := 6) (v := .ref (tb 16)) (C := RX6) (T := TX6) (N := 20) hx hb hT ku_6 hown hK hP 12 rfl rfl 15 (by decide) (hT _ kw_7_14) (fun _ h9 => h9) rfl dX6_copy_154 ?_
  refine lv_iconst (v := 0) hx hb dX6_copy_157 (by decide) ?_
  refine lv_aload_n hx hb dX6_copy_158 rfl (lv_at hl 0 rfl) ?_
  refine va_get (D := G) (ci := 6) (v := .ref (ta 16)) (C := RX6) (T := TX6) (N := 20) hx hb hT ku_6 hown hK hP 0 rfl rfl 15 (by decide) (hT _ kw_7_14) (fun _ h9 => h9) rfl dX6_copy_159 ?_
  refine lv_iconst (v := 0) hx hb dX6_copy_162 (by decide) ?_
  refine lv_bipush (v := 50) hx hb dX6_copy_163 (by decide) ?_
  refine va_copyi (ty := .int) (sp := 0) (dp := 0) (n := 50) hx hb (hml.trans hl.1.symm) hown (hT _ kw_38_10) (hT _ kw_36_15) (hT _ kw_36_16) (hT _ kw_36_17) hK hP hD hS 20 8 0 0 rfl rfl rfl rfl rfl (by decide) (by decide) (by decide) (by decide) (by decide) (fun _ _ => rfl) (Nat.le_of_ble_eq_true rfl) (by decide) dX6_copy_165 (fun H locs hP hD hS => ?_)
  try rw [show (0 : Int32).toNatClampNeg = 0 from rfl] at hP hD
  try rw [show (0 : Int32).toNatClampNeg = 0 from rfl] at hP hD
  try rw [show (50 : Int32).toNatClampNeg = 50 from rfl] at hP hD
  obtain ⟨T_13, eT_13, h⟩ := tx_lt h
  rw [sTT_ta_c15, eT_13] at hP hD
  refine lv_aload_n hx hb dX6_copy_168 rfl (lv_at hl 1 rfl) ?_
  refine va_get (D := G) (ci := 6) (v := .ref (tb 17)) (C := RX6) (T := TX6) (N := 20) hx hb hT ku_6 hown hK hP 12 rfl rfl 16 (by decide) (hT _ kw_7_15) (fun _ h9 => h9) rfl dX6_copy_169 ?_
  refine lv_iconst (v := 0) hx hb dX6_copy_172 (by decide) ?_
  refine lv_aload_n hx hb dX6_copy_173 rfl (lv_at hl 0 rfl) ?_
  refine va_get (D := G) (ci := 6) (v := .ref (ta 17)) (C := RX6) (T := TX6) (N := 20) hx hb hT ku_6 hown hK hP 0 rfl rfl 16 (by decide) (hT _ kw_7_15) (fun _ h9 => h9) rfl dX6_copy_174 ?_
  refine lv_iconst (v := 0) hx hb dX6_copy_177 (by decide) ?_
  refine lv_iconst (v := 5) hx hb dX6_copy_178 (by decide) ?_
  refine va_copyi (ty := .int) (sp := 0) (dp := 0) (n := 5) hx hb (hml.trans hl.1.symm) hown (hT _ kw_38_10) (hT _ kw_36_15) (hT _ kw_36_16) (hT _ kw_36_17) hK hP hD hS 21 9 0 0 rfl rfl rfl rfl rfl (by decide) (by decide) (by decide) (by decide) (by decide) (fun _ _ => rfl) (Nat.le_of_ble_eq_true rfl) (by decide) dX6_copy_179 (fun H locs hP hD hS => ?_)
  try rw [show (0 : Int32).toNatClampNeg = 0 from rfl] at hP hD
  try rw [show (0 : Int32).toNatClampNeg = 0 from rfl] at hP hD
  try rw [show (5 : Int32).toNatClampNeg = 5 from rfl] at hP hD
  obtain ⟨T_14, eT_14, h⟩ := tx_lt h
  rw [sTT_ta_c16, eT_14] at hP hD
  refine lv_aload_n hx hb dX6_copy_182 rfl (lv_at hl 1 rfl) ?_
  refine va_get (D := G) (ci := 6) (v := .ref (tb 18)) (C := RX6) (T := TX6) (N := 20) hx hb hT ku_6 hown hK hP 12 rfl rfl 17 (by decide) (hT _ kw_7_16) (fun _ h9 => h9) rfl dX6_copy_183 ?_
  refine lv_iconst (v := 0) hx hb dX6_copy_186 (by decide) ?_
  refine lv_aload_n hx hb dX6_copy_187 rfl (lv_at hl 0 rfl) ?_
  refine va_get (D := G) (ci := 6) (v := .ref (ta 18)) (C := RX6) (T := TX6) (N := 20) hx hb hT ku_6 hown hK hP 0 rfl rfl 17 (by decide) (hT _ kw_7_16) (fun _ h9 => h9) rfl dX6_copy_188 ?_
  refine lv_iconst (v := 0) hx hb dX6_copy_191 (by decide) ?_
  refine lv_iconst (v := 5) hx hb dX6_copy_192 (by decide) ?_
  refine va_copyi (ty := .int) (sp := 0) (dp := 0) (n := 5) hx hb (hml.trans hl.1.symm) hown (hT _ kw_38_10) (hT _ kw_36_15) (hT _ kw_36_16) (hT _ kw_36_17) hK hP hD hS 22 10 0 0 rfl rfl rfl rfl rfl (by decide) (by decide) (by decide) (by decide) (by decide) (fun _ _ => rfl) (Nat.le_of_ble_eq_true rfl) (by decide) dX6_copy_193 (fun H locs hP hD hS => ?_)
  try rw [show (0 : Int32).toNatClampNeg = 0 from rfl] at hP hD
  try rw [show (0 : Int32).toNatClampNeg = 0 from rfl] at hP hD
  try rw [show (5 : Int32).toNatClampNeg = 5 from rfl] at hP hD
  obtain ⟨T_15, eT_15, h⟩ := tx_lt h
  rw [sTT_ta_c17, eT_15] at hP hD
  obtain ⟨rfl, rfl⟩ := tx_2 h
  exact W.vret hx hb hr (fun t ht hW => ⟨⟨(), rfl, trivial, by rw [ht]; exact hP, hD⟩, hS.F ht⟩) hS.2.2 dX6_copy_196
abbrev G_X7_startTrial (p : Program) (l : Launch) (e : Env) (s : State) (m : MethodId) (below : List Frame) (meth : Method) (c : Code) (G : va_G) (cA : Nat → ClassId) (A : Nat → Prop) (xa : Nat → Nat) (ka : Nat → Nat) (ra : Nat → Nat) (na : Nat → Nat) (ia : Nat → Nat) (ua : Nat → Nat) (va : Nat → Nat) (ca : Nat → Nat) (za : Nat → Nat) (pa : Nat → Nat) (qa : Nat → Nat) (X : Tr) (K : Tr) (R : Tr) (P : Tr) (L : Lo) (P2 : Tr) (L2 : Lo) (Tn : Tr) (Ti : Tr) (Tv : Tr) (C : Tr) (Z : Tr) (q0 : Nat) (q1 : Nat) (q3 : Nat) (q4 : Nat) (q5 : Nat) (Tu' : Tr) (q2' : Nat) (H : Heap) (locs : List Loc) (g : JFrame) : Prop := W p l e (headSpec (.code yX7_startTrial cX7_startTrial 1 none :: T0) ({ frames := 2, cells := 0, slots := 0, locals := 61 } : Room)).room s m ([.ref (xa 0)] : List Value).toArray below meth c H locs 0 0 (MQ below (tqQv G cA (fun (_ : Unit) => True) (fun (_ : Unit) => wX cA xa ka ra na ia ua va ca za pa qa X K R P L P2 L2 Tn Ti (Tu') Tv C Z q0 q1 (q2') q3 q4 q5) A) ([.ref (xa 0)] : List Value).toArray s 0 0 A) g
set_option maxHeartbeats 4000000 in
set_option maxRecDepth 100000 in
theorem c_X7_startTrial (l : Launch) (G : va_G) (cA : Nat → ClassId) (sz : Nat) (xa : Nat → Nat) (ka : Nat → Nat) (ra : Nat → Nat) (na : Nat → Nat) (ia : Nat → Nat) (ua : Nat → Nat) (va : Nat → Nat) (ca : Nat → Nat) (za : Nat → Nat) (pa : Nat → Nat) (qa : Nat → Nat) (X : Tr) (K : Tr) (R : Tr) (P : Tr) (L : Lo) (P2 : Tr) (L2 : Lo) (Tn : Tr) (Ti : Tr) (Tu : Tr) (Tv : Tr) (C : Tr) (Z : Tr) (q0 : Nat) (q1 : Nat) (q2 : Nat) (q3 : Nat) (q4 : Nat) (q5 : Nat)  (Tu' : Tr) (q2' : Nat) (h : f_X7_startTrial pa qa Tn Tu q0 q2 = some (Tu', q2')) : Met l yX7_startTrial (.code yX7_startTrial cX7_startTrial 1 none :: T0) ({ frames := 2, cells := 0, slots := 0, locals := 61 } : Room) (tqP G cA [.ref (xa 0)] (wX cA xa ka ra na ia ua va ca za pa qa X K R P L P2 L2 Tn Ti Tu Tv C Z q0 q1 q2 q3 q4 q5) sz) (tqQv G cA (fun (_ : Unit) => True) (fun (_ : Unit) => wX cA xa ka ra na ia ua va ca za pa qa X K R P L P2 L2 Tn Ti (Tu') Tv C Z q0 q1 (q2') q3 q4 q5) (va_A (wX cA xa ka ra na ia ua va ca za pa qa X K R P L P2 L2 Tn Ti Tu Tv C Z q0 q1 q2 q3 q4 q5) sz)) 0 0 (va_A (wX cA xa ka ra na ia ua va ca za pa qa X K R P L P2 L2 Tn Ti Tu Tv C Z q0 q1 q2 q3 q4 q5) sz) := by
  refine Met.ofW (cc := cX7_startTrial) (maxL := 1) (ret := none) (by decide) rfl ?_
  intro p e s m args below meth c s₁ B hml hv
  obtain ⟨rfl, hsz, hP, hK, hD0, hN⟩ := hv
  have hx := B.exec
  have hb := B.bytes
  have hr := B.returns
  have hts := atoms_spec (ws := .code yX7_startTrial cX7_startTrial 1 none :: T0) B.pre
  have hT : ∀ w ∈ T0, w.before _ s = true := fun w h => hts w (List.mem_cons_of_mem _ h)
  have hown : s.vm.findClass RX7 = some m.cls := findClass_of_methodNamed B.named
  have hlocks := B.notSynchronized
  subst hsz
  have hD := hD0.self (sz := s.heap.size)
  generalize hAe : va_A (wX cA xa ka ra na ia ua va ca za pa qa X K R P L P2 L2 Tn Ti Tu Tv C Z q0 q1 q2 q3 q4 q5) s.heap.size = A at hD ⊢
  have hA : ∀ q : Nat, s.heap.size ≤ q → A q := fun q h => by rw [← hAe]; exact Or.inr h
  have hS : va_S A s.heap s.heap [] := va_S.rf
  have hl := lv_entry ([.ref (xa 0)]) (n := 1) (Nat.le_of_ble_eq_true rfl)
  rw [lg_entry_eq]
  generalize (lg_sl ([.ref (xa 0)]) ++ List.replicate (1 - (lg_sl ([.ref (xa 0)])).length) Slot.unset).toArray = ls at hl ⊢
  have hl : lv_has ls 1 [(0, .ref (xa 0))] := hl
  have F : tF p s m ([.ref (xa 0)] : List Value).toArray meth c G cA A RX7 cX7_startTrial 1 none := ⟨hx, hb, hr, hml, hT, hown, hlocks, hK, hN, hA⟩
  obtain ⟨H, hH⟩ : ∃ z, z = s.heap := ⟨_, rfl⟩
  rw [← hH] at hP
  have hS : va_S A s.heap H [] := by rw [hH]; exact hS
  suffices hgo : G_X7_startTrial p l e s m below meth c G cA A xa ka ra na ia ua va ca za pa qa X K R P L P2 L2 Tn Ti Tv C Z q0 q1 q3 q4 q5 Tu' q2' H [] (F0 m 0 ls []) by rw [hH] at hgo; exact hgo
  generalize ([] : List Loc) = locs at hS ⊢
  unfold f_X7_startTrial at h
  refine lv_aload_n hx hb dX7_startTrial_0 rfl (lv_at hl 0 rfl) ?_
  refine va_get (D := G) (ci := 7) (v := .ref (ua 0)) (C := RX7) (T := TX7) (N := 12) hx hb hT ku_7 hown hK hP 0 rfl rfl 5 (by decide) (hT _ kw_2_3) (fun _ h9 => h9) rfl dX7_startTrial_1 ?_
  refine lv_aload_n hx hb dX7_startTrial_4 rfl (lv_at hl 0 rfl) ?_
  refine va_get (D := G) (ci := 7) (v := .ref (na 0)) (C := RX7) (T := TX7) (N := 12) hx hb hT ku_7 hown hK hP 0 rfl rfl 2 (by decide) (hT _ kw_2_0) (fun _ h9 => h9) rfl dX7_startTrial_5 ?_
  replace h := tx_bd h
  obtain ⟨⟨Tu_1, q2_2⟩, hc3, h⟩ := h
  replace h := tx_let (y := Tu_1) rfl h
  replace h := tx_let (y := q2_2) rfl h
  refine tw_cv pX_ua_na hP hD hS hA (va_runV (As := [.ref (na 0)]) (rest := []) ⟨hx, hb, hml, hown, hT⟩ (c_X6_copy l G cA H.size ua na Tu Tn q2 q0  Tu_1 q2_2 hc3) (cwV 1 hT (tq_gV kw_38_6 kw_38_7 kw_38_8 kw_1_23 kw_38_9) rfl rfl rfl dkdV_yX6_copy_1 ⟨Nat.le_of_ble_eq_true rfl, Nat.le_of_ble_eq_true rfl⟩) ⟨(tw_pre pX_ua_na hP hD hK hN).1, va_recv hK hP (ci := 6) (q0 := 77) rfl rfl, (tw_pre pX_ua_na hP hD hK hN).2⟩ rfl rfl hl.1 rfl (lv_room (Nat.le_of_ble_eq_true rfl)) dX7_startTrial_8 ⟨Nat.le_of_ble_eq_true rfl, Nat.le_of_ble_eq_true rfl⟩) (fun _ H locs z4 hP hD hS => ?_)
  replace hP := tw_P pX_ua_na.symm hP
  replace hD := tw_D pX_ua_na.symm hD
  have hP : va_P G vwCl (wX cA xa ka ra na ia ua va ca za pa qa X K R P L P2 L2 Tn Ti Tu_1 Tv C Z q0 q1 q2_2 q3 q4 q5) H := hP
  have hD : va_D A (wX cA xa ka ra na ia ua va ca za pa qa X K R P L P2 L2 Tn Ti Tu_1 Tv C Z q0 q1 q2_2 q3 q4 q5) := hD
  refine lv_aload_n hx hb dX7_startTrial_11 rfl (lv_at hl 0 rfl) ?_
  refine va_get (D := G) (ci := 7) (v := .ref (ua 0)) (C := RX7) (T := TX7) (N := 12) hx hb hT ku_7 hown hK hP 0 rfl rfl 5 (by decide) (hT _ kw_2_3) (fun _ h9 => h9) rfl dX7_startTrial_12 ?_
  refine lv_iconst (v := 0) hx hb dX7_startTrial_15 (by decide) ?_
  refine va_put (D := G) (ci := 6) (v := .int 0) (ty := .boolean) (C := RX6) (T := TX6) (N := 20) hx hb hT ku_6 tyX6 tyX6_ok nmX6 hown hK hP hD hS 77 rfl rfl 5 (by decide) (hT _ kw_40_6) (fun _ h9 => h9) rfl (by decide +kernel) rfl rfl (Nat.le_of_ble_eq_true rfl) dX7_startTrial_16 (fun H locs hP hD hS => ?_)
  replace h := tx_lt h
  obtain ⟨Tu_5, eTu_5, h⟩ := h
  rw [sX_ua_f5, eTu_5] at hP hD
  refine lv_aload_n hx hb dX7_startTrial_19 rfl (lv_at hl 0 rfl) ?_
  refine va_get (D := G) (ci := 7) (v := .ref (ua 0)) (C := RX7) (T := TX7) (N := 12) hx hb hT ku_7 hown hK hP 0 rfl rfl 5 (by decide) (hT _ kw_2_3) (fun _ h9 => h9) rfl dX7_startTrial_20 ?_
  refine lv_iconst (v := 1) hx hb dX7_startTrial_23 (by decide) ?_
  refine va_put (D := G) (ci := 6) (v := .int 1) (ty := .boolean) (C := RX6) (T := TX6) (N := 20) hx hb hT ku_6 tyX6 tyX6_ok nmX6 hown hK hP hD hS 77 rfl rfl 6 (by decide) (hT _ kw_46_21) (fun _ h9 => h9) rfl (by decide +kernel) rfl rfl (Nat.le_of_ble_eq_true rfl) dX7_startTrial_24 (fun H locs hP hD hS => ?_)
  replace h := tx_lt h
  obtain ⟨Tu_6, eTu_6, h⟩ := h
  rw [sX_ua_f6, eTu_6] at hP hD
  refine lv_aload_n hx hb dX7_startTrial_27 rfl (lv_at hl 0 rfl) ?_
  refine va_get (D := G) (ci := 7) (v := .ref (ua 0)) (C := RX7) (T := TX7) (N := 12) hx hb hT ku_7 hown hK hP 0 rfl rfl 5 (by decide) (hT _ kw_2_3) (fun _ h9 => h9) rfl dX7_startTrial_28 ?_
  refine lv_iconst (v := 1) hx hb dX7_startTrial_31 (by decide) ?_
  refine va_put (D := G) (ci := 6) (v := .int 1) (ty := .boolean) (C := RX6) (T := TX6) (N := 20) hx hb hT ku_6 tyX6 tyX6_ok nmX6 hown hK hP hD hS 77 rfl rfl 7 (by decide) (hT _ kw_46_22) (fun _ h9 => h9) rfl (by decide +kernel) rfl rfl (Nat.le_of_ble_eq_true rfl) dX7_startTrial_32 (fun H locs hP hD hS => ?_)
  replace h := tx_lt h
  obtain ⟨Tu_7, eTu_7, h⟩ := h
  rw [sX_ua_f7, eTu_7] at hP hD
  obtain ⟨rfl, rfl⟩ := tx_2 h
  exact W.vret hx hb hr (fun t ht hW => ⟨⟨(), rfl, trivial, by rw [ht]; exact hP, hD⟩, hS.F ht⟩) hS.2.2 dX7_startTrial_35
abbrev G_X7_liftsOfTrial (p : Program) (l : Launch) (e : Env) (s : State) (m : MethodId) (below : List Frame) (meth : Method) (c : Code) (G : va_G) (cA : Nat → ClassId) (A : Nat → Prop) (xa : Nat → Nat) (ka : Nat → Nat) (ra : Nat → Nat) (na : Nat → Nat) (ia : Nat → Nat) (ua : Nat → Nat) (va : Nat → Nat) (ca : Nat → Nat) (za : Nat → Nat) (pa : Nat → Nat) (qa : Nat → Nat) (X : Tr) (K : Tr) (R : Tr) (P : Tr) (P2 : Tr) (L2 : Lo) (Tn : Tr) (Ti : Tr) (Tv : Tr) (C : Tr) (Z : Tr) (q0 : Nat) (q1 : Nat) (q2 : Nat) (q3 : Nat) (q4 : Nat) (q5 : Nat) (r0 : Int32) (L' : Lo) (Tu' : Tr) (H : Heap) (locs : List Loc) (g : JFrame) : Prop := W p l e (headSpec (.code yX7_liftsOfTrial cX7_liftsOfTrial 1 (some .int) :: T0) ({ frames := 6, cells := 0, slots := 0, locals := 153 } : Room)).room s m ([.ref (xa 0)] : List Value).toArray below meth c H locs 0 0 (MQ below (tqQi G cA (fun (r : Int32) (_ : Unit) => r = r0) (fun (_ : Unit) => wX cA xa ka ra na ia ua va ca za pa qa X K R P (L') P2 L2 Tn Ti (Tu') Tv C Z q0 q1 q2 q3 q4 q5) A) ([.ref (xa 0)] : List Value).toArray s 0 0 A) g
set_option maxHeartbeats 4000000 in
set_option maxRecDepth 100000 in
theorem c_X7_liftsOfTrial (l : Launch) (G : va_G) (cA : Nat → ClassId) (sz : Nat) (xa : Nat → Nat) (ka : Nat → Nat) (ra : Nat → Nat) (na : Nat → Nat) (ia : Nat → Nat) (ua : Nat → Nat) (va : Nat → Nat) (ca : Nat → Nat) (za : Nat → Nat) (pa : Nat → Nat) (qa : Nat → Nat) (X : Tr) (K : Tr) (R : Tr) (P : Tr) (L : Lo) (P2 : Tr) (L2 : Lo) (Tn : Tr) (Ti : Tr) (Tu : Tr) (Tv : Tr) (C : Tr) (Z : Tr) (q0 : Nat) (q1 : Nat) (q2 : Nat) (q3 : Nat) (q4 : Nat) (q5 : Nat)  (r0 : Int32) (L' : Lo) (Tu' : Tr) (h : f_X7_liftsOfTrial pa qa P L Tn Tu q2 = some (r0, L', Tu')) : Met l yX7_liftsOfTrial (.code yX7_liftsOfTrial cX7_liftsOfTrial 1 (some .int) :: T0) ({ frames := 6, cells := 0, slots := 0, locals := 153 } : Room) (tqP G cA [.ref (xa 0)] (wX cA xa ka ra na ia ua va ca za pa qa X K R P L P2 L2 Tn Ti Tu Tv C Z q0 q1 q2 q3 q4 q5) sz) (tqQi G cA (fun (r : Int32) (_ : Unit) => r = r0) (fun (_ : Unit) => wX cA xa ka ra na ia ua va ca za pa qa X K R P (L') P2 L2 Tn Ti (Tu') Tv C Z q0 q1 q2 q3 q4 q5) (va_A (wX cA xa ka ra na ia ua va ca za pa qa X K R P L P2 L2 Tn Ti Tu Tv C Z q0 q1 q2 q3 q4 q5) sz)) 0 0 (va_A (wX cA xa ka ra na ia ua va ca za pa qa X K R P L P2 L2 Tn Ti Tu Tv C Z q0 q1 q2 q3 q4 q5) sz) := by
  refine Met.ofW (cc := cX7_liftsOfTrial) (maxL := 1) (ret := (some .int)) (by decide) rfl ?_
  intro p e s m args below meth c s₁ B hml hv
  obtain ⟨rfl, hsz, hP, hK, hD0, hN⟩ := hv
  have hx := B.exec
  have hb := B.bytes
  have hr := B.returns
  have hts := atoms_spec (ws := .code yX7_liftsOfTrial cX7_liftsOfTrial 1 (some .int) :: T0) B.pre
  have hT : ∀ w ∈ T0, w.before _ s = true := fun w h => hts w (List.mem_cons_of_mem _ h)
  have hown : s.vm.findClass RX7 = some m.cls := findClass_of_methodNamed B.named
  have hlocks := B.notSynchronized
  subst hsz
  have hD := hD0.self (sz := s.heap.size)
  generalize hAe : va_A (wX cA xa ka ra na ia ua va ca za pa qa X K R P L P2 L2 Tn Ti Tu Tv C Z q0 q1 q2 q3 q4 q5) s.heap.size = A at hD ⊢
  have hA : ∀ q : Nat, s.heap.size ≤ q → A q := fun q h => by rw [← hAe]; exact Or.inr h
  have hS : va_S A s.heap s.heap [] := va_S.rf
  have hl := lv_entry ([.ref (xa 0)]) (n := 1) (Nat.le_of_ble_eq_true rfl)
  rw [lg_entry_eq]
  generalize (lg_sl ([.ref (xa 0)]) ++ List.replicate (1 - (lg_sl ([.ref (xa 0)])).length) Slot.unset).toArray = ls at hl ⊢
  have hl : lv_has ls 1 [(0, .ref (xa 0))] := hl
  have F : tF p s m ([.ref (xa 0)] : List Value).toArray meth c G cA A RX7 cX7_liftsOfTrial 1 (some .int) := ⟨hx, hb, hr, hml, hT, hown, hlocks, hK, hN, hA⟩
  obtain ⟨H, hH⟩ : ∃ z, z = s.heap := ⟨_, rfl⟩
  rw [← hH] at hP
  have hS : va_S A s.heap H [] := by rw [hH]; exact hS
  suffices hgo : G_X7_liftsOfTrial p l e s m below meth c G cA A xa ka ra na ia ua va ca za pa qa X K R P P2 L2 Tn Ti Tv C Z q0 q1 q2 q3 q4 q5 r0 L' Tu' H [] (F0 m 0 ls []) by rw [hH] at hgo; exact hgo
  generalize ([] : List Loc) = locs at hS ⊢
  unfold f_X7_liftsOfTrial at h
  refine lv_aload_n hx hb dX7_liftsOfTrial_0 rfl (lv_at hl 0 rfl) ?_
  refine va_get (D := G) (ci := 7) (v := .ref (ua 0)) (C := RX7) (T := TX7) (N := 12) hx hb hT ku_7 hown hK hP 0 rfl rfl 5 (by decide) (hT _ kw_2_3) (fun _ h9 => h9) rfl dX7_liftsOfTrial_1 ?_
  replace h := tx_ck h
  obtain ⟨g1, h⟩ := h
  have eg1 := of_decide_eq_true g1
  subst eg1
  replace h := tx_bd h
  obtain ⟨⟨Tu_2, L_3⟩, hc4, h⟩ := h
  replace h := tx_let (y := Tu_2) rfl h
  replace h := tx_let (y := L_3) rfl h
  refine tw_cv pX_ua hP hD hS hA (va_runV (As := []) (rest := []) ⟨hx, hb, hml, hown, hT⟩ (c_X6_runToEnd l G cA H.size ua pa Tu P L  Tu_2 L_3 hc4) (cwV 0 hT (tq_gV kw_47_10 kw_47_11 kw_47_12 kw_1_23 kw_47_13) rfl rfl rfl dkdV_yX6_runToEnd_0 ⟨Nat.le_of_ble_eq_true rfl, Nat.le_of_ble_eq_true rfl⟩) ⟨(tw_pre pX_ua hP hD hK hN).1, va_recv hK hP (ci := 6) (q0 := 77) rfl rfl, (tw_pre pX_ua hP hD hK hN).2⟩ rfl rfl hl.1 rfl (lv_room (Nat.le_of_ble_eq_true rfl)) dX7_liftsOfTrial_4 ⟨Nat.le_of_ble_eq_true rfl, Nat.le_of_ble_eq_true rfl⟩) (fun _ H locs z5 hP hD hS => ?_)
  replace hP := tw_P pX_ua.symm hP
  replace hD := tw_D pX_ua.symm hD
  have hP : va_P G vwCl (wX cA xa ka ra na ia ua va ca za pa qa X K R P L_3 P2 L2 Tn Ti Tu_2 Tv C Z q0 q1 (pa 0) q3 q4 q5) H := hP
  have hD : va_D A (wX cA xa ka ra na ia ua va ca za pa qa X K R P L_3 P2 L2 Tn Ti Tu_2 Tv C Z q0 q1 (pa 0) q3 q4 q5) := hD
  refine lv_aload_n hx hb dX7_liftsOfTrial_7 rfl (lv_at hl 0 rfl) ?_
  refine va_get (D := G) (ci := 7) (v := .ref (ua 0)) (C := RX7) (T := TX7) (N := 12) hx hb hT ku_7 hown hK hP 0 rfl rfl 5 (by decide) (hT _ kw_2_3) (fun _ h9 => h9) rfl dX7_liftsOfTrial_8 ?_
  refine va_get (D := G) (ci := 6) (v := .int (Tu_2 0 1)) (C := RX6) (T := TX6) (N := 20) hx hb hT ku_6 hown hK hP 77 rfl rfl 1 (by decide) (hT _ kw_46_16) (fun _ h9 => h9) rfl dX7_liftsOfTrial_11 ?_
  refine lv_aload_n hx hb dX7_liftsOfTrial_14 rfl (lv_at hl 0 rfl) ?_
  refine va_get (D := G) (ci := 7) (v := .ref (na 0)) (C := RX7) (T := TX7) (N := 12) hx hb hT ku_7 hown hK hP 0 rfl rfl 2 (by decide) (hT _ kw_2_0) (fun _ h9 => h9) rfl dX7_liftsOfTrial_15 ?_
  refine va_get (D := G) (ci := 6) (v := .int (Tn 0 1)) (C := RX6) (T := TX6) (N := 20) hx hb hT ku_6 hown hK hP 53 rfl rfl 1 (by decide) (hT _ kw_46_16) (fun _ h9 => h9) rfl dX7_liftsOfTrial_18 ?_
  refine lv_isub hx hb dX7_liftsOfTrial_21 ?_
  obtain ⟨rfl, rfl, rfl⟩ := tx_3 h
  exact W.iret hx hb hr (fun t ht hW => ⟨⟨_, (), rfl, rfl, by rw [ht]; exact hP, hD⟩, hS.F ht⟩) hS.2.2 dX7_liftsOfTrial_22
abbrev G_X7_asking (p : Program) (l : Launch) (e : Env) (s : State) (m : MethodId) (below : List Frame) (meth : Method) (c : Code) (G : va_G) (cA : Nat → ClassId) (A : Nat → Prop) (xa : Nat → Nat) (ka : Nat → Nat) (ra : Nat → Nat) (na : Nat → Nat) (ia : Nat → Nat) (ua : Nat → Nat) (va : Nat → Nat) (ca : Nat → Nat) (za : Nat → Nat) (pa : Nat → Nat) (qa : Nat → Nat) (X : Tr) (K : Tr) (R : Tr) (P : Tr) (P2 : Tr) (L2 : Lo) (Tn : Tr) (Ti : Tr) (Tv : Tr) (C : Tr) (Z : Tr) (q0 : Nat) (q1 : Nat) (q3 : Nat) (q4 : Nat) (q5 : Nat) (r0 : Int32) (L' : Lo) (Tu' : Tr) (q2' : Nat) (H : Heap) (locs : List Loc) (g : JFrame) : Prop := W p l e (headSpec (.code yX7_asking cX7_asking 4 (some .int) :: T0) ({ frames := 7, cells := 0, slots := 0, locals := 173 } : Room)).room s m ([.ref (xa 0)] : List Value).toArray below meth c H locs 0 0 (MQ below (tqQi G cA (fun (r : Int32) (_ : Unit) => r = r0) (fun (_ : Unit) => wX cA xa ka ra na ia ua va ca za pa qa X K R P (L') P2 L2 Tn Ti (Tu') Tv C Z q0 q1 (q2') q3 q4 q5) A) ([.ref (xa 0)] : List Value).toArray s 0 0 A) g
set_option maxHeartbeats 4000000 in
set_option maxRecDepth 100000 in
theorem w_X7_asking_J79 {p : Program} {l : Launch} {e : Env} {s : State} {m : MethodId} {below : List Frame} {meth : Method} {c : Code} {G : va_G} {cA : Nat → ClassId} {A : Nat → Prop} {xa : Nat → Nat} {ka : Nat → Nat} {ra : Nat → Nat} {na : Nat → Nat} {ia : Nat → Nat} {ua : Nat → Nat} {va : Nat → Nat} {ca : Nat → Nat} {za : Nat → Nat} {pa : Nat → Nat} {qa : Nat → Nat} {X : Tr} {K : Tr} {R : Tr} {P : Tr} {P2 : Tr} {L2 : Lo} {Tn : Tr} {Ti : Tr} {Tv : Tr} {C : Tr} {Z : Tr} {q0 : Nat} {q1 : Nat} {q3 : Nat} {q4 : Nat} {q5 : Nat} {r0 : Int32} {L' : Lo} {Tu' : Tr} {q2' : Nat} (F : tF p s m ([.ref (xa 0)] : List Value).toArray meth c G cA A RX7 cX7_asking 4 (some .int))    (x1 : Int32) (L : Lo) (Tu : Tr) (q2 : Nat) (H : Heap) (locs : List Loc) (ls : Array Slot) (h : fJ_X7_asking_J79 pa qa P Tn q0 q4 x1 L Tu q2 = some (r0, L', Tu', q2')) (hP : va_P G vwCl (wX cA xa ka ra na ia ua va ca za pa qa X K R P L P2 L2 Tn Ti Tu Tv C Z q0 q1 q2 q3 q4 q5) H) (hD : va_D A (wX cA xa ka ra na ia ua va ca za pa qa X K R P L P2 L2 Tn Ti Tu Tv C Z q0 q1 q2 q3 q4 q5)) (hS : va_S A s.heap H locs) (hl : lv_has ls 4 [(0, .ref (xa 0)), (1, .int x1)]) : G_X7_asking p l e s m below meth c G cA A xa ka ra na ia ua va ca za pa qa X K R P P2 L2 Tn Ti Tv C Z q0 q1 q3 q4 q5 r0 L' Tu' q2' H locs (F0 m 79 ls []) := by
  obtain ⟨hx, hb, hr, hml, hT, hown, hlocks, hK, hN, hA⟩ := id F
  unfold fJ_X7_asking_J79 at h
  refine lv_iload_n hx hb dX7_asking_79 rfl (lv_at hl 1 rfl) ?_
  refine lv_aload_n hx hb dX7_asking_80 rfl (lv_at hl 0 rfl) ?_
  refine va_get (D := G) (ci := 7) (v := .ref (ua 0)) (C := RX7) (T := TX7) (N := 12) hx hb hT ku_7 hown hK hP 0 rfl rfl 5 (by decide) (hT _ kw_2_3) (fun _ h9 => h9) rfl dX7_asking_81 ?_
  refine va_get (D := G) (ci := 6) (v := .int (Tu 0 1)) (C := RX6) (T := TX6) (N := 20) hx hb hT ku_6 hown hK hP 77 rfl rfl 1 (by decide) (hT _ kw_46_16) (fun _ h9 => h9) rfl dX7_asking_84 ?_
  refine lv_aload_n hx hb dX7_asking_87 rfl (lv_at hl 0 rfl) ?_
  refine va_get (D := G) (ci := 7) (v := .ref (na 0)) (C := RX7) (T := TX7) (N := 12) hx hb hT ku_7 hown hK hP 0 rfl rfl 2 (by decide) (hT _ kw_2_0) (fun _ h9 => h9) rfl dX7_asking_88 ?_
  refine va_get (D := G) (ci := 6) (v := .int (Tn 0 1)) (C := RX6) (T := TX6) (N := 20) hx hb hT ku_6 hown hK hP 53 rfl rfl 1 (by decide) (hT _ kw_46_16) (fun _ h9 => h9) rfl dX7_asking_91 ?_
  refine lv_isub hx hb dX7_asking_94 ?_
  refine lv_isub hx hb dX7_asking_95 ?_
  refine lv_topi (fun y16 ey16 => ?_)
  replace h := tx_let ey16 h
  refine lv_istore_n (lv' := [(2, .int y16), (0, .ref (xa 0)), (1, .int x1)]) hx hb dX7_asking_96 rfl hl (by decide) rfl (fun ls hl => ?_)
  refine lv_iload_n hx hb dX7_asking_97 rfl (lv_at hl 0 rfl) ?_
  refine lv_if_ge (tgt := 105) hx hb dX7_asking_98 (by decide) (fun c17 => ?_) (fun c17 => ?_)
  · replace h := tx_pos c17 h
    refine lv_iload_n hx hb dX7_asking_105 rfl (lv_at hl 0 rfl) ?_
    obtain ⟨rfl, rfl, rfl, rfl⟩ := tx_4 h
    exact W.iret hx hb hr (fun t ht hW => ⟨⟨_, (), rfl, rfl, by rw [ht]; exact hP, hD⟩, hS.F ht⟩) hS.2.2 dX7_asking_106
  · replace h := tx_neg c17 h
    refine lv_iconst (v := 0) hx hb dX7_asking_101 (by decide) ?_
    refine lv_goto (tgt := 106) hx hb dX7_asking_102 (by decide) ?_
    obtain ⟨rfl, rfl, rfl, rfl⟩ := tx_4 h
    exact W.iret hx hb hr (fun t ht hW => ⟨⟨_, (), rfl, rfl, by rw [ht]; exact hP, hD⟩, hS.F ht⟩) hS.2.2 dX7_asking_106
set_option maxHeartbeats 4000000 in
set_option maxRecDepth 100000 in
theorem w_X7_asking_J66 {p : Program} {l : Launch} {e : Env} {s : State} {m : MethodId} {below : List Frame} {meth : Method} {c : Code} {G : va_G} {cA : Nat → ClassId} {A : Nat → Prop} {xa : Nat → Nat} {ka : Nat → Nat} {ra : Nat → Nat} {na : Nat → Nat} {ia : Nat → Nat} {ua : Nat → Nat} {va : Nat → Nat} {ca : Nat → Nat} {za : Nat → Nat} {pa : Nat → Nat} {qa : Nat → Nat} {X : Tr} {K : Tr} {R : Tr} {P : Tr} {P2 : Tr} {L2 : Lo} {Tn : Tr} {Ti : Tr} {Tv : Tr} {C : Tr} {Z : Tr} {q0 : Nat} {q1 : Nat} {q3 : Nat} {q4 : Nat} {q5 : Nat} {r0 : Int32} {L' : Lo} {Tu' : Tr} {q2' : Nat} {q2 : Nat} {x1 : Int32} (F : tF p s m ([.ref (xa 0)] : List Value).toArray meth c G cA A RX7 cX7_asking 4 (some .int))  (k21 : Int32 → Lo → Tr → Option (Int32 × Lo × Tr × Nat)) (hk21 : ∀ (x2 : Int32) (L : Lo) (Tu : Tr) (H : Heap) (locs : List Loc) (ls : Array Slot), k21 x2 L Tu = some (r0, L', Tu', q2') → va_P G vwCl (wX cA xa ka ra na ia ua va ca za pa qa X K R P L P2 L2 Tn Ti Tu Tv C Z q0 q1 q2 q3 q4 q5) H → va_D A (wX cA xa ka ra na ia ua va ca za pa qa X K R P L P2 L2 Tn Ti Tu Tv C Z q0 q1 q2 q3 q4 q5) → va_S A s.heap H locs → lv_has ls 4 [(0, .ref (xa 0)), (1, .int x1), (2, .int x2)] → G_X7_asking p l e s m below meth c G cA A xa ka ra na ia ua va ca za pa qa X K R P P2 L2 Tn Ti Tv C Z q0 q1 q3 q4 q5 r0 L' Tu' q2' H locs (F0 m 21 ls [])) (x2 : Int32) (L : Lo) (Tu : Tr) (H : Heap) (locs : List Loc) (ls : Array Slot) (h : fJ_X7_asking_J66 k21 pa qa P Tn q0 q2 q4 x1 x2 L Tu = some (r0, L', Tu', q2')) (hP : va_P G vwCl (wX cA xa ka ra na ia ua va ca za pa qa X K R P L P2 L2 Tn Ti Tu Tv C Z q0 q1 q2 q3 q4 q5) H) (hD : va_D A (wX cA xa ka ra na ia ua va ca za pa qa X K R P L P2 L2 Tn Ti Tu Tv C Z q0 q1 q2 q3 q4 q5)) (hS : va_S A s.heap H locs) (hl : lv_has ls 4 [(0, .ref (xa 0)), (1, .int x1), (2, .int x2)]) : G_X7_asking p l e s m below meth c G cA A xa ka ra na ia ua va ca za pa qa X K R P P2 L2 Tn Ti Tv C Z q0 q1 q3 q4 q5 r0 L' Tu' q2' H locs (F0 m 66 ls []) := by
  obtain ⟨hx, hb, hr, hml, hT, hown, hlocks, hK, hN, hA⟩ := id F
  unfold fJ_X7_asking_J66 at h
  refine lv_aload_n hx hb dX7_asking_66 rfl (lv_at hl 0 rfl) ?_
  refine va_get (D := G) (ci := 7) (v := .ref (ua 0)) (C := RX7) (T := TX7) (N := 12) hx hb hT ku_7 hown hK hP 0 rfl rfl 5 (by decide) (hT _ kw_2_3) (fun _ h9 => h9) rfl dX7_asking_67 ?_
  replace h := tx_ck h
  obtain ⟨g20, h⟩ := h
  have eg20 := of_decide_eq_true g20
  subst eg20
  replace h := tx_bd h
  obtain ⟨⟨Tu_21, L_22⟩, hc23, h⟩ := h
  replace h := tx_let (y := Tu_21) rfl h
  replace h := tx_let (y := L_22) rfl h
  refine tw_cv pX_ua hP hD hS hA (va_runV (As := []) (rest := []) ⟨hx, hb, hml, hown, hT⟩ (c_X6_passStop l G cA H.size ua pa Tu P L  Tu_21 L_22 hc23) (cwV 0 hT (tq_gV kw_40_7 kw_40_8 kw_40_9 kw_1_23 kw_40_10) rfl rfl rfl dkdV_yX6_passStop_0 ⟨Nat.le_of_ble_eq_true rfl, Nat.le_of_ble_eq_true rfl⟩) ⟨(tw_pre pX_ua hP hD hK hN).1, va_recv hK hP (ci := 6) (q0 := 77) rfl rfl, (tw_pre pX_ua hP hD hK hN).2⟩ rfl rfl hl.1 rfl (lv_room (Nat.le_of_ble_eq_true rfl)) dX7_asking_70 ⟨Nat.le_of_ble_eq_true rfl, Nat.le_of_ble_eq_true rfl⟩) (fun _ H locs z24 hP hD hS => ?_)
  replace hP := tw_P pX_ua.symm hP
  replace hD := tw_D pX_ua.symm hD
  have hP : va_P G vwCl (wX cA xa ka ra na ia ua va ca za pa qa X K R P L_22 P2 L2 Tn Ti Tu_21 Tv C Z q0 q1 (pa 0) q3 q4 q5) H := hP
  have hD : va_D A (wX cA xa ka ra na ia ua va ca za pa qa X K R P L_22 P2 L2 Tn Ti Tu_21 Tv C Z q0 q1 (pa 0) q3 q4 q5) := hD
  replace h := tx_lt h
  obtain ⟨y25, ey25, h⟩ := h
  refine lv_iinc (v := y25) (lv' := [(2, .int y25), (0, .ref (xa 0)), (1, .int x1)]) hx hb dX7_asking_73 hl (k := 2) rfl ey25 (by decide) rfl (fun ls hl => ?_)
  refine lv_goto (tgt := 21) hx hb dX7_asking_76 (by decide) ?_
  exact hk21 y25 L_22 Tu_21 H locs ls h hP hD hS (lv_sub hl [1, 2, 0] rfl)
set_option maxHeartbeats 4000000 in
set_option maxRecDepth 100000 in
theorem w_X7_asking_L29 {p : Program} {l : Launch} {e : Env} {s : State} {m : MethodId} {below : List Frame} {meth : Method} {c : Code} {G : va_G} {cA : Nat → ClassId} {A : Nat → Prop} {xa : Nat → Nat} {ka : Nat → Nat} {ra : Nat → Nat} {na : Nat → Nat} {ia : Nat → Nat} {ua : Nat → Nat} {va : Nat → Nat} {ca : Nat → Nat} {za : Nat → Nat} {pa : Nat → Nat} {qa : Nat → Nat} {X : Tr} {K : Tr} {R : Tr} {P : Tr} {P2 : Tr} {L2 : Lo} {Tn : Tr} {Ti : Tr} {Tv : Tr} {C : Tr} {Z : Tr} {q0 : Nat} {q1 : Nat} {q3 : Nat} {q4 : Nat} {q5 : Nat} {r0 : Int32} {L' : Lo} {Tu' : Tr} {q2' : Nat} {L : Lo} {q2 : Nat} {x1 : Int32} {x2 : Int32} (F : tF p s m ([.ref (xa 0)] : List Value).toArray meth c G cA A RX7 cX7_asking 4 (some .int))  (k21 : Int32 → Lo → Tr → Option (Int32 × Lo × Tr × Nat)) (hk21 : ∀ (x2 : Int32) (L : Lo) (Tu : Tr) (H : Heap) (locs : List Loc) (ls : Array Slot), k21 x2 L Tu = some (r0, L', Tu', q2') → va_P G vwCl (wX cA xa ka ra na ia ua va ca za pa qa X K R P L P2 L2 Tn Ti Tu Tv C Z q0 q1 q2 q3 q4 q5) H → va_D A (wX cA xa ka ra na ia ua va ca za pa qa X K R P L P2 L2 Tn Ti Tu Tv C Z q0 q1 q2 q3 q4 q5) → va_S A s.heap H locs → lv_has ls 4 [(0, .ref (xa 0)), (1, .int x1), (2, .int x2)] → G_X7_asking p l e s m below meth c G cA A xa ka ra na ia ua va ca za pa qa X K R P P2 L2 Tn Ti Tv C Z q0 q1 q3 q4 q5 r0 L' Tu' q2' H locs (F0 m 21 ls [])) (N : Nat) : ∀ (x3 : Int32) (Tu : Tr) (H : Heap) (locs : List Loc) (ls : Array Slot), lpF (fun _ _ => none) (fB_X7_asking_L29 k21 pa qa P L Tn q0 q2 q4 x1 x2) N x3 Tu = some (r0, L', Tu', q2') → va_P G vwCl (wX cA xa ka ra na ia ua va ca za pa qa X K R P L P2 L2 Tn Ti Tu Tv C Z q0 q1 q2 q3 q4 q5) H → va_D A (wX cA xa ka ra na ia ua va ca za pa qa X K R P L P2 L2 Tn Ti Tu Tv C Z q0 q1 q2 q3 q4 q5) → va_S A s.heap H locs → lv_has ls 4 [(0, .ref (xa 0)), (1, .int x1), (2, .int x2), (3, .int x3)] → G_X7_asking p l e s m below meth c G cA A xa ka ra na ia ua va ca za pa qa X K R P P2 L2 Tn Ti Tv C Z q0 q1 q3 q4 q5 r0 L' Tu' q2' H locs (F0 m 29 ls []) := by
  obtain ⟨hx, hb, hr, hml, hT, hown, hlocks, hK, hN, hA⟩ := id F
  induction N with
  | zero =>
    intro x3 Tu H locs ls h
    replace h : (none : Option (Int32 × Lo × Tr × Nat)) = some (r0, L', Tu', q2') := h
    cases h
  | succ N hk29 =>
    intro x3 Tu H locs ls h hP hD hS hl
    replace h : fB_X7_asking_L29 k21 pa qa P L Tn q0 q2 q4 x1 x2 (lpF (fun _ _ => none) (fB_X7_asking_L29 k21 pa qa P L Tn q0 q2 q4 x1 x2) N) x3 Tu = some (r0, L', Tu', q2') := h
    generalize hk29e : lpF (fun _ _ => none) (fB_X7_asking_L29 k21 pa qa P L Tn q0 q2 q4 x1 x2) N = k29 at h hk29
    unfold fB_X7_asking_L29 at h
    refine lv_iload_n hx hb dX7_asking_29 rfl (lv_at hl 3 rfl) ?_
    refine lv_aload_n hx hb dX7_asking_30 rfl (lv_at hl 0 rfl) ?_
    refine va_get (D := G) (ci := 7) (v := .ref q4) (C := RX7) (T := TX7) (N := 12) hx hb hT ku_7 hown hK hP 0 rfl rfl 1 (by decide) (hT _ kw_1_20) (fun _ h9 => h9) rfl dX7_asking_31 ?_
    replace h := tx_ck h
    obtain ⟨g18, h⟩ := h
    have eg18 := of_decide_eq_true g18
    subst eg18
    refine va_get (D := G) (ci := 2) (v := .int (P 0 0)) (C := RX2) (T := TX2) (N := 19) hx hb hT ku_2 hown hK hP 9 rfl rfl 0 (by decide) (hT _ kw_32_2) (fun _ h9 => h9) rfl dX7_asking_34 ?_
    refine lv_icmp_ge (tgt := 66) hx hb dX7_asking_37 (by decide) (fun c19 => ?_) (fun c19 => ?_)
    · replace h := tx_pos c19 h
      exact w_X7_asking_J66 F k21 hk21 x2 L Tu H locs ls h hP hD hS (lv_sub hl [0, 1, 2] rfl)
    · replace h := tx_neg c19 h
      refine lv_aload_n hx hb dX7_asking_40 rfl (lv_at hl 0 rfl) ?_
      refine va_get (D := G) (ci := 7) (v := .ref (ua 0)) (C := RX7) (T := TX7) (N := 12) hx hb hT ku_7 hown hK hP 0 rfl rfl 5 (by decide) (hT _ kw_2_3) (fun _ h9 => h9) rfl dX7_asking_41 ?_
      refine lv_iload_n hx hb dX7_asking_44 rfl (lv_at hl 3 rfl) ?_
      replace h := tx_ck h
      obtain ⟨g26, h⟩ := h
      have eg26 := of_decide_eq_true g26
      subst eg26
      replace h := tx_bd h
      obtain ⟨r27, hc28, h⟩ := h
      refine tw_ci pX_ua hP hD hS hA (va_runV (As := [.int x3]) (rest := []) ⟨hx, hb, hml, hown, hT⟩ (c_X6_isRack l G cA H.size ua pa Tu P L x3  r27 hc28) (cwV 1 hT (tq_gV kw_53_8 kw_42_13 kw_42_14 kw_1_23 kw_42_15) rfl rfl rfl dkdV_yX6_isRack_1 ⟨Nat.le_of_ble_eq_true rfl, Nat.le_of_ble_eq_true rfl⟩) ⟨(tw_pre pX_ua hP hD hK hN).1, va_recv hK hP (ci := 6) (q0 := 77) rfl rfl, (tw_pre pX_ua hP hD hK hN).2⟩ rfl rfl hl.1 rfl (lv_room (Nat.le_of_ble_eq_true rfl)) dX7_asking_45 ⟨Nat.le_of_ble_eq_true rfl, Nat.le_of_ble_eq_true rfl⟩) (fun _ _ H locs z29 hP hD hS => ?_)
      have z29 := z29.symm
      subst z29
      replace hP := tw_P pX_ua.symm hP
      replace hD := tw_D pX_ua.symm hD
      have hP : va_P G vwCl (wX cA xa ka ra na ia ua va ca za pa qa X K R P L P2 L2 Tn Ti Tu Tv C Z q0 q1 (pa 0) q3 (pa 0) q5) H := hP
      have hD : va_D A (wX cA xa ka ra na ia ua va ca za pa qa X K R P L P2 L2 Tn Ti Tu Tv C Z q0 q1 (pa 0) q3 (pa 0) q5) := hD
      refine lv_if_eq (tgt := 60) hx hb dX7_asking_48 (by decide) (fun c30 => ?_) (fun c30 => ?_)
      · replace h := tx_pos c30 h
        replace h := tx_lt h
        obtain ⟨y31, ey31, h⟩ := h
        refine lv_iinc (v := y31) (lv' := [(3, .int y31), (0, .ref (xa 0)), (1, .int x1), (2, .int x2)]) hx hb dX7_asking_60 hl (k := 3) rfl ey31 (by decide) rfl (fun ls hl => ?_)
        refine lv_goto (tgt := 29) hx hb dX7_asking_63 (by decide) ?_
        exact hk29 y31 Tu H locs ls h hP hD hS (lv_sub hl [1, 2, 3, 0] rfl)
      · replace h := tx_neg c30 h
        refine lv_aload_n hx hb dX7_asking_51 rfl (lv_at hl 0 rfl) ?_
        refine va_get (D := G) (ci := 7) (v := .ref (ua 0)) (C := RX7) (T := TX7) (N := 12) hx hb hT ku_7 hown hK hP 0 rfl rfl 5 (by decide) (hT _ kw_2_3) (fun _ h9 => h9) rfl dX7_asking_52 ?_
        refine lv_iload_n hx hb dX7_asking_55 rfl (lv_at hl 3 rfl) ?_
        replace h := tx_bd h
        obtain ⟨⟨r32, Tu_33⟩, hc34, h⟩ := h
        replace h := tx_let (y := r32) rfl h
        replace h := tx_let (y := Tu_33) rfl h
        refine tw_ci pX_ua hP hD hS hA (va_runV (As := [.int x3]) (rest := []) ⟨hx, hb, hml, hown, hT⟩ (c_X6_turnOver l G cA H.size ua pa Tu P L x3  r32 Tu_33 hc34) (cwV 1 hT (tq_gV kw_38_11 kw_38_12 kw_38_13 kw_1_23 kw_38_14) rfl rfl rfl dkdV_yX6_turnOver_1 ⟨Nat.le_of_ble_eq_true rfl, Nat.le_of_ble_eq_true rfl⟩) ⟨(tw_pre pX_ua hP hD hK hN).1, va_recv hK hP (ci := 6) (q0 := 77) rfl rfl, (tw_pre pX_ua hP hD hK hN).2⟩ rfl rfl hl.1 rfl (lv_room (Nat.le_of_ble_eq_true rfl)) dX7_asking_56 ⟨Nat.le_of_ble_eq_true rfl, Nat.le_of_ble_eq_true rfl⟩) (fun _ _ H locs z35 hP hD hS => ?_)
        have z35 := z35.symm
        subst z35
        replace hP := tw_P pX_ua.symm hP
        replace hD := tw_D pX_ua.symm hD
        have hP : va_P G vwCl (wX cA xa ka ra na ia ua va ca za pa qa X K R P L P2 L2 Tn Ti Tu_33 Tv C Z q0 q1 (pa 0) q3 (pa 0) q5) H := hP
        have hD : va_D A (wX cA xa ka ra na ia ua va ca za pa qa X K R P L P2 L2 Tn Ti Tu_33 Tv C Z q0 q1 (pa 0) q3 (pa 0) q5) := hD
        refine lv_pop hx hb dX7_asking_59 rfl ?_
        replace h := tx_lt h
        obtain ⟨y36, ey36, h⟩ := h
        refine lv_iinc (v := y36) (lv' := [(3, .int y36), (0, .ref (xa 0)), (1, .int x1), (2, .int x2)]) hx hb dX7_asking_60 hl (k := 3) rfl ey36 (by decide) rfl (fun ls hl => ?_)
        refine lv_goto (tgt := 29) hx hb dX7_asking_63 (by decide) ?_
        exact hk29 y36 Tu_33 H locs ls h hP hD hS (lv_sub hl [1, 2, 3, 0] rfl)
set_option maxHeartbeats 4000000 in
set_option maxRecDepth 100000 in
theorem w_X7_asking_L21 {p : Program} {l : Launch} {e : Env} {s : State} {m : MethodId} {below : List Frame} {meth : Method} {c : Code} {G : va_G} {cA : Nat → ClassId} {A : Nat → Prop} {xa : Nat → Nat} {ka : Nat → Nat} {ra : Nat → Nat} {na : Nat → Nat} {ia : Nat → Nat} {ua : Nat → Nat} {va : Nat → Nat} {ca : Nat → Nat} {za : Nat → Nat} {pa : Nat → Nat} {qa : Nat → Nat} {X : Tr} {K : Tr} {R : Tr} {P : Tr} {P2 : Tr} {L2 : Lo} {Tn : Tr} {Ti : Tr} {Tv : Tr} {C : Tr} {Z : Tr} {q0 : Nat} {q1 : Nat} {q3 : Nat} {q4 : Nat} {q5 : Nat} {r0 : Int32} {L' : Lo} {Tu' : Tr} {q2' : Nat} {q2 : Nat} {x1 : Int32} (F : tF p s m ([.ref (xa 0)] : List Value).toArray meth c G cA A RX7 cX7_asking 4 (some .int))    (N : Nat) : ∀ (x2 : Int32) (L : Lo) (Tu : Tr) (H : Heap) (locs : List Loc) (ls : Array Slot), lpF (fun _ _ _ => none) (fB_X7_asking_L21 pa qa P Tn q0 q2 q4 x1) N x2 L Tu = some (r0, L', Tu', q2') → va_P G vwCl (wX cA xa ka ra na ia ua va ca za pa qa X K R P L P2 L2 Tn Ti Tu Tv C Z q0 q1 q2 q3 q4 q5) H → va_D A (wX cA xa ka ra na ia ua va ca za pa qa X K R P L P2 L2 Tn Ti Tu Tv C Z q0 q1 q2 q3 q4 q5) → va_S A s.heap H locs → lv_has ls 4 [(0, .ref (xa 0)), (1, .int x1), (2, .int x2)] → G_X7_asking p l e s m below meth c G cA A xa ka ra na ia ua va ca za pa qa X K R P P2 L2 Tn Ti Tv C Z q0 q1 q3 q4 q5 r0 L' Tu' q2' H locs (F0 m 21 ls []) := by
  obtain ⟨hx, hb, hr, hml, hT, hown, hlocks, hK, hN, hA⟩ := id F
  induction N with
  | zero =>
    intro x2 L Tu H locs ls h
    replace h : (none : Option (Int32 × Lo × Tr × Nat)) = some (r0, L', Tu', q2') := h
    cases h
  | succ N hk21 =>
    intro x2 L Tu H locs ls h hP hD hS hl
    replace h : fB_X7_asking_L21 pa qa P Tn q0 q2 q4 x1 (lpF (fun _ _ _ => none) (fB_X7_asking_L21 pa qa P Tn q0 q2 q4 x1) N) x2 L Tu = some (r0, L', Tu', q2') := h
    generalize hk21e : lpF (fun _ _ _ => none) (fB_X7_asking_L21 pa qa P Tn q0 q2 q4 x1) N = k21 at h hk21
    unfold fB_X7_asking_L21 at h
    refine lv_iload_n hx hb dX7_asking_21 rfl (lv_at hl 2 rfl) ?_
    refine lv_bipush (v := 20) hx hb dX7_asking_22 (by decide) ?_
    refine lv_icmp_gt (tgt := 79) hx hb dX7_asking_24 (by decide) (fun c15 => ?_) (fun c15 => ?_)
    · replace h := tx_pos c15 h
      exact w_X7_asking_J79 F x1 L Tu q2 H locs ls h hP hD hS (lv_sub hl [0, 1] rfl)
    · replace h := tx_neg c15 h
      refine lv_iconst (v := 0) hx hb dX7_asking_27 (by decide) ?_
      refine lv_istore_n (lv' := [(3, .int 0), (0, .ref (xa 0)), (1, .int x1), (2, .int x2)]) hx hb dX7_asking_28 rfl hl (by decide) rfl (fun ls hl => ?_)
      exact w_X7_asking_L29 F k21 hk21 2000 0 Tu H locs ls h hP hD hS (lv_sub hl [1, 2, 3, 0] rfl)
set_option maxHeartbeats 4000000 in
set_option maxRecDepth 100000 in
theorem c_X7_asking (l : Launch) (G : va_G) (cA : Nat → ClassId) (sz : Nat) (xa : Nat → Nat) (ka : Nat → Nat) (ra : Nat → Nat) (na : Nat → Nat) (ia : Nat → Nat) (ua : Nat → Nat) (va : Nat → Nat) (ca : Nat → Nat) (za : Nat → Nat) (pa : Nat → Nat) (qa : Nat → Nat) (X : Tr) (K : Tr) (R : Tr) (P : Tr) (L : Lo) (P2 : Tr) (L2 : Lo) (Tn : Tr) (Ti : Tr) (Tu : Tr) (Tv : Tr) (C : Tr) (Z : Tr) (q0 : Nat) (q1 : Nat) (q2 : Nat) (q3 : Nat) (q4 : Nat) (q5 : Nat)  (r0 : Int32) (L' : Lo) (Tu' : Tr) (q2' : Nat) (h : f_X7_asking pa qa P L Tn Tu q0 q2 q4 = some (r0, L', Tu', q2')) : Met l yX7_asking (.code yX7_asking cX7_asking 4 (some .int) :: T0) ({ frames := 7, cells := 0, slots := 0, locals := 173 } : Room) (tqP G cA [.ref (xa 0)] (wX cA xa ka ra na ia ua va ca za pa qa X K R P L P2 L2 Tn Ti Tu Tv C Z q0 q1 q2 q3 q4 q5) sz) (tqQi G cA (fun (r : Int32) (_ : Unit) => r = r0) (fun (_ : Unit) => wX cA xa ka ra na ia ua va ca za pa qa X K R P (L') P2 L2 Tn Ti (Tu') Tv C Z q0 q1 (q2') q3 q4 q5) (va_A (wX cA xa ka ra na ia ua va ca za pa qa X K R P L P2 L2 Tn Ti Tu Tv C Z q0 q1 q2 q3 q4 q5) sz)) 0 0 (va_A (wX cA xa ka ra na ia ua va ca za pa qa X K R P L P2 L2 Tn Ti Tu Tv C Z q0 q1 q2 q3 q4 q5) sz) := by
  refine Met.ofW (cc := cX7_asking) (maxL := 4) (ret := (some .int)) (by decide) rfl ?_
  intro p e s m args below meth c s₁ B hml hv
  obtain ⟨rfl, hsz, hP, hK, hD0, hN⟩ := hv
  have hx := B.exec
  have hb := B.bytes
  have hr := B.returns
  have hts := atoms_spec (ws := .code yX7_asking cX7_asking 4 (some .int) :: T0) B.pre
  have hT : ∀ w ∈ T0, w.before _ s = true := fun w h => hts w (List.mem_cons_of_mem _ h)
  have hown : s.vm.findClass RX7 = some m.cls := findClass_of_methodNamed B.named
  have hlocks := B.notSynchronized
  subst hsz
  have hD := hD0.self (sz := s.heap.size)
  generalize hAe : va_A (wX cA xa ka ra na ia ua va ca za pa qa X K R P L P2 L2 Tn Ti Tu Tv C Z q0 q1 q2 q3 q4 q5) s.heap.size = A at hD ⊢
  have hA : ∀ q : Nat, s.heap.size ≤ q → A q := fun q h => by rw [← hAe]; exact Or.inr h
  have hS : va_S A s.heap s.heap [] := va_S.rf
  have hl := lv_entry ([.ref (xa 0)]) (n := 4) (Nat.le_of_ble_eq_true rfl)
  rw [lg_entry_eq]
  generalize (lg_sl ([.ref (xa 0)]) ++ List.replicate (4 - (lg_sl ([.ref (xa 0)])).length) Slot.unset).toArray = ls at hl ⊢
  have hl : lv_has ls 4 [(0, .ref (xa 0))] := hl
  have F : tF p s m ([.ref (xa 0)] : List Value).toArray meth c G cA A RX7 cX7_asking 4 (some .int) := ⟨hx, hb, hr, hml, hT, hown, hlocks, hK, hN, hA⟩
  obtain ⟨H, hH⟩ : ∃ z, z = s.heap := ⟨_, rfl⟩
  rw [← hH] at hP
  have hS : va_S A s.heap H [] := by rw [hH]; exact hS
  suffices hgo : G_X7_asking p l e s m below meth c G cA A xa ka ra na ia ua va ca za pa qa X K R P P2 L2 Tn Ti Tv C Z q0 q1 q3 q4 q5 r0 L' Tu' q2' H [] (F0 m 0 ls []) by rw [hH] at hgo; exact hgo
  generalize ([] : List Loc) = locs at hS ⊢
  unfold f_X7_asking at h
  refine lv_aload_n hx hb dX7_asking_0 rfl (lv_at hl 0 rfl) ?_
  replace h := tx_bd h
  obtain ⟨⟨Tu_1, q2_2⟩, hc3, h⟩ := h
  replace h := tx_let (y := Tu_1) rfl h
  replace h := tx_let (y := q2_2) rfl h
  refine tz_v (As := []) (rest := []) ⟨hx, hb, hml, hown, hT⟩ hP hD hS hA hK hN (c_X7_startTrial l G cA H.size xa ka ra na ia ua va ca za pa qa X K R P L P2 L2 Tn Ti Tu Tv C Z q0 q1 q2 q3 q4 q5  Tu_1 q2_2 hc3) (tq_gV kw_46_17 kw_46_18 kw_46_19 kw_1_2 kw_46_20) rfl rfl dkdV_yX7_startTrial_0 (Nat.le_of_ble_eq_true rfl) (Nat.le_of_ble_eq_true rfl) (ci := 7) (q0 := 0) rfl rfl rfl hl.1 rfl (Nat.le_of_ble_eq_true rfl) dX7_asking_1 ⟨Nat.le_of_ble_eq_true rfl, Nat.le_of_ble_eq_true rfl⟩ (fun _ H locs z4 hP hD hS => ?_)
  have hP : va_P G vwCl (wX cA xa ka ra na ia ua va ca za pa qa X K R P L P2 L2 Tn Ti Tu_1 Tv C Z q0 q1 q2_2 q3 q4 q5) H := hP
  have hD : va_D A (wX cA xa ka ra na ia ua va ca za pa qa X K R P L P2 L2 Tn Ti Tu_1 Tv C Z q0 q1 q2_2 q3 q4 q5) := hD
  refine lv_aload_n hx hb dX7_asking_4 rfl (lv_at hl 0 rfl) ?_
  replace h := tx_bd h
  obtain ⟨⟨r5, L_6, Tu_7⟩, hc8, h⟩ := h
  replace h := tx_let (y := r5) rfl h
  replace h := tx_let (y := L_6) rfl h
  replace h := tx_let (y := Tu_7) rfl h
  refine tz_i (As := []) (rest := []) ⟨hx, hb, hml, hown, hT⟩ hP hD hS hA hK hN (c_X7_liftsOfTrial l G cA H.size xa ka ra na ia ua va ca za pa qa X K R P L P2 L2 Tn Ti Tu_1 Tv C Z q0 q1 q2_2 q3 q4 q5  r5 L_6 Tu_7 hc8) (tq_gV kw_49_5 kw_49_6 kw_49_7 kw_1_2 kw_49_8) rfl rfl dkdV_yX7_liftsOfTrial_0 (Nat.le_of_ble_eq_true rfl) (Nat.le_of_ble_eq_true rfl) (ci := 7) (q0 := 0) rfl rfl rfl hl.1 rfl (Nat.le_of_ble_eq_true rfl) dX7_asking_5 ⟨Nat.le_of_ble_eq_true rfl, Nat.le_of_ble_eq_true rfl⟩ (fun _ _ H locs z9 hP hD hS => ?_)
  have z9 := z9.symm
  subst z9
  have hP : va_P G vwCl (wX cA xa ka ra na ia ua va ca za pa qa X K R P L_6 P2 L2 Tn Ti Tu_7 Tv C Z q0 q1 q2_2 q3 q4 q5) H := hP
  have hD : va_D A (wX cA xa ka ra na ia ua va ca za pa qa X K R P L_6 P2 L2 Tn Ti Tu_7 Tv C Z q0 q1 q2_2 q3 q4 q5) := hD
  refine lv_istore_n (lv' := [(1, .int r5), (0, .ref (xa 0))]) hx hb dX7_asking_8 rfl hl (by decide) rfl (fun ls hl => ?_)
  refine lv_aload_n hx hb dX7_asking_9 rfl (lv_at hl 1 rfl) ?_
  replace h := tx_bd h
  obtain ⟨⟨Tu_10, q2_11⟩, hc12, h⟩ := h
  replace h := tx_let (y := Tu_10) rfl h
  replace h := tx_let (y := q2_11) rfl h
  refine tz_v (As := []) (rest := []) ⟨hx, hb, hml, hown, hT⟩ hP hD hS hA hK hN (c_X7_startTrial l G cA H.size xa ka ra na ia ua va ca za pa qa X K R P L_6 P2 L2 Tn Ti Tu_7 Tv C Z q0 q1 q2_2 q3 q4 q5  Tu_10 q2_11 hc12) (tq_gV kw_46_17 kw_46_18 kw_46_19 kw_1_2 kw_46_20) rfl rfl dkdV_yX7_startTrial_0 (Nat.le_of_ble_eq_true rfl) (Nat.le_of_ble_eq_true rfl) (ci := 7) (q0 := 0) rfl rfl rfl hl.1 rfl (Nat.le_of_ble_eq_true rfl) dX7_asking_10 ⟨Nat.le_of_ble_eq_true rfl, Nat.le_of_ble_eq_true rfl⟩ (fun _ H locs z13 hP hD hS => ?_)
  have hP : va_P G vwCl (wX cA xa ka ra na ia ua va ca za pa qa X K R P L_6 P2 L2 Tn Ti Tu_10 Tv C Z q0 q1 q2_11 q3 q4 q5) H := hP
  have hD : va_D A (wX cA xa ka ra na ia ua va ca za pa qa X K R P L_6 P2 L2 Tn Ti Tu_10 Tv C Z q0 q1 q2_11 q3 q4 q5) := hD
  refine lv_aload_n hx hb dX7_asking_13 rfl (lv_at hl 1 rfl) ?_
  refine va_get (D := G) (ci := 7) (v := .ref (na 0)) (C := RX7) (T := TX7) (N := 12) hx hb hT ku_7 hown hK hP 0 rfl rfl 2 (by decide) (hT _ kw_2_0) (fun _ h9 => h9) rfl dX7_asking_14 ?_
  refine va_get (D := G) (ci := 6) (v := .int (Tn 0 0)) (C := RX6) (T := TX6) (N := 20) hx hb hT ku_6 hown hK hP 53 rfl rfl 0 (by decide) (hT _ kw_40_5) (fun _ h9 => h9) rfl dX7_asking_17 ?_
  refine lv_topi (fun y14 ey14 => ?_)
  replace h := tx_let ey14 h
  refine lv_istore_n (lv' := [(2, .int y14), (1, .int r5), (0, .ref (xa 0))]) hx hb dX7_asking_20 rfl hl (by decide) rfl (fun ls hl => ?_)
  exact w_X7_asking_L21 F 2000 y14 L_6 Tu_10 H locs ls h hP hD hS (lv_sub hl [2, 1, 0] rfl)
abbrev G_X7_back (p : Program) (l : Launch) (e : Env) (s : State) (m : MethodId) (below : List Frame) (meth : Method) (c : Code) (G : va_G) (cA : Nat → ClassId) (A : Nat → Prop) (xa : Nat → Nat) (ka : Nat → Nat) (ra : Nat → Nat) (na : Nat → Nat) (ia : Nat → Nat) (ua : Nat → Nat) (va : Nat → Nat) (ca : Nat → Nat) (za : Nat → Nat) (pa : Nat → Nat) (qa : Nat → Nat) (X : Tr) (K : Tr) (R : Tr) (P : Tr) (L : Lo) (P2 : Tr) (L2 : Lo) (Ti : Tr) (Tu : Tr) (Tv : Tr) (Z : Tr) (q1 : Nat) (q2 : Nat) (q3 : Nat) (q4 : Nat) (q5 : Nat) (r0 : Int32) (Tn' : Tr) (C' : Tr) (q0' : Nat) (H : Heap) (locs : List Loc) (g : JFrame) : Prop := W p l e (headSpec (.code yX7_back cX7_back 1 (some .int) :: T0) ({ frames := 2, cells := 0, slots := 0, locals := 61 } : Room)).room s m ([.ref (xa 0)] : List Value).toArray below meth c H locs 0 0 (MQ below (tqQi G cA (fun (r : Int32) (_ : Unit) => r = r0) (fun (_ : Unit) => wX cA xa ka ra na ia ua va ca za pa qa X K R P L P2 L2 (Tn') Ti Tu Tv (C') Z (q0') q1 q2 q3 q4 q5) A) ([.ref (xa 0)] : List Value).toArray s 0 0 A) g
set_option maxHeartbeats 4000000 in
set_option maxRecDepth 100000 in
theorem c_X7_back (l : Launch) (G : va_G) (cA : Nat → ClassId) (sz : Nat) (xa : Nat → Nat) (ka : Nat → Nat) (ra : Nat → Nat) (na : Nat → Nat) (ia : Nat → Nat) (ua : Nat → Nat) (va : Nat → Nat) (ca : Nat → Nat) (za : Nat → Nat) (pa : Nat → Nat) (qa : Nat → Nat) (X : Tr) (K : Tr) (R : Tr) (P : Tr) (L : Lo) (P2 : Tr) (L2 : Lo) (Tn : Tr) (Ti : Tr) (Tu : Tr) (Tv : Tr) (C : Tr) (Z : Tr) (q0 : Nat) (q1 : Nat) (q2 : Nat) (q3 : Nat) (q4 : Nat) (q5 : Nat)  (r0 : Int32) (Tn' : Tr) (C' : Tr) (q0' : Nat) (h : f_X7_back pa qa X Tn Ti C q0 q1 = some (r0, Tn', C', q0')) : Met l yX7_back (.code yX7_back cX7_back 1 (some .int) :: T0) ({ frames := 2, cells := 0, slots := 0, locals := 61 } : Room) (tqP G cA [.ref (xa 0)] (wX cA xa ka ra na ia ua va ca za pa qa X K R P L P2 L2 Tn Ti Tu Tv C Z q0 q1 q2 q3 q4 q5) sz) (tqQi G cA (fun (r : Int32) (_ : Unit) => r = r0) (fun (_ : Unit) => wX cA xa ka ra na ia ua va ca za pa qa X K R P L P2 L2 (Tn') Ti Tu Tv (C') Z (q0') q1 q2 q3 q4 q5) (va_A (wX cA xa ka ra na ia ua va ca za pa qa X K R P L P2 L2 Tn Ti Tu Tv C Z q0 q1 q2 q3 q4 q5) sz)) 0 0 (va_A (wX cA xa ka ra na ia ua va ca za pa qa X K R P L P2 L2 Tn Ti Tu Tv C Z q0 q1 q2 q3 q4 q5) sz) := by
  refine Met.ofW (cc := cX7_back) (maxL := 1) (ret := (some .int)) (by decide) rfl ?_
  intro p e s m args below meth c s₁ B hml hv
  obtain ⟨rfl, hsz, hP, hK, hD0, hN⟩ := hv
  have hx := B.exec
  have hb := B.bytes
  have hr := B.returns
  have hts := atoms_spec (ws := .code yX7_back cX7_back 1 (some .int) :: T0) B.pre
  have hT : ∀ w ∈ T0, w.before _ s = true := fun w h => hts w (List.mem_cons_of_mem _ h)
  have hown : s.vm.findClass RX7 = some m.cls := findClass_of_methodNamed B.named
  have hlocks := B.notSynchronized
  subst hsz
  have hD := hD0.self (sz := s.heap.size)
  generalize hAe : va_A (wX cA xa ka ra na ia ua va ca za pa qa X K R P L P2 L2 Tn Ti Tu Tv C Z q0 q1 q2 q3 q4 q5) s.heap.size = A at hD ⊢
  have hA : ∀ q : Nat, s.heap.size ≤ q → A q := fun q h => by rw [← hAe]; exact Or.inr h
  have hS : va_S A s.heap s.heap [] := va_S.rf
  have hl := lv_entry ([.ref (xa 0)]) (n := 1) (Nat.le_of_ble_eq_true rfl)
  rw [lg_entry_eq]
  generalize (lg_sl ([.ref (xa 0)]) ++ List.replicate (1 - (lg_sl ([.ref (xa 0)])).length) Slot.unset).toArray = ls at hl ⊢
  have hl : lv_has ls 1 [(0, .ref (xa 0))] := hl
  have F : tF p s m ([.ref (xa 0)] : List Value).toArray meth c G cA A RX7 cX7_back 1 (some .int) := ⟨hx, hb, hr, hml, hT, hown, hlocks, hK, hN, hA⟩
  obtain ⟨H, hH⟩ : ∃ z, z = s.heap := ⟨_, rfl⟩
  rw [← hH] at hP
  have hS : va_S A s.heap H [] := by rw [hH]; exact hS
  suffices hgo : G_X7_back p l e s m below meth c G cA A xa ka ra na ia ua va ca za pa qa X K R P L P2 L2 Ti Tu Tv Z q1 q2 q3 q4 q5 r0 Tn' C' q0' H [] (F0 m 0 ls []) by rw [hH] at hgo; exact hgo
  generalize ([] : List Loc) = locs at hS ⊢
  unfold f_X7_back at h
  refine lv_aload_n hx hb dX7_back_0 rfl (lv_at hl 0 rfl) ?_
  refine va_get (D := G) (ci := 7) (v := .int (X 0 4)) (C := RX7) (T := TX7) (N := 12) hx hb hT ku_7 hown hK hP 0 rfl rfl 4 (by decide) (hT _ kw_2_2) (fun _ h9 => h9) rfl dX7_back_1 ?_
  refine lv_if_ne (tgt := 9) hx hb dX7_back_4 (by decide) (fun c1 => ?_) (fun c1 => ?_)
  · replace h := tx_neg c1 h
    refine lv_aload_n hx hb dX7_back_9 rfl (lv_at hl 0 rfl) ?_
    refine va_get (D := G) (ci := 7) (v := .ref (na 0)) (C := RX7) (T := TX7) (N := 12) hx hb hT ku_7 hown hK hP 0 rfl rfl 2 (by decide) (hT _ kw_2_0) (fun _ h9 => h9) rfl dX7_back_10 ?_
    refine lv_aload_n hx hb dX7_back_13 rfl (lv_at hl 0 rfl) ?_
    refine va_get (D := G) (ci := 7) (v := .ref (ia 0)) (C := RX7) (T := TX7) (N := 12) hx hb hT ku_7 hown hK hP 0 rfl rfl 3 (by decide) (hT _ kw_2_1) (fun _ h9 => h9) rfl dX7_back_14 ?_
    replace h := tx_bd h
    obtain ⟨⟨Tn_2, q0_3⟩, hc4, h⟩ := h
    replace h := tx_let (y := Tn_2) rfl h
    replace h := tx_let (y := q0_3) rfl h
    refine tw_cv pX_na_ia hP hD hS hA (va_runV (As := [.ref (ia 0)]) (rest := []) ⟨hx, hb, hml, hown, hT⟩ (c_X6_copy l G cA H.size na ia Tn Ti q0 q1  Tn_2 q0_3 hc4) (cwV 1 hT (tq_gV kw_38_6 kw_38_7 kw_38_8 kw_1_23 kw_38_9) rfl rfl rfl dkdV_yX6_copy_1 ⟨Nat.le_of_ble_eq_true rfl, Nat.le_of_ble_eq_true rfl⟩) ⟨(tw_pre pX_na_ia hP hD hK hN).1, va_recv hK hP (ci := 6) (q0 := 53) rfl rfl, (tw_pre pX_na_ia hP hD hK hN).2⟩ rfl rfl hl.1 rfl (lv_room (Nat.le_of_ble_eq_true rfl)) dX7_back_17 ⟨Nat.le_of_ble_eq_true rfl, Nat.le_of_ble_eq_true rfl⟩) (fun _ H locs z5 hP hD hS => ?_)
    replace hP := tw_P pX_na_ia.symm hP
    replace hD := tw_D pX_na_ia.symm hD
    have hP : va_P G vwCl (wX cA xa ka ra na ia ua va ca za pa qa X K R P L P2 L2 Tn_2 Ti Tu Tv C Z q0_3 q1 q2 q3 q4 q5) H := hP
    have hD : va_D A (wX cA xa ka ra na ia ua va ca za pa qa X K R P L P2 L2 Tn_2 Ti Tu Tv C Z q0_3 q1 q2 q3 q4 q5) := hD
    refine lv_aload_n hx hb dX7_back_20 rfl (lv_at hl 0 rfl) ?_
    refine va_get (D := G) (ci := 7) (v := .ref (ca 0)) (C := RX7) (T := TX7) (N := 12) hx hb hT ku_7 hown hK hP 0 rfl rfl 7 (by decide) (hT _ kw_2_8) (fun _ h9 => h9) rfl dX7_back_21 ?_
    refine lv_iconst (v := 0) hx hb dX7_back_24 (by decide) ?_
    refine va_put (D := G) (ci := 0) (v := .int 0) (ty := .int) (C := RX0) (T := TX0) (N := 3) hx hb hT ku_0 tyX0 tyX0_ok nmX0 hown hK hP hD hS 101 rfl rfl 0 (by decide) (hT _ kw_14_7) (fun _ h9 => h9) rfl (by decide +kernel) rfl rfl (Nat.le_of_ble_eq_true rfl) dX7_back_25 (fun H locs hP hD hS => ?_)
    replace h := tx_lt h
    obtain ⟨C_6, eC_6, h⟩ := h
    rw [sX_ca_f0, eC_6] at hP hD
    refine lv_aload_n hx hb dX7_back_28 rfl (lv_at hl 0 rfl) ?_
    refine va_get (D := G) (ci := 7) (v := .ref (na 0)) (C := RX7) (T := TX7) (N := 12) hx hb hT ku_7 hown hK hP 0 rfl rfl 2 (by decide) (hT _ kw_2_0) (fun _ h9 => h9) rfl dX7_back_29 ?_
    refine va_get (D := G) (ci := 6) (v := .int (Tn_2 0 0)) (C := RX6) (T := TX6) (N := 20) hx hb hT ku_6 hown hK hP 53 rfl rfl 0 (by decide) (hT _ kw_40_5) (fun _ h9 => h9) rfl dX7_back_32 ?_
    obtain ⟨rfl, rfl, rfl, rfl⟩ := tx_4 h
    exact W.iret hx hb hr (fun t ht hW => ⟨⟨_, (), rfl, rfl, by rw [ht]; exact hP, hD⟩, hS.F ht⟩) hS.2.2 dX7_back_35
  · replace h := tx_pos c1 h
    refine lv_iconst (v := (-1)) hx hb dX7_back_7 (by decide) ?_
    obtain ⟨rfl, rfl, rfl, rfl⟩ := tx_4 h
    exact W.iret hx hb hr (fun t ht hW => ⟨⟨_, (), rfl, rfl, by rw [ht]; exact hP, hD⟩, hS.F ht⟩) hS.2.2 dX7_back_8
abbrev G_X7_bestRule (p : Program) (l : Launch) (e : Env) (s : State) (m : MethodId) (below : List Frame) (meth : Method) (c : Code) (G : va_G) (cA : Nat → ClassId) (A : Nat → Prop) (xa : Nat → Nat) (ka : Nat → Nat) (ra : Nat → Nat) (na : Nat → Nat) (ia : Nat → Nat) (ua : Nat → Nat) (va : Nat → Nat) (ca : Nat → Nat) (za : Nat → Nat) (pa : Nat → Nat) (qa : Nat → Nat) (X : Tr) (K : Tr) (R : Tr) (P : Tr) (P2 : Tr) (L2 : Lo) (Tn : Tr) (Ti : Tr) (Tv : Tr) (C : Tr) (Z : Tr) (q0 : Nat) (q1 : Nat) (q3 : Nat) (q4 : Nat) (q5 : Nat) (r0 : Int32) (L' : Lo) (Tu' : Tr) (q2' : Nat) (H : Heap) (locs : List Loc) (g : JFrame) : Prop := W p l e (headSpec (.code yX7_bestRule cX7_bestRule 5 (some .int) :: T0) ({ frames := 7, cells := 0, slots := 0, locals := 173 } : Room)).room s m ([.ref (xa 0)] : List Value).toArray below meth c H locs 0 0 (MQ below (tqQi G cA (fun (r : Int32) (_ : Unit) => r = r0) (fun (_ : Unit) => wX cA xa ka ra na ia ua va ca za pa qa X K R P (L') P2 L2 Tn Ti (Tu') Tv C Z q0 q1 (q2') q3 q4 q5) A) ([.ref (xa 0)] : List Value).toArray s 0 0 A) g
set_option maxHeartbeats 4000000 in
set_option maxRecDepth 100000 in
theorem w_X7_bestRule_L8 {p : Program} {l : Launch} {e : Env} {s : State} {m : MethodId} {below : List Frame} {meth : Method} {c : Code} {G : va_G} {cA : Nat → ClassId} {A : Nat → Prop} {xa : Nat → Nat} {ka : Nat → Nat} {ra : Nat → Nat} {na : Nat → Nat} {ia : Nat → Nat} {ua : Nat → Nat} {va : Nat → Nat} {ca : Nat → Nat} {za : Nat → Nat} {pa : Nat → Nat} {qa : Nat → Nat} {X : Tr} {K : Tr} {R : Tr} {P : Tr} {P2 : Tr} {L2 : Lo} {Tn : Tr} {Ti : Tr} {Tv : Tr} {C : Tr} {Z : Tr} {q0 : Nat} {q1 : Nat} {q3 : Nat} {q4 : Nat} {q5 : Nat} {r0 : Int32} {L' : Lo} {Tu' : Tr} {q2' : Nat} (F : tF p s m ([.ref (xa 0)] : List Value).toArray meth c G cA A RX7 cX7_bestRule 5 (some .int))    (N : Nat) : ∀ (x1 : Int32) (x2 : Int32) (x3 : Int32) (L : Lo) (Tu : Tr) (q2 : Nat) (H : Heap) (locs : List Loc) (ls : Array Slot), lpF (fun _ _ _ _ _ _ => none) (fB_X7_bestRule_L8 pa qa P Tn q0) N x1 x2 x3 L Tu q2 = some (r0, L', Tu', q2') → va_P G vwCl (wX cA xa ka ra na ia ua va ca za pa qa X K R P L P2 L2 Tn Ti Tu Tv C Z q0 q1 q2 q3 q4 q5) H → va_D A (wX cA xa ka ra na ia ua va ca za pa qa X K R P L P2 L2 Tn Ti Tu Tv C Z q0 q1 q2 q3 q4 q5) → va_S A s.heap H locs → lv_has ls 5 [(0, .ref (xa 0)), (1, .int x1), (2, .int x2), (3, .int x3)] → G_X7_bestRule p l e s m below meth c G cA A xa ka ra na ia ua va ca za pa qa X K R P P2 L2 Tn Ti Tv C Z q0 q1 q3 q4 q5 r0 L' Tu' q2' H locs (F0 m 8 ls []) := by
  obtain ⟨hx, hb, hr, hml, hT, hown, hlocks, hK, hN, hA⟩ := id F
  induction N with
  | zero =>
    intro x1 x2 x3 L Tu q2 H locs ls h
    replace h : (none : Option (Int32 × Lo × Tr × Nat)) = some (r0, L', Tu', q2') := h
    cases h
  | succ N hk8 =>
    intro x1 x2 x3 L Tu q2 H locs ls h hP hD hS hl
    replace h : fB_X7_bestRule_L8 pa qa P Tn q0 (lpF (fun _ _ _ _ _ _ => none) (fB_X7_bestRule_L8 pa qa P Tn q0) N) x1 x2 x3 L Tu q2 = some (r0, L', Tu', q2') := h
    generalize hk8e : lpF (fun _ _ _ _ _ _ => none) (fB_X7_bestRule_L8 pa qa P Tn q0) N = k8 at h hk8
    unfold fB_X7_bestRule_L8 at h
    refine lv_iload_n hx hb dX7_bestRule_8 rfl (lv_at hl 3 rfl) ?_
    refine lv_iconst (v := 3) hx hb dX7_bestRule_9 (by decide) ?_
    refine lv_icmp_ge (tgt := 48) hx hb dX7_bestRule_10 (by decide) (fun c1 => ?_) (fun c1 => ?_)
    · replace h := tx_pos c1 h
      refine lv_iload_n hx hb dX7_bestRule_48 rfl (lv_at hl 1 rfl) ?_
      obtain ⟨rfl, rfl, rfl, rfl⟩ := tx_4 h
      exact W.iret hx hb hr (fun t ht hW => ⟨⟨_, (), rfl, rfl, by rw [ht]; exact hP, hD⟩, hS.F ht⟩) hS.2.2 dX7_bestRule_49
    · replace h := tx_neg c1 h
      refine lv_aload_n hx hb dX7_bestRule_13 rfl (lv_at hl 0 rfl) ?_
      replace h := tx_bd h
      obtain ⟨⟨Tu_2, q2_3⟩, hc4, h⟩ := h
      replace h := tx_let (y := Tu_2) rfl h
      replace h := tx_let (y := q2_3) rfl h
      refine tz_v (As := []) (rest := []) ⟨hx, hb, hml, hown, hT⟩ hP hD hS hA hK hN (c_X7_startTrial l G cA H.size xa ka ra na ia ua va ca za pa qa X K R P L P2 L2 Tn Ti Tu Tv C Z q0 q1 q2 q3 q4 q5  Tu_2 q2_3 hc4) (tq_gV kw_46_17 kw_46_18 kw_46_19 kw_1_2 kw_46_20) rfl rfl dkdV_yX7_startTrial_0 (Nat.le_of_ble_eq_true rfl) (Nat.le_of_ble_eq_true rfl) (ci := 7) (q0 := 0) rfl rfl rfl hl.1 rfl (Nat.le_of_ble_eq_true rfl) dX7_bestRule_14 ⟨Nat.le_of_ble_eq_true rfl, Nat.le_of_ble_eq_true rfl⟩ (fun _ H locs z5 hP hD hS => ?_)
      have hP : va_P G vwCl (wX cA xa ka ra na ia ua va ca za pa qa X K R P L P2 L2 Tn Ti Tu_2 Tv C Z q0 q1 q2_3 q3 q4 q5) H := hP
      have hD : va_D A (wX cA xa ka ra na ia ua va ca za pa qa X K R P L P2 L2 Tn Ti Tu_2 Tv C Z q0 q1 q2_3 q3 q4 q5) := hD
      refine lv_aload_n hx hb dX7_bestRule_17 rfl (lv_at hl 0 rfl) ?_
      refine va_get (D := G) (ci := 7) (v := .ref (ua 0)) (C := RX7) (T := TX7) (N := 12) hx hb hT ku_7 hown hK hP 0 rfl rfl 5 (by decide) (hT _ kw_2_3) (fun _ h9 => h9) rfl dX7_bestRule_18 ?_
      refine lv_iload_n hx hb dX7_bestRule_21 rfl (lv_at hl 3 rfl) ?_
      refine va_put (D := G) (ci := 6) (v := .int x3) (ty := .int) (C := RX6) (T := TX6) (N := 20) hx hb hT ku_6 tyX6 tyX6_ok nmX6 hown hK hP hD hS 77 rfl rfl 3 (by decide) (hT _ kw_51_13) (fun _ h9 => h9) rfl (by decide +kernel) rfl rfl (Nat.le_of_ble_eq_true rfl) dX7_bestRule_22 (fun H locs hP hD hS => ?_)
      replace h := tx_lt h
      obtain ⟨Tu_6, eTu_6, h⟩ := h
      rw [sX_ua_f3, eTu_6] at hP hD
      refine lv_aload_n hx hb dX7_bestRule_25 rfl (lv_at hl 0 rfl) ?_
      replace h := tx_bd h
      obtain ⟨⟨r7, L_8, Tu_9⟩, hc10, h⟩ := h
      replace h := tx_let (y := r7) rfl h
      replace h := tx_let (y := L_8) rfl h
      replace h := tx_let (y := Tu_9) rfl h
      refine tz_i (As := []) (rest := []) ⟨hx, hb, hml, hown, hT⟩ hP hD hS hA hK hN (c_X7_liftsOfTrial l G cA H.size xa ka ra na ia ua va ca za pa qa X K R P L P2 L2 Tn Ti Tu_6 Tv C Z q0 q1 q2_3 q3 q4 q5  r7 L_8 Tu_9 hc10) (tq_gV kw_49_5 kw_49_6 kw_49_7 kw_1_2 kw_49_8) rfl rfl dkdV_yX7_liftsOfTrial_0 (Nat.le_of_ble_eq_true rfl) (Nat.le_of_ble_eq_true rfl) (ci := 7) (q0 := 0) rfl rfl rfl hl.1 rfl (Nat.le_of_ble_eq_true rfl) dX7_bestRule_26 ⟨Nat.le_of_ble_eq_true rfl, Nat.le_of_ble_eq_true rfl⟩ (fun _ _ H locs z11 hP hD hS => ?_)
      have z11 := z11.symm
      subst z11
      have hP : va_P G vwCl (wX cA xa ka ra na ia ua va ca za pa qa X K R P L_8 P2 L2 Tn Ti Tu_9 Tv C Z q0 q1 q2_3 q3 q4 q5) H := hP
      have hD : va_D A (wX cA xa ka ra na ia ua va ca za pa qa X K R P L_8 P2 L2 Tn Ti Tu_9 Tv C Z q0 q1 q2_3 q3 q4 q5) := hD
      refine lv_istore (lv' := [(4, .int r7), (0, .ref (xa 0)), (1, .int x1), (2, .int x2), (3, .int x3)]) hx hb dX7_bestRule_29 hl (by decide) rfl (fun ls hl => ?_)
      refine lv_iload hx hb dX7_bestRule_31 (lv_at hl 0 rfl) ?_
      refine lv_iload_n hx hb dX7_bestRule_33 rfl (lv_at hl 3 rfl) ?_
      refine lv_icmp_ge (tgt := 42) hx hb dX7_bestRule_34 (by decide) (fun c12 => ?_) (fun c12 => ?_)
      · replace h := tx_pos c12 h
        replace h := tx_lt h
        obtain ⟨y13, ey13, h⟩ := h
        refine lv_iinc (v := y13) (lv' := [(3, .int y13), (4, .int r7), (0, .ref (xa 0)), (1, .int x1), (2, .int x2)]) hx hb dX7_bestRule_42 hl (k := 4) rfl ey13 (by decide) rfl (fun ls hl => ?_)
        refine lv_goto (tgt := 8) hx hb dX7_bestRule_45 (by decide) ?_
        exact hk8 x1 x2 y13 L_8 Tu_9 q2_3 H locs ls h hP hD hS (lv_sub hl [2, 3, 4, 0] rfl)
      · replace h := tx_neg c12 h
        refine lv_iload hx hb dX7_bestRule_37 (lv_at hl 0 rfl) ?_
        refine lv_istore_n (lv' := [(2, .int r7), (4, .int r7), (0, .ref (xa 0)), (1, .int x1), (3, .int x3)]) hx hb dX7_bestRule_39 rfl hl (by decide) rfl (fun ls hl => ?_)
        refine lv_iload_n hx hb dX7_bestRule_40 rfl (lv_at hl 4 rfl) ?_
        refine lv_istore_n (lv' := [(1, .int x3), (2, .int r7), (4, .int r7), (0, .ref (xa 0)), (3, .int x3)]) hx hb dX7_bestRule_41 rfl hl (by decide) rfl (fun ls hl => ?_)
        replace h := tx_lt h
        obtain ⟨y14, ey14, h⟩ := h
        refine lv_iinc (v := y14) (lv' := [(3, .int y14), (1, .int x3), (2, .int r7), (4, .int r7), (0, .ref (xa 0))]) hx hb dX7_bestRule_42 hl (k := 4) rfl ey14 (by decide) rfl (fun ls hl => ?_)
        refine lv_goto (tgt := 8) hx hb dX7_bestRule_45 (by decide) ?_
        exact hk8 x3 r7 y14 L_8 Tu_9 q2_3 H locs ls h hP hD hS (lv_sub hl [4, 1, 2, 0] rfl)
set_option maxHeartbeats 4000000 in
set_option maxRecDepth 100000 in
theorem c_X7_bestRule (l : Launch) (G : va_G) (cA : Nat → ClassId) (sz : Nat) (xa : Nat → Nat) (ka : Nat → Nat) (ra : Nat → Nat) (na : Nat → Nat) (ia : Nat → Nat) (ua : Nat → Nat) (va : Nat → Nat) (ca : Nat → Nat) (za : Nat → Nat) (pa : Nat → Nat) (qa : Nat → Nat) (X : Tr) (K : Tr) (R : Tr) (P : Tr) (L : Lo) (P2 : Tr) (L2 : Lo) (Tn : Tr) (Ti : Tr) (Tu : Tr) (Tv : Tr) (C : Tr) (Z : Tr) (q0 : Nat) (q1 : Nat) (q2 : Nat) (q3 : Nat) (q4 : Nat) (q5 : Nat)  (r0 : Int32) (L' : Lo) (Tu' : Tr) (q2' : Nat) (h : f_X7_bestRule pa qa P L Tn Tu q0 q2 = some (r0, L', Tu', q2')) : Met l yX7_bestRule (.code yX7_bestRule cX7_bestRule 5 (some .int) :: T0) ({ frames := 7, cells := 0, slots := 0, locals := 173 } : Room) (tqP G cA [.ref (xa 0)] (wX cA xa ka ra na ia ua va ca za pa qa X K R P L P2 L2 Tn Ti Tu Tv C Z q0 q1 q2 q3 q4 q5) sz) (tqQi G cA (fun (r : Int32) (_ : Unit) => r = r0) (fun (_ : Unit) => wX cA xa ka ra na ia ua va ca za pa qa X K R P (L') P2 L2 Tn Ti (Tu') Tv C Z q0 q1 (q2') q3 q4 q5) (va_A (wX cA xa ka ra na ia ua va ca za pa qa X K R P L P2 L2 Tn Ti Tu Tv C Z q0 q1 q2 q3 q4 q5) sz)) 0 0 (va_A (wX cA xa ka ra na ia ua va ca za pa qa X K R P L P2 L2 Tn Ti Tu Tv C Z q0 q1 q2 q3 q4 q5) sz) := by
  refine Met.ofW (cc := cX7_bestRule) (maxL := 5) (ret := (some .int)) (by decide) rfl ?_
  intro p e s m args below meth c s₁ B hml hv
  obtain ⟨rfl, hsz, hP, hK, hD0, hN⟩ := hv
  have hx := B.exec
  have hb := B.bytes
  have hr := B.returns
  have hts := atoms_spec (ws := .code yX7_bestRule cX7_bestRule 5 (some .int) :: T0) B.pre
  have hT : ∀ w ∈ T0, w.before _ s = true := fun w h => hts w (List.mem_cons_of_mem _ h)
  have hown : s.vm.findClass RX7 = some m.cls := findClass_of_methodNamed B.named
  have hlocks := B.notSynchronized
  subst hsz
  have hD := hD0.self (sz := s.heap.size)
  generalize hAe : va_A (wX cA xa ka ra na ia ua va ca za pa qa X K R P L P2 L2 Tn Ti Tu Tv C Z q0 q1 q2 q3 q4 q5) s.heap.size = A at hD ⊢
  have hA : ∀ q : Nat, s.heap.size ≤ q → A q := fun q h => by rw [← hAe]; exact Or.inr h
  have hS : va_S A s.heap s.heap [] := va_S.rf
  have hl := lv_entry ([.ref (xa 0)]) (n := 5) (Nat.le_of_ble_eq_true rfl)
  rw [lg_entry_eq]
  generalize (lg_sl ([.ref (xa 0)]) ++ List.replicate (5 - (lg_sl ([.ref (xa 0)])).length) Slot.unset).toArray = ls at hl ⊢
  have hl : lv_has ls 5 [(0, .ref (xa 0))] := hl
  have F : tF p s m ([.ref (xa 0)] : List Value).toArray meth c G cA A RX7 cX7_bestRule 5 (some .int) := ⟨hx, hb, hr, hml, hT, hown, hlocks, hK, hN, hA⟩
  obtain ⟨H, hH⟩ : ∃ z, z = s.heap := ⟨_, rfl⟩
  rw [← hH] at hP
  have hS : va_S A s.heap H [] := by rw [hH]; exact hS
  suffices hgo : G_X7_bestRule p l e s m below meth c G cA A xa ka ra na ia ua va ca za pa qa X K R P P2 L2 Tn Ti Tv C Z q0 q1 q3 q4 q5 r0 L' Tu' q2' H [] (F0 m 0 ls []) by rw [hH] at hgo; exact hgo
  generalize ([] : List Loc) = locs at hS ⊢
  unfold f_X7_bestRule at h
  refine lv_iconst (v := 0) hx hb dX7_bestRule_0 (by decide) ?_
  refine lv_istore_n (lv' := [(1, .int 0), (0, .ref (xa 0))]) hx hb dX7_bestRule_1 rfl hl (by decide) rfl (fun ls hl => ?_)
  refine lv_ldcw (v := 1000000) hx hb hown (hT _ kw_52_2) dX7_bestRule_2 ?_
  refine lv_istore_n (lv' := [(2, .int 1000000), (1, .int 0), (0, .ref (xa 0))]) hx hb dX7_bestRule_5 rfl hl (by decide) rfl (fun ls hl => ?_)
  refine lv_iconst (v := 0) hx hb dX7_bestRule_6 (by decide) ?_
  refine lv_istore_n (lv' := [(3, .int 0), (2, .int 1000000), (1, .int 0), (0, .ref (xa 0))]) hx hb dX7_bestRule_7 rfl hl (by decide) rfl (fun ls hl => ?_)
  exact w_X7_bestRule_L8 F 2000 0 1000000 0 L Tu q2 H locs ls h hP hD hS (lv_sub hl [3, 2, 1, 0] rfl)
abbrev G_X7_byRule (p : Program) (l : Launch) (e : Env) (s : State) (m : MethodId) (below : List Frame) (meth : Method) (c : Code) (G : va_G) (cA : Nat → ClassId) (A : Nat → Prop) (xa : Nat → Nat) (ka : Nat → Nat) (ra : Nat → Nat) (na : Nat → Nat) (ia : Nat → Nat) (ua : Nat → Nat) (va : Nat → Nat) (ca : Nat → Nat) (za : Nat → Nat) (pa : Nat → Nat) (qa : Nat → Nat) (X : Tr) (K : Tr) (R : Tr) (P : Tr) (P2 : Tr) (L2 : Lo) (Tn : Tr) (Ti : Tr) (Tv : Tr) (C : Tr) (Z : Tr) (q0 : Nat) (q1 : Nat) (q3 : Nat) (q4 : Nat) (q5 : Nat) (x1 : Int32) (r0 : Int32) (L' : Lo) (Tu' : Tr) (q2' : Nat) (H : Heap) (locs : List Loc) (g : JFrame) : Prop := W p l e (headSpec (.code yX7_byRule cX7_byRule 2 (some .int) :: T0) ({ frames := 7, cells := 0, slots := 0, locals := 173 } : Room)).room s m ([.ref (xa 0), .int x1] : List Value).toArray below meth c H locs 0 0 (MQ below (tqQi G cA (fun (r : Int32) (_ : Unit) => r = r0) (fun (_ : Unit) => wX cA xa ka ra na ia ua va ca za pa qa X K R P (L') P2 L2 Tn Ti (Tu') Tv C Z q0 q1 (q2') q3 q4 q5) A) ([.ref (xa 0), .int x1] : List Value).toArray s 0 0 A) g
set_option maxHeartbeats 4000000 in
set_option maxRecDepth 100000 in
theorem c_X7_byRule (l : Launch) (G : va_G) (cA : Nat → ClassId) (sz : Nat) (xa : Nat → Nat) (ka : Nat → Nat) (ra : Nat → Nat) (na : Nat → Nat) (ia : Nat → Nat) (ua : Nat → Nat) (va : Nat → Nat) (ca : Nat → Nat) (za : Nat → Nat) (pa : Nat → Nat) (qa : Nat → Nat) (X : Tr) (K : Tr) (R : Tr) (P : Tr) (L : Lo) (P2 : Tr) (L2 : Lo) (Tn : Tr) (Ti : Tr) (Tu : Tr) (Tv : Tr) (C : Tr) (Z : Tr) (q0 : Nat) (q1 : Nat) (q2 : Nat) (q3 : Nat) (q4 : Nat) (q5 : Nat) (x1 : Int32)  (r0 : Int32) (L' : Lo) (Tu' : Tr) (q2' : Nat) (h : f_X7_byRule pa qa P L Tn Tu q0 q2 x1 = some (r0, L', Tu', q2')) : Met l yX7_byRule (.code yX7_byRule cX7_byRule 2 (some .int) :: T0) ({ frames := 7, cells := 0, slots := 0, locals := 173 } : Room) (tqP G cA [.ref (xa 0), .int x1] (wX cA xa ka ra na ia ua va ca za pa qa X K R P L P2 L2 Tn Ti Tu Tv C Z q0 q1 q2 q3 q4 q5) sz) (tqQi G cA (fun (r : Int32) (_ : Unit) => r = r0) (fun (_ : Unit) => wX cA xa ka ra na ia ua va ca za pa qa X K R P (L') P2 L2 Tn Ti (Tu') Tv C Z q0 q1 (q2') q3 q4 q5) (va_A (wX cA xa ka ra na ia ua va ca za pa qa X K R P L P2 L2 Tn Ti Tu Tv C Z q0 q1 q2 q3 q4 q5) sz)) 0 0 (va_A (wX cA xa ka ra na ia ua va ca za pa qa X K R P L P2 L2 Tn Ti Tu Tv C Z q0 q1 q2 q3 q4 q5) sz) := by
  refine Met.ofW (cc := cX7_byRule) (maxL := 2) (ret := (some .int)) (by decide) rfl ?_
  intro p e s m args below meth c s₁ B hml hv
  obtain ⟨rfl, hsz, hP, hK, hD0, hN⟩ := hv
  have hx := B.exec
  have hb := B.bytes
  have hr := B.returns
  have hts := atoms_spec (ws := .code yX7_byRule cX7_byRule 2 (some .int) :: T0) B.pre
  have hT : ∀ w ∈ T0, w.before _ s = true := fun w h => hts w (List.mem_cons_of_mem _ h)
  have hown : s.vm.findClass RX7 = some m.cls := findClass_of_methodNamed B.named
  have hlocks := B.notSynchronized
  subst hsz
  have hD := hD0.self (sz := s.heap.size)
  generalize hAe : va_A (wX cA xa ka ra na ia ua va ca za pa qa X K R P L P2 L2 Tn Ti Tu Tv C Z q0 q1 q2 q3 q4 q5) s.heap.size = A at hD ⊢
  have hA : ∀ q : Nat, s.heap.size ≤ q → A q := fun q h => by rw [← hAe]; exact Or.inr h
  have hS : va_S A s.heap s.heap [] := va_S.rf
  have hl := lv_entry ([.ref (xa 0), .int x1]) (n := 2) (Nat.le_of_ble_eq_true rfl)
  rw [lg_entry_eq]
  generalize (lg_sl ([.ref (xa 0), .int x1]) ++ List.replicate (2 - (lg_sl ([.ref (xa 0), .int x1])).length) Slot.unset).toArray = ls at hl ⊢
  have hl : lv_has ls 2 [(0, .ref (xa 0)), (1, .int x1)] := hl
  have F : tF p s m ([.ref (xa 0), .int x1] : List Value).toArray meth c G cA A RX7 cX7_byRule 2 (some .int) := ⟨hx, hb, hr, hml, hT, hown, hlocks, hK, hN, hA⟩
  obtain ⟨H, hH⟩ : ∃ z, z = s.heap := ⟨_, rfl⟩
  rw [← hH] at hP
  have hS : va_S A s.heap H [] := by rw [hH]; exact hS
  suffices hgo : G_X7_byRule p l e s m below meth c G cA A xa ka ra na ia ua va ca za pa qa X K R P P2 L2 Tn Ti Tv C Z q0 q1 q3 q4 q5 x1 r0 L' Tu' q2' H [] (F0 m 0 ls []) by rw [hH] at hgo; exact hgo
  generalize ([] : List Loc) = locs at hS ⊢
  unfold f_X7_byRule at h
  refine lv_iload_n hx hb dX7_byRule_0 rfl (lv_at hl 1 rfl) ?_
  refine lv_if_lt (tgt := 9) hx hb dX7_byRule_1 (by decide) (fun c1 => ?_) (fun c1 => ?_)
  · replace h := tx_pos c1 h
    refine lv_iconst (v := (-1)) hx hb dX7_byRule_9 (by decide) ?_
    obtain ⟨rfl, rfl, rfl, rfl⟩ := tx_4 h
    exact W.iret hx hb hr (fun t ht hW => ⟨⟨_, (), rfl, rfl, by rw [ht]; exact hP, hD⟩, hS.F ht⟩) hS.2.2 dX7_byRule_10
  · replace h := tx_neg c1 h
    refine lv_iload_n hx hb dX7_byRule_4 rfl (lv_at hl 1 rfl) ?_
    refine lv_iconst (v := 3) hx hb dX7_byRule_5 (by decide) ?_
    refine lv_icmp_lt (tgt := 11) hx hb dX7_byRule_6 (by decide) (fun c2 => ?_) (fun c2 => ?_)
    · replace h := tx_pos c2 h
      refine lv_aload_n hx hb dX7_byRule_11 rfl (lv_at hl 0 rfl) ?_
      replace h := tx_bd h
      obtain ⟨⟨Tu_3, q2_4⟩, hc5, h⟩ := h
      replace h := tx_let (y := Tu_3) rfl h
      replace h := tx_let (y := q2_4) rfl h
      refine tz_v (As := []) (rest := []) ⟨hx, hb, hml, hown, hT⟩ hP hD hS hA hK hN (c_X7_startTrial l G cA H.size xa ka ra na ia ua va ca za pa qa X K R P L P2 L2 Tn Ti Tu Tv C Z q0 q1 q2 q3 q4 q5  Tu_3 q2_4 hc5) (tq_gV kw_46_17 kw_46_18 kw_46_19 kw_1_2 kw_46_20) rfl rfl dkdV_yX7_startTrial_0 (Nat.le_of_ble_eq_true rfl) (Nat.le_of_ble_eq_true rfl) (ci := 7) (q0 := 0) rfl rfl rfl hl.1 rfl (Nat.le_of_ble_eq_true rfl) dX7_byRule_12 ⟨Nat.le_of_ble_eq_true rfl, Nat.le_of_ble_eq_true rfl⟩ (fun _ H locs z6 hP hD hS => ?_)
      have hP : va_P G vwCl (wX cA xa ka ra na ia ua va ca za pa qa X K R P L P2 L2 Tn Ti Tu_3 Tv C Z q0 q1 q2_4 q3 q4 q5) H := hP
      have hD : va_D A (wX cA xa ka ra na ia ua va ca za pa qa X K R P L P2 L2 Tn Ti Tu_3 Tv C Z q0 q1 q2_4 q3 q4 q5) := hD
      refine lv_aload_n hx hb dX7_byRule_15 rfl (lv_at hl 0 rfl) ?_
      refine va_get (D := G) (ci := 7) (v := .ref (ua 0)) (C := RX7) (T := TX7) (N := 12) hx hb hT ku_7 hown hK hP 0 rfl rfl 5 (by decide) (hT _ kw_2_3) (fun _ h9 => h9) rfl dX7_byRule_16 ?_
      refine lv_iload_n hx hb dX7_byRule_19 rfl (lv_at hl 1 rfl) ?_
      refine va_put (D := G) (ci := 6) (v := .int x1) (ty := .int) (C := RX6) (T := TX6) (N := 20) hx hb hT ku_6 tyX6 tyX6_ok nmX6 hown hK hP hD hS 77 rfl rfl 3 (by decide) (hT _ kw_51_13) (fun _ h9 => h9) rfl (by decide +kernel) rfl rfl (Nat.le_of_ble_eq_true rfl) dX7_byRule_20 (fun H locs hP hD hS => ?_)
      replace h := tx_lt h
      obtain ⟨Tu_7, eTu_7, h⟩ := h
      rw [sX_ua_f3, eTu_7] at hP hD
      refine lv_aload_n hx hb dX7_byRule_23 rfl (lv_at hl 0 rfl) ?_
      replace h := tx_bd h
      obtain ⟨⟨r8, L_9, Tu_10⟩, hc11, h⟩ := h
      replace h := tx_let (y := r8) rfl h
      replace h := tx_let (y := L_9) rfl h
      replace h := tx_let (y := Tu_10) rfl h
      refine tz_i (As := []) (rest := []) ⟨hx, hb, hml, hown, hT⟩ hP hD hS hA hK hN (c_X7_liftsOfTrial l G cA H.size xa ka ra na ia ua va ca za pa qa X K R P L P2 L2 Tn Ti Tu_7 Tv C Z q0 q1 q2_4 q3 q4 q5  r8 L_9 Tu_10 hc11) (tq_gV kw_49_5 kw_49_6 kw_49_7 kw_1_2 kw_49_8) rfl rfl dkdV_yX7_liftsOfTrial_0 (Nat.le_of_ble_eq_true rfl) (Nat.le_of_ble_eq_true rfl) (ci := 7) (q0 := 0) rfl rfl rfl hl.1 rfl (Nat.le_of_ble_eq_true rfl) dX7_byRule_24 ⟨Nat.le_of_ble_eq_true rfl, Nat.le_of_ble_eq_true rfl⟩ (fun _ _ H locs z12 hP hD hS => ?_)
      have z12 := z12.symm
      subst z12
      have hP : va_P G vwCl (wX cA xa ka ra na ia ua va ca za pa qa X K R P L_9 P2 L2 Tn Ti Tu_10 Tv C Z q0 q1 q2_4 q3 q4 q5) H := hP
      have hD : va_D A (wX cA xa ka ra na ia ua va ca za pa qa X K R P L_9 P2 L2 Tn Ti Tu_10 Tv C Z q0 q1 q2_4 q3 q4 q5) := hD
      obtain ⟨rfl, rfl, rfl, rfl⟩ := tx_4 h
      exact W.iret hx hb hr (fun t ht hW => ⟨⟨_, (), rfl, rfl, by rw [ht]; exact hP, hD⟩, hS.F ht⟩) hS.2.2 dX7_byRule_27
    · replace h := tx_neg c2 h
      refine lv_iconst (v := (-1)) hx hb dX7_byRule_9 (by decide) ?_
      obtain ⟨rfl, rfl, rfl, rfl⟩ := tx_4 h
      exact W.iret hx hb hr (fun t ht hW => ⟨⟨_, (), rfl, rfl, by rw [ht]; exact hP, hD⟩, hS.F ht⟩) hS.2.2 dX7_byRule_10
abbrev G_X7_isPiece (p : Program) (l : Launch) (e : Env) (s : State) (m : MethodId) (below : List Frame) (meth : Method) (c : Code) (G : va_G) (cA : Nat → ClassId) (A : Nat → Prop) (xa : Nat → Nat) (ka : Nat → Nat) (ra : Nat → Nat) (na : Nat → Nat) (ia : Nat → Nat) (ua : Nat → Nat) (va : Nat → Nat) (ca : Nat → Nat) (za : Nat → Nat) (pa : Nat → Nat) (qa : Nat → Nat) (X : Tr) (K : Tr) (R : Tr) (P : Tr) (L : Lo) (P2 : Tr) (L2 : Lo) (Tn : Tr) (Ti : Tr) (Tu : Tr) (Tv : Tr) (C : Tr) (Z : Tr) (q0 : Nat) (q1 : Nat) (q2 : Nat) (q3 : Nat) (q4 : Nat) (q5 : Nat) (x1 : Int32) (r0 : Int32) (H : Heap) (locs : List Loc) (g : JFrame) : Prop := W p l e (headSpec (.code yX7_isPiece cX7_isPiece 2 (some .boolean) :: T0) ({ frames := 0, cells := 0, slots := 0, locals := 0 } : Room)).room s m ([.ref (xa 0), .int x1] : List Value).toArray below meth c H locs 0 0 (MQ below (tqQi G cA (fun (r : Int32) (_ : Unit) => r = r0) (fun (_ : Unit) => wX cA xa ka ra na ia ua va ca za pa qa X K R P L P2 L2 Tn Ti Tu Tv C Z q0 q1 q2 q3 q4 q5) A) ([.ref (xa 0), .int x1] : List Value).toArray s 0 0 A) g
set_option maxHeartbeats 4000000 in
set_option maxRecDepth 100000 in
theorem c_X7_isPiece (l : Launch) (G : va_G) (cA : Nat → ClassId) (sz : Nat) (xa : Nat → Nat) (ka : Nat → Nat) (ra : Nat → Nat) (na : Nat → Nat) (ia : Nat → Nat) (ua : Nat → Nat) (va : Nat → Nat) (ca : Nat → Nat) (za : Nat → Nat) (pa : Nat → Nat) (qa : Nat → Nat) (X : Tr) (K : Tr) (R : Tr) (P : Tr) (L : Lo) (P2 : Tr) (L2 : Lo) (Tn : Tr) (Ti : Tr) (Tu : Tr) (Tv : Tr) (C : Tr) (Z : Tr) (q0 : Nat) (q1 : Nat) (q2 : Nat) (q3 : Nat) (q4 : Nat) (q5 : Nat) (x1 : Int32)  (r0 : Int32) (h : f_X7_isPiece pa qa P q4 x1 = some r0) : Met l yX7_isPiece (.code yX7_isPiece cX7_isPiece 2 (some .boolean) :: T0) ({ frames := 0, cells := 0, slots := 0, locals := 0 } : Room) (tqP G cA [.ref (xa 0), .int x1] (wX cA xa ka ra na ia ua va ca za pa qa X K R P L P2 L2 Tn Ti Tu Tv C Z q0 q1 q2 q3 q4 q5) sz) (tqQi G cA (fun (r : Int32) (_ : Unit) => r = r0) (fun (_ : Unit) => wX cA xa ka ra na ia ua va ca za pa qa X K R P L P2 L2 Tn Ti Tu Tv C Z q0 q1 q2 q3 q4 q5) (va_A (wX cA xa ka ra na ia ua va ca za pa qa X K R P L P2 L2 Tn Ti Tu Tv C Z q0 q1 q2 q3 q4 q5) sz)) 0 0 (va_A (wX cA xa ka ra na ia ua va ca za pa qa X K R P L P2 L2 Tn Ti Tu Tv C Z q0 q1 q2 q3 q4 q5) sz) := by
  refine Met.ofW (cc := cX7_isPiece) (maxL := 2) (ret := (some .boolean)) (by decide) rfl ?_
  intro p e s m args below meth c s₁ B hml hv
  obtain ⟨rfl, hsz, hP, hK, hD0, hN⟩ := hv
  have hx := B.exec
  have hb := B.bytes
  have hr := B.returns
  have hts := atoms_spec (ws := .code yX7_isPiece cX7_isPiece 2 (some .boolean) :: T0) B.pre
  have hT : ∀ w ∈ T0, w.before _ s = true := fun w h => hts w (List.mem_cons_of_mem _ h)
  have hown : s.vm.findClass RX7 = some m.cls := findClass_of_methodNamed B.named
  have hlocks := B.notSynchronized
  subst hsz
  have hD := hD0.self (sz := s.heap.size)
  generalize hAe : va_A (wX cA xa ka ra na ia ua va ca za pa qa X K R P L P2 L2 Tn Ti Tu Tv C Z q0 q1 q2 q3 q4 q5) s.heap.size = A at hD ⊢
  have hA : ∀ q : Nat, s.heap.size ≤ q → A q := fun q h => by rw [← hAe]; exact Or.inr h
  have hS : va_S A s.heap s.heap [] := va_S.rf
  have hl := lv_entry ([.ref (xa 0), .int x1]) (n := 2) (Nat.le_of_ble_eq_true rfl)
  rw [lg_entry_eq]
  generalize (lg_sl ([.ref (xa 0), .int x1]) ++ List.replicate (2 - (lg_sl ([.ref (xa 0), .int x1])).length) Slot.unset).toArray = ls at hl ⊢
  have hl : lv_has ls 2 [(0, .ref (xa 0)), (1, .int x1)] := hl
  have F : tF p s m ([.ref (xa 0), .int x1] : List Value).toArray meth c G cA A RX7 cX7_isPiece 2 (some .boolean) := ⟨hx, hb, hr, hml, hT, hown, hlocks, hK, hN, hA⟩
  obtain ⟨H, hH⟩ : ∃ z, z = s.heap := ⟨_, rfl⟩
  rw [← hH] at hP
  have hS : va_S A s.heap H [] := by rw [hH]; exact hS
  suffices hgo : G_X7_isPiece p l e s m below meth c G cA A xa ka ra na ia ua va ca za pa qa X K R P L P2 L2 Tn Ti Tu Tv C Z q0 q1 q2 q3 q4 q5 x1 r0 H [] (F0 m 0 ls []) by rw [hH] at hgo; exact hgo
  generalize ([] : List Loc) = locs at hS ⊢
  unfold f_X7_isPiece at h
  refine lv_iload_n hx hb dX7_isPiece_0 rfl (lv_at hl 1 rfl) ?_
  refine lv_if_lt (tgt := 19) hx hb dX7_isPiece_1 (by decide) (fun c1 => ?_) (fun c1 => ?_)
  · replace h := tx_pos c1 h
    refine lv_iconst (v := 0) hx hb dX7_isPiece_19 (by decide) ?_
    obtain rfl := tx_1 h
    exact W.zret (ty := .boolean) hx hb hr rfl (fun t ht hW => ⟨⟨_, (), rfl, rfl, by rw [ht]; exact hP, hD⟩, hS.F ht⟩) hS.2.2 dX7_isPiece_20
  · replace h := tx_neg c1 h
    refine lv_iload_n hx hb dX7_isPiece_4 rfl (lv_at hl 1 rfl) ?_
    refine lv_aload_n hx hb dX7_isPiece_5 rfl (lv_at hl 0 rfl) ?_
    refine va_get (D := G) (ci := 7) (v := .ref q4) (C := RX7) (T := TX7) (N := 12) hx hb hT ku_7 hown hK hP 0 rfl rfl 1 (by decide) (hT _ kw_1_20) (fun _ h9 => h9) rfl dX7_isPiece_6 ?_
    replace h := tx_ck h
    obtain ⟨g2, h⟩ := h
    have eg2 := of_decide_eq_true g2
    subst eg2
    refine va_get (D := G) (ci := 2) (v := .int (P 0 2)) (C := RX2) (T := TX2) (N := 19) hx hb hT ku_2 hown hK hP 9 rfl rfl 2 (by decide) (hT _ kw_30_9) (fun _ h9 => h9) rfl dX7_isPiece_9 ?_
    refine lv_icmp_ge (tgt := 19) hx hb dX7_isPiece_12 (by decide) (fun c3 => ?_) (fun c3 => ?_)
    · replace h := tx_pos c3 h
      refine lv_iconst (v := 0) hx hb dX7_isPiece_19 (by decide) ?_
      obtain rfl := tx_1 h
      exact W.zret (ty := .boolean) hx hb hr rfl (fun t ht hW => ⟨⟨_, (), rfl, rfl, by rw [ht]; exact hP, hD⟩, hS.F ht⟩) hS.2.2 dX7_isPiece_20
    · replace h := tx_neg c3 h
      refine lv_iconst (v := 1) hx hb dX7_isPiece_15 (by decide) ?_
      refine lv_goto (tgt := 20) hx hb dX7_isPiece_16 (by decide) ?_
      obtain rfl := tx_1 h
      exact W.zret (ty := .boolean) hx hb hr rfl (fun t ht hW => ⟨⟨_, (), rfl, rfl, by rw [ht]; exact hP, hD⟩, hS.F ht⟩) hS.2.2 dX7_isPiece_20
abbrev G_X7_comesNow (p : Program) (l : Launch) (e : Env) (s : State) (m : MethodId) (below : List Frame) (meth : Method) (c : Code) (G : va_G) (cA : Nat → ClassId) (A : Nat → Prop) (xa : Nat → Nat) (ka : Nat → Nat) (ra : Nat → Nat) (na : Nat → Nat) (ia : Nat → Nat) (ua : Nat → Nat) (va : Nat → Nat) (ca : Nat → Nat) (za : Nat → Nat) (pa : Nat → Nat) (qa : Nat → Nat) (X : Tr) (K : Tr) (R : Tr) (P : Tr) (L : Lo) (P2 : Tr) (L2 : Lo) (Tn : Tr) (Ti : Tr) (Tu : Tr) (Tv : Tr) (C : Tr) (Z : Tr) (q0 : Nat) (q1 : Nat) (q2 : Nat) (q3 : Nat) (q4 : Nat) (q5 : Nat) (x1 : Int32) (r0 : Int32) (H : Heap) (locs : List Loc) (g : JFrame) : Prop := W p l e (headSpec (.code yX7_comesNow cX7_comesNow 2 (some .boolean) :: T0) ({ frames := 1, cells := 0, slots := 0, locals := 21 } : Room)).room s m ([.ref (xa 0), .int x1] : List Value).toArray below meth c H locs 0 0 (MQ below (tqQi G cA (fun (r : Int32) (_ : Unit) => r = r0) (fun (_ : Unit) => wX cA xa ka ra na ia ua va ca za pa qa X K R P L P2 L2 Tn Ti Tu Tv C Z q0 q1 q2 q3 q4 q5) A) ([.ref (xa 0), .int x1] : List Value).toArray s 0 0 A) g
set_option maxHeartbeats 4000000 in
set_option maxRecDepth 100000 in
theorem c_X7_comesNow (l : Launch) (G : va_G) (cA : Nat → ClassId) (sz : Nat) (xa : Nat → Nat) (ka : Nat → Nat) (ra : Nat → Nat) (na : Nat → Nat) (ia : Nat → Nat) (ua : Nat → Nat) (va : Nat → Nat) (ca : Nat → Nat) (za : Nat → Nat) (pa : Nat → Nat) (qa : Nat → Nat) (X : Tr) (K : Tr) (R : Tr) (P : Tr) (L : Lo) (P2 : Tr) (L2 : Lo) (Tn : Tr) (Ti : Tr) (Tu : Tr) (Tv : Tr) (C : Tr) (Z : Tr) (q0 : Nat) (q1 : Nat) (q2 : Nat) (q3 : Nat) (q4 : Nat) (q5 : Nat) (x1 : Int32)  (r0 : Int32) (h : f_X7_comesNow pa qa P Tn q4 x1 = some r0) : Met l yX7_comesNow (.code yX7_comesNow cX7_comesNow 2 (some .boolean) :: T0) ({ frames := 1, cells := 0, slots := 0, locals := 21 } : Room) (tqP G cA [.ref (xa 0), .int x1] (wX cA xa ka ra na ia ua va ca za pa qa X K R P L P2 L2 Tn Ti Tu Tv C Z q0 q1 q2 q3 q4 q5) sz) (tqQi G cA (fun (r : Int32) (_ : Unit) => r = r0) (fun (_ : Unit) => wX cA xa ka ra na ia ua va ca za pa qa X K R P L P2 L2 Tn Ti Tu Tv C Z q0 q1 q2 q3 q4 q5) (va_A (wX cA xa ka ra na ia ua va ca za pa qa X K R P L P2 L2 Tn Ti Tu Tv C Z q0 q1 q2 q3 q4 q5) sz)) 0 0 (va_A (wX cA xa ka ra na ia ua va ca za pa qa X K R P L P2 L2 Tn Ti Tu Tv C Z q0 q1 q2 q3 q4 q5) sz) := by
  refine Met.ofW (cc := cX7_comesNow) (maxL := 2) (ret := (some .boolean)) (by decide) rfl ?_
  intro p e s m args below meth c s₁ B hml hv
  obtain ⟨rfl, hsz, hP, hK, hD0, hN⟩ := hv
  have hx := B.exec
  have hb := B.bytes
  have hr := B.returns
  have hts := atoms_spec (ws := .code yX7_comesNow cX7_comesNow 2 (some .boolean) :: T0) B.pre
  have hT : ∀ w ∈ T0, w.before _ s = true := fun w h => hts w (List.mem_cons_of_mem _ h)
  have hown : s.vm.findClass RX7 = some m.cls := findClass_of_methodNamed B.named
  have hlocks := B.notSynchronized
  subst hsz
  have hD := hD0.self (sz := s.heap.size)
  generalize hAe : va_A (wX cA xa ka ra na ia ua va ca za pa qa X K R P L P2 L2 Tn Ti Tu Tv C Z q0 q1 q2 q3 q4 q5) s.heap.size = A at hD ⊢
  have hA : ∀ q : Nat, s.heap.size ≤ q → A q := fun q h => by rw [← hAe]; exact Or.inr h
  have hS : va_S A s.heap s.heap [] := va_S.rf
  have hl := lv_entry ([.ref (xa 0), .int x1]) (n := 2) (Nat.le_of_ble_eq_true rfl)
  rw [lg_entry_eq]
  generalize (lg_sl ([.ref (xa 0), .int x1]) ++ List.replicate (2 - (lg_sl ([.ref (xa 0), .int x1])).length) Slot.unset).toArray = ls at hl ⊢
  have hl : lv_has ls 2 [(0, .ref (xa 0)), (1, .int x1)] := hl
  have F : tF p s m ([.ref (xa 0), .int x1] : List Value).toArray meth c G cA A RX7 cX7_comesNow 2 (some .boolean) := ⟨hx, hb, hr, hml, hT, hown, hlocks, hK, hN, hA⟩
  obtain ⟨H, hH⟩ : ∃ z, z = s.heap := ⟨_, rfl⟩
  rw [← hH] at hP
  have hS : va_S A s.heap H [] := by rw [hH]; exact hS
  suffices hgo : G_X7_comesNow p l e s m below meth c G cA A xa ka ra na ia ua va ca za pa qa X K R P L P2 L2 Tn Ti Tu Tv C Z q0 q1 q2 q3 q4 q5 x1 r0 H [] (F0 m 0 ls []) by rw [hH] at hgo; exact hgo
  generalize ([] : List Loc) = locs at hS ⊢
  unfold f_X7_comesNow at h
  refine lv_aload_n hx hb dX7_comesNow_0 rfl (lv_at hl 0 rfl) ?_
  refine lv_iload_n hx hb dX7_comesNow_1 rfl (lv_at hl 1 rfl) ?_
  replace h := tx_bd h
  obtain ⟨r1, hc2, h⟩ := h
  refine tz_i (As := [.int x1]) (rest := []) ⟨hx, hb, hml, hown, hT⟩ hP hD hS hA hK hN (c_X7_isPiece l G cA H.size xa ka ra na ia ua va ca za pa qa X K R P L P2 L2 Tn Ti Tu Tv C Z q0 q1 q2 q3 q4 q5 x1  r1 hc2) (tq_gV kw_30_5 kw_30_6 kw_30_7 kw_1_2 kw_30_8) rfl rfl dkdV_yX7_isPiece_1 (Nat.le_of_ble_eq_true rfl) (Nat.le_of_ble_eq_true rfl) (ci := 7) (q0 := 0) rfl rfl rfl hl.1 rfl (Nat.le_of_ble_eq_true rfl) dX7_comesNow_2 ⟨Nat.le_of_ble_eq_true rfl, Nat.le_of_ble_eq_true rfl⟩ (fun _ _ H locs z3 hP hD hS => ?_)
  have z3 := z3.symm
  subst z3
  have hP : va_P G vwCl (wX cA xa ka ra na ia ua va ca za pa qa X K R P L P2 L2 Tn Ti Tu Tv C Z q0 q1 q2 q3 q4 q5) H := hP
  have hD : va_D A (wX cA xa ka ra na ia ua va ca za pa qa X K R P L P2 L2 Tn Ti Tu Tv C Z q0 q1 q2 q3 q4 q5) := hD
  refine lv_if_eq (tgt := 51) hx hb dX7_comesNow_5 (by decide) (fun c4 => ?_) (fun c4 => ?_)
  · replace h := tx_pos c4 h
    refine lv_iconst (v := 0) hx hb dX7_comesNow_51 (by decide) ?_
    obtain rfl := tx_1 h
    exact W.zret (ty := .boolean) hx hb hr rfl (fun t ht hW => ⟨⟨_, (), rfl, rfl, by rw [ht]; exact hP, hD⟩, hS.F ht⟩) hS.2.2 dX7_comesNow_52
  · replace h := tx_neg c4 h
    refine lv_aload_n hx hb dX7_comesNow_8 rfl (lv_at hl 0 rfl) ?_
    refine va_get (D := G) (ci := 7) (v := .ref (na 0)) (C := RX7) (T := TX7) (N := 12) hx hb hT ku_7 hown hK hP 0 rfl rfl 2 (by decide) (hT _ kw_2_0) (fun _ h9 => h9) rfl dX7_comesNow_9 ?_
    refine va_get (D := G) (ci := 6) (v := .int (Tn 0 0)) (C := RX6) (T := TX6) (N := 20) hx hb hT ku_6 hown hK hP 53 rfl rfl 0 (by decide) (hT _ kw_40_5) (fun _ h9 => h9) rfl dX7_comesNow_12 ?_
    refine lv_bipush (v := 20) hx hb dX7_comesNow_15 (by decide) ?_
    refine lv_icmp_gt (tgt := 51) hx hb dX7_comesNow_17 (by decide) (fun c5 => ?_) (fun c5 => ?_)
    · replace h := tx_pos c5 h
      refine lv_iconst (v := 0) hx hb dX7_comesNow_51 (by decide) ?_
      obtain rfl := tx_1 h
      exact W.zret (ty := .boolean) hx hb hr rfl (fun t ht hW => ⟨⟨_, (), rfl, rfl, by rw [ht]; exact hP, hD⟩, hS.F ht⟩) hS.2.2 dX7_comesNow_52
    · replace h := tx_neg c5 h
      refine lv_aload_n hx hb dX7_comesNow_20 rfl (lv_at hl 0 rfl) ?_
      refine va_get (D := G) (ci := 7) (v := .ref q4) (C := RX7) (T := TX7) (N := 12) hx hb hT ku_7 hown hK hP 0 rfl rfl 1 (by decide) (hT _ kw_1_20) (fun _ h9 => h9) rfl dX7_comesNow_21 ?_
      replace h := tx_ck h
      obtain ⟨g6, h⟩ := h
      have eg6 := of_decide_eq_true g6
      subst eg6
      refine va_get (D := G) (ci := 2) (v := .ref (pa 11)) (C := RX2) (T := TX2) (N := 19) hx hb hT ku_2 hown hK hP 9 rfl rfl 10 (by decide) (hT _ kw_28_22) (fun _ h9 => h9) rfl dX7_comesNow_24 ?_
      refine lv_aload_n hx hb dX7_comesNow_27 rfl (lv_at hl 0 rfl) ?_
      refine va_get (D := G) (ci := 7) (v := .ref (pa 0)) (C := RX7) (T := TX7) (N := 12) hx hb hT ku_7 hown hK hP 0 rfl rfl 1 (by decide) (hT _ kw_1_20) (fun _ h9 => h9) rfl dX7_comesNow_28 ?_
      refine va_get (D := G) (ci := 2) (v := .ref (pa 14)) (C := RX2) (T := TX2) (N := 19) hx hb hT ku_2 hown hK hP 9 rfl rfl 13 (by decide) (hT _ kw_30_0) (fun _ h9 => h9) rfl dX7_comesNow_31 ?_
      refine lv_iload_n hx hb dX7_comesNow_34 rfl (lv_at hl 1 rfl) ?_
      replace h := tx_ck h
      obtain ⟨g7, h⟩ := h
      refine va_iald (i := x1) hx hb hK hP 16 0 rfl rfl (tx_in g7) dX7_comesNow_35 ?_
      replace h := tx_ck h
      obtain ⟨g8, h⟩ := h
      refine va_iald (i := (P 14 x1.toNatClampNeg)) hx hb hK hP 13 0 rfl rfl (tx_in g8) dX7_comesNow_36 ?_
      refine lv_aload_n hx hb dX7_comesNow_37 rfl (lv_at hl 0 rfl) ?_
      refine va_get (D := G) (ci := 7) (v := .ref (na 0)) (C := RX7) (T := TX7) (N := 12) hx hb hT ku_7 hown hK hP 0 rfl rfl 2 (by decide) (hT _ kw_2_0) (fun _ h9 => h9) rfl dX7_comesNow_38 ?_
      refine va_get (D := G) (ci := 6) (v := .int (Tn 0 0)) (C := RX6) (T := TX6) (N := 20) hx hb hT ku_6 hown hK hP 53 rfl rfl 0 (by decide) (hT _ kw_40_5) (fun _ h9 => h9) rfl dX7_comesNow_41 ?_
      refine lv_icmp_ne (tgt := 51) hx hb dX7_comesNow_44 (by decide) (fun c9 => ?_) (fun c9 => ?_)
      · replace h := tx_neg c9 h
        refine lv_iconst (v := 0) hx hb dX7_comesNow_51 (by decide) ?_
        obtain rfl := tx_1 h
        exact W.zret (ty := .boolean) hx hb hr rfl (fun t ht hW => ⟨⟨_, (), rfl, rfl, by rw [ht]; exact hP, hD⟩, hS.F ht⟩) hS.2.2 dX7_comesNow_52
      · replace h := tx_pos c9 h
        refine lv_iconst (v := 1) hx hb dX7_comesNow_47 (by decide) ?_
        refine lv_goto (tgt := 52) hx hb dX7_comesNow_48 (by decide) ?_
        obtain rfl := tx_1 h
        exact W.zret (ty := .boolean) hx hb hr rfl (fun t ht hW => ⟨⟨_, (), rfl, rfl, by rw [ht]; exact hP, hD⟩, hS.F ht⟩) hS.2.2 dX7_comesNow_52
abbrev G_X7_canChoose (p : Program) (l : Launch) (e : Env) (s : State) (m : MethodId) (below : List Frame) (meth : Method) (c : Code) (G : va_G) (cA : Nat → ClassId) (A : Nat → Prop) (xa : Nat → Nat) (ka : Nat → Nat) (ra : Nat → Nat) (na : Nat → Nat) (ia : Nat → Nat) (ua : Nat → Nat) (va : Nat → Nat) (ca : Nat → Nat) (za : Nat → Nat) (pa : Nat → Nat) (qa : Nat → Nat) (X : Tr) (K : Tr) (R : Tr) (P : Tr) (L : Lo) (P2 : Tr) (L2 : Lo) (Tn : Tr) (Ti : Tr) (Tu : Tr) (Tv : Tr) (C : Tr) (Z : Tr) (q0 : Nat) (q1 : Nat) (q2 : Nat) (q3 : Nat) (q4 : Nat) (q5 : Nat) (x1 : Int32) (x2 : Int32) (r0 : Int32) (H : Heap) (locs : List Loc) (g : JFrame) : Prop := W p l e (headSpec (.code yX7_canChoose cX7_canChoose 3 (some .boolean) :: T0) ({ frames := 2, cells := 0, slots := 0, locals := 42 } : Room)).room s m ([.ref (xa 0), .int x1, .int x2] : List Value).toArray below meth c H locs 0 0 (MQ below (tqQi G cA (fun (r : Int32) (_ : Unit) => r = r0) (fun (_ : Unit) => wX cA xa ka ra na ia ua va ca za pa qa X K R P L P2 L2 Tn Ti Tu Tv C Z q0 q1 q2 q3 q4 q5) A) ([.ref (xa 0), .int x1, .int x2] : List Value).toArray s 0 0 A) g
set_option maxHeartbeats 4000000 in
set_option maxRecDepth 100000 in
theorem c_X7_canChoose (l : Launch) (G : va_G) (cA : Nat → ClassId) (sz : Nat) (xa : Nat → Nat) (ka : Nat → Nat) (ra : Nat → Nat) (na : Nat → Nat) (ia : Nat → Nat) (ua : Nat → Nat) (va : Nat → Nat) (ca : Nat → Nat) (za : Nat → Nat) (pa : Nat → Nat) (qa : Nat → Nat) (X : Tr) (K : Tr) (R : Tr) (P : Tr) (L : Lo) (P2 : Tr) (L2 : Lo) (Tn : Tr) (Ti : Tr) (Tu : Tr) (Tv : Tr) (C : Tr) (Z : Tr) (q0 : Nat) (q1 : Nat) (q2 : Nat) (q3 : Nat) (q4 : Nat) (q5 : Nat) (x1 : Int32) (x2 : Int32)  (r0 : Int32) (h : f_X7_canChoose pa qa P Tn q4 x1 x2 = some r0) : Met l yX7_canChoose (.code yX7_canChoose cX7_canChoose 3 (some .boolean) :: T0) ({ frames := 2, cells := 0, slots := 0, locals := 42 } : Room) (tqP G cA [.ref (xa 0), .int x1, .int x2] (wX cA xa ka ra na ia ua va ca za pa qa X K R P L P2 L2 Tn Ti Tu Tv C Z q0 q1 q2 q3 q4 q5) sz) (tqQi G cA (fun (r : Int32) (_ : Unit) => r = r0) (fun (_ : Unit) => wX cA xa ka ra na ia ua va ca za pa qa X K R P L P2 L2 Tn Ti Tu Tv C Z q0 q1 q2 q3 q4 q5) (va_A (wX cA xa ka ra na ia ua va ca za pa qa X K R P L P2 L2 Tn Ti Tu Tv C Z q0 q1 q2 q3 q4 q5) sz)) 0 0 (va_A (wX cA xa ka ra na ia ua va ca za pa qa X K R P L P2 L2 Tn Ti Tu Tv C Z q0 q1 q2 q3 q4 q5) sz) := by
  refine Met.ofW (cc := cX7_canChoose) (maxL := 3) (ret := (some .boolean)) (by decide) rfl ?_
  intro p e s m args below meth c s₁ B hml hv
  obtain ⟨rfl, hsz, hP, hK, hD0, hN⟩ := hv
  have hx := B.exec
  have hb := B.bytes
  have hr := B.returns
  have hts := atoms_spec (ws := .code yX7_canChoose cX7_canChoose 3 (some .boolean) :: T0) B.pre
  have hT : ∀ w ∈ T0, w.before _ s = true := fun w h => hts w (List.mem_cons_of_mem _ h)
  have hown : s.vm.findClass RX7 = some m.cls := findClass_of_methodNamed B.named
  have hlocks := B.notSynchronized
  subst hsz
  have hD := hD0.self (sz := s.heap.size)
  generalize hAe : va_A (wX cA xa ka ra na ia ua va ca za pa qa X K R P L P2 L2 Tn Ti Tu Tv C Z q0 q1 q2 q3 q4 q5) s.heap.size = A at hD ⊢
  have hA : ∀ q : Nat, s.heap.size ≤ q → A q := fun q h => by rw [← hAe]; exact Or.inr h
  have hS : va_S A s.heap s.heap [] := va_S.rf
  have hl := lv_entry ([.ref (xa 0), .int x1, .int x2]) (n := 3) (Nat.le_of_ble_eq_true rfl)
  rw [lg_entry_eq]
  generalize (lg_sl ([.ref (xa 0), .int x1, .int x2]) ++ List.replicate (3 - (lg_sl ([.ref (xa 0), .int x1, .int x2])).length) Slot.unset).toArray = ls at hl ⊢
  have hl : lv_has ls 3 [(0, .ref (xa 0)), (1, .int x1), (2, .int x2)] := hl
  have F : tF p s m ([.ref (xa 0), .int x1, .int x2] : List Value).toArray meth c G cA A RX7 cX7_canChoose 3 (some .boolean) := ⟨hx, hb, hr, hml, hT, hown, hlocks, hK, hN, hA⟩
  obtain ⟨H, hH⟩ : ∃ z, z = s.heap := ⟨_, rfl⟩
  rw [← hH] at hP
  have hS : va_S A s.heap H [] := by rw [hH]; exact hS
  suffices hgo : G_X7_canChoose p l e s m below meth c G cA A xa ka ra na ia ua va ca za pa qa X K R P L P2 L2 Tn Ti Tu Tv C Z q0 q1 q2 q3 q4 q5 x1 x2 r0 H [] (F0 m 0 ls []) by rw [hH] at hgo; exact hgo
  generalize ([] : List Loc) = locs at hS ⊢
  unfold f_X7_canChoose at h
  refine lv_aload_n hx hb dX7_canChoose_0 rfl (lv_at hl 0 rfl) ?_
  refine lv_iload_n hx hb dX7_canChoose_1 rfl (lv_at hl 1 rfl) ?_
  replace h := tx_bd h
  obtain ⟨r1, hc2, h⟩ := h
  refine tz_i (As := [.int x1]) (rest := []) ⟨hx, hb, hml, hown, hT⟩ hP hD hS hA hK hN (c_X7_comesNow l G cA H.size xa ka ra na ia ua va ca za pa qa X K R P L P2 L2 Tn Ti Tu Tv C Z q0 q1 q2 q3 q4 q5 x1  r1 hc2) (tq_gV kw_46_7 kw_46_8 kw_46_9 kw_1_2 kw_46_10) rfl rfl dkdV_yX7_comesNow_1 (Nat.le_of_ble_eq_true rfl) (Nat.le_of_ble_eq_true rfl) (ci := 7) (q0 := 0) rfl rfl rfl hl.1 rfl (Nat.le_of_ble_eq_true rfl) dX7_canChoose_2 ⟨Nat.le_of_ble_eq_true rfl, Nat.le_of_ble_eq_true rfl⟩ (fun _ _ H locs z3 hP hD hS => ?_)
  have z3 := z3.symm
  subst z3
  have hP : va_P G vwCl (wX cA xa ka ra na ia ua va ca za pa qa X K R P L P2 L2 Tn Ti Tu Tv C Z q0 q1 q2 q3 q4 q5) H := hP
  have hD : va_D A (wX cA xa ka ra na ia ua va ca za pa qa X K R P L P2 L2 Tn Ti Tu Tv C Z q0 q1 q2 q3 q4 q5) := hD
  refine lv_if_eq (tgt := 51) hx hb dX7_canChoose_5 (by decide) (fun c4 => ?_) (fun c4 => ?_)
  · replace h := tx_pos c4 h
    refine lv_iconst (v := 0) hx hb dX7_canChoose_51 (by decide) ?_
    obtain rfl := tx_1 h
    exact W.zret (ty := .boolean) hx hb hr rfl (fun t ht hW => ⟨⟨_, (), rfl, rfl, by rw [ht]; exact hP, hD⟩, hS.F ht⟩) hS.2.2 dX7_canChoose_52
  · replace h := tx_neg c4 h
    refine lv_aload_n hx hb dX7_canChoose_8 rfl (lv_at hl 0 rfl) ?_
    refine lv_iload_n hx hb dX7_canChoose_9 rfl (lv_at hl 2 rfl) ?_
    replace h := tx_bd h
    obtain ⟨r5, hc6, h⟩ := h
    refine tz_i (As := [.int x2]) (rest := []) ⟨hx, hb, hml, hown, hT⟩ hP hD hS hA hK hN (c_X7_comesNow l G cA H.size xa ka ra na ia ua va ca za pa qa X K R P L P2 L2 Tn Ti Tu Tv C Z q0 q1 q2 q3 q4 q5 x2  r5 hc6) (tq_gV kw_46_7 kw_46_8 kw_46_9 kw_1_2 kw_46_10) rfl rfl dkdV_yX7_comesNow_1 (Nat.le_of_ble_eq_true rfl) (Nat.le_of_ble_eq_true rfl) (ci := 7) (q0 := 0) rfl rfl rfl hl.1 rfl (Nat.le_of_ble_eq_true rfl) dX7_canChoose_10 ⟨Nat.le_of_ble_eq_true rfl, Nat.le_of_ble_eq_true rfl⟩ (fun _ _ H locs z7 hP hD hS => ?_)
    have z7 := z7.symm
    subst z7
    have hP : va_P G vwCl (wX cA xa ka ra na ia ua va ca za pa qa X K R P L P2 L2 Tn Ti Tu Tv C Z q0 q1 q2 q3 q4 q5) H := hP
    have hD : va_D A (wX cA xa ka ra na ia ua va ca za pa qa X K R P L P2 L2 Tn Ti Tu Tv C Z q0 q1 q2 q3 q4 q5) := hD
    refine lv_if_eq (tgt := 51) hx hb dX7_canChoose_13 (by decide) (fun c8 => ?_) (fun c8 => ?_)
    · replace h := tx_pos c8 h
      refine lv_iconst (v := 0) hx hb dX7_canChoose_51 (by decide) ?_
      obtain rfl := tx_1 h
      exact W.zret (ty := .boolean) hx hb hr rfl (fun t ht hW => ⟨⟨_, (), rfl, rfl, by rw [ht]; exact hP, hD⟩, hS.F ht⟩) hS.2.2 dX7_canChoose_52
    · replace h := tx_neg c8 h
      refine lv_aload_n hx hb dX7_canChoose_16 rfl (lv_at hl 0 rfl) ?_
      refine va_get (D := G) (ci := 7) (v := .ref q4) (C := RX7) (T := TX7) (N := 12) hx hb hT ku_7 hown hK hP 0 rfl rfl 1 (by decide) (hT _ kw_1_20) (fun _ h9 => h9) rfl dX7_canChoose_17 ?_
      replace h := tx_ck h
      obtain ⟨g9, h⟩ := h
      have eg9 := of_decide_eq_true g9
      subst eg9
      refine va_get (D := G) (ci := 2) (v := .ref (pa 14)) (C := RX2) (T := TX2) (N := 19) hx hb hT ku_2 hown hK hP 9 rfl rfl 13 (by decide) (hT _ kw_30_0) (fun _ h9 => h9) rfl dX7_canChoose_20 ?_
      refine lv_iload_n hx hb dX7_canChoose_23 rfl (lv_at hl 1 rfl) ?_
      replace h := tx_ck h
      obtain ⟨g10, h⟩ := h
      refine va_iald (i := x1) hx hb hK hP 16 0 rfl rfl (tx_in g10) dX7_canChoose_24 ?_
      refine lv_aload_n hx hb dX7_canChoose_25 rfl (lv_at hl 0 rfl) ?_
      refine va_get (D := G) (ci := 7) (v := .ref (pa 0)) (C := RX7) (T := TX7) (N := 12) hx hb hT ku_7 hown hK hP 0 rfl rfl 1 (by decide) (hT _ kw_1_20) (fun _ h9 => h9) rfl dX7_canChoose_26 ?_
      refine va_get (D := G) (ci := 2) (v := .ref (pa 14)) (C := RX2) (T := TX2) (N := 19) hx hb hT ku_2 hown hK hP 9 rfl rfl 13 (by decide) (hT _ kw_30_0) (fun _ h9 => h9) rfl dX7_canChoose_29 ?_
      refine lv_iload_n hx hb dX7_canChoose_32 rfl (lv_at hl 2 rfl) ?_
      replace h := tx_ck h
      obtain ⟨g11, h⟩ := h
      refine va_iald (i := x2) hx hb hK hP 16 0 rfl rfl (tx_in g11) dX7_canChoose_33 ?_
      refine lv_icmp_eq (tgt := 51) hx hb dX7_canChoose_34 (by decide) (fun c12 => ?_) (fun c12 => ?_)
      · replace h := tx_pos c12 h
        refine lv_iconst (v := 0) hx hb dX7_canChoose_51 (by decide) ?_
        obtain rfl := tx_1 h
        exact W.zret (ty := .boolean) hx hb hr rfl (fun t ht hW => ⟨⟨_, (), rfl, rfl, by rw [ht]; exact hP, hD⟩, hS.F ht⟩) hS.2.2 dX7_canChoose_52
      · replace h := tx_neg c12 h
        refine lv_aload_n hx hb dX7_canChoose_37 rfl (lv_at hl 0 rfl) ?_
        refine va_get (D := G) (ci := 7) (v := .ref (pa 0)) (C := RX7) (T := TX7) (N := 12) hx hb hT ku_7 hown hK hP 0 rfl rfl 1 (by decide) (hT _ kw_1_20) (fun _ h9 => h9) rfl dX7_canChoose_38 ?_
        refine va_get (D := G) (ci := 2) (v := .int (P 0 0)) (C := RX2) (T := TX2) (N := 19) hx hb hT ku_2 hown hK hP 9 rfl rfl 0 (by decide) (hT _ kw_32_2) (fun _ h9 => h9) rfl dX7_canChoose_41 ?_
        refine lv_if_le (tgt := 51) hx hb dX7_canChoose_44 (by decide) (fun c13 => ?_) (fun c13 => ?_)
        · replace h := tx_pos c13 h
          refine lv_iconst (v := 0) hx hb dX7_canChoose_51 (by decide) ?_
          obtain rfl := tx_1 h
          exact W.zret (ty := .boolean) hx hb hr rfl (fun t ht hW => ⟨⟨_, (), rfl, rfl, by rw [ht]; exact hP, hD⟩, hS.F ht⟩) hS.2.2 dX7_canChoose_52
        · replace h := tx_neg c13 h
          refine lv_iconst (v := 1) hx hb dX7_canChoose_47 (by decide) ?_
          refine lv_goto (tgt := 52) hx hb dX7_canChoose_48 (by decide) ?_
          obtain rfl := tx_1 h
          exact W.zret (ty := .boolean) hx hb hr rfl (fun t ht hW => ⟨⟨_, (), rfl, rfl, by rw [ht]; exact hP, hD⟩, hS.F ht⟩) hS.2.2 dX7_canChoose_52
abbrev G_X7_chance (p : Program) (l : Launch) (e : Env) (s : State) (m : MethodId) (below : List Frame) (meth : Method) (c : Code) (G : va_G) (cA : Nat → ClassId) (A : Nat → Prop) (xa : Nat → Nat) (ka : Nat → Nat) (ra : Nat → Nat) (na : Nat → Nat) (ia : Nat → Nat) (ua : Nat → Nat) (va : Nat → Nat) (ca : Nat → Nat) (za : Nat → Nat) (pa : Nat → Nat) (qa : Nat → Nat) (X : Tr) (K : Tr) (R : Tr) (P : Tr) (P2 : Tr) (L2 : Lo) (Tn : Tr) (Ti : Tr) (Tv : Tr) (C : Tr) (Z : Tr) (q0 : Nat) (q1 : Nat) (q3 : Nat) (q4 : Nat) (q5 : Nat) (x1 : Int32) (x2 : Int32) (r0 : Int32) (L' : Lo) (Tu' : Tr) (q2' : Nat) (H : Heap) (locs : List Loc) (g : JFrame) : Prop := W p l e (headSpec (.code yX7_chance cX7_chance 6 (some .int) :: T0) ({ frames := 6, cells := 0, slots := 0, locals := 153 } : Room)).room s m ([.ref (xa 0), .int x1, .int x2] : List Value).toArray below meth c H locs 0 0 (MQ below (tqQi G cA (fun (r : Int32) (_ : Unit) => r = r0) (fun (_ : Unit) => wX cA xa ka ra na ia ua va ca za pa qa X K R P (L') P2 L2 Tn Ti (Tu') Tv C Z q0 q1 (q2') q3 q4 q5) A) ([.ref (xa 0), .int x1, .int x2] : List Value).toArray s 0 0 A) g
set_option maxHeartbeats 4000000 in
set_option maxRecDepth 100000 in
theorem w_X7_chance_L22 {p : Program} {l : Launch} {e : Env} {s : State} {m : MethodId} {below : List Frame} {meth : Method} {c : Code} {G : va_G} {cA : Nat → ClassId} {A : Nat → Prop} {xa : Nat → Nat} {ka : Nat → Nat} {ra : Nat → Nat} {na : Nat → Nat} {ia : Nat → Nat} {ua : Nat → Nat} {va : Nat → Nat} {ca : Nat → Nat} {za : Nat → Nat} {pa : Nat → Nat} {qa : Nat → Nat} {X : Tr} {K : Tr} {R : Tr} {P : Tr} {P2 : Tr} {L2 : Lo} {Tn : Tr} {Ti : Tr} {Tv : Tr} {C : Tr} {Z : Tr} {q0 : Nat} {q1 : Nat} {q3 : Nat} {q4 : Nat} {q5 : Nat} {x1₀ : Int32} {x2₀ : Int32} {r0 : Int32} {L' : Lo} {Tu' : Tr} {q2' : Nat} {x2 : Int32} (F : tF p s m ([.ref (xa 0), .int x1₀, .int x2₀] : List Value).toArray meth c G cA A RX7 cX7_chance 6 (some .int))    (N : Nat) : ∀ (x3 : Int32) (x4 : Int32) (x5 : Int32) (L : Lo) (Tu : Tr) (q2 : Nat) (H : Heap) (locs : List Loc) (ls : Array Slot), lpF (fun _ _ _ _ _ _ => none) (fB_X7_chance_L22 pa qa P Tn q0 q4 x2) N x3 x4 x5 L Tu q2 = some (r0, L', Tu', q2') → va_P G vwCl (wX cA xa ka ra na ia ua va ca za pa qa X K R P L P2 L2 Tn Ti Tu Tv C Z q0 q1 q2 q3 q4 q5) H → va_D A (wX cA xa ka ra na ia ua va ca za pa qa X K R P L P2 L2 Tn Ti Tu Tv C Z q0 q1 q2 q3 q4 q5) → va_S A s.heap H locs → lv_has ls 6 [(0, .ref (xa 0)), (2, .int x2), (3, .int x3), (4, .int x4), (5, .int x5)] → G_X7_chance p l e s m below meth c G cA A xa ka ra na ia ua va ca za pa qa X K R P P2 L2 Tn Ti Tv C Z q0 q1 q3 q4 q5 x1₀ x2₀ r0 L' Tu' q2' H locs (F0 m 22 ls []) := by
  obtain ⟨hx, hb, hr, hml, hT, hown, hlocks, hK, hN, hA⟩ := id F
  induction N with
  | zero =>
    intro x3 x4 x5 L Tu q2 H locs ls h
    replace h : (none : Option (Int32 × Lo × Tr × Nat)) = some (r0, L', Tu', q2') := h
    cases h
  | succ N hk22 =>
    intro x3 x4 x5 L Tu q2 H locs ls h hP hD hS hl
    replace h : fB_X7_chance_L22 pa qa P Tn q0 q4 x2 (lpF (fun _ _ _ _ _ _ => none) (fB_X7_chance_L22 pa qa P Tn q0 q4 x2) N) x3 x4 x5 L Tu q2 = some (r0, L', Tu', q2') := h
    generalize hk22e : lpF (fun _ _ _ _ _ _ => none) (fB_X7_chance_L22 pa qa P Tn q0 q4 x2) N = k22 at h hk22
    unfold fB_X7_chance_L22 at h
    refine lv_iload hx hb dX7_chance_22 (lv_at hl 4 rfl) ?_
    refine lv_bipush (v := 10) hx hb dX7_chance_24 (by decide) ?_
    refine lv_icmp_ge (tgt := 88) hx hb dX7_chance_26 (by decide) (fun c6 => ?_) (fun c6 => ?_)
    · replace h := tx_pos c6 h
      refine lv_iload_n hx hb dX7_chance_88 rfl (lv_at hl 2 rfl) ?_
      obtain ⟨rfl, rfl, rfl, rfl⟩ := tx_4 h
      exact W.iret hx hb hr (fun t ht hW => ⟨⟨_, (), rfl, rfl, by rw [ht]; exact hP, hD⟩, hS.F ht⟩) hS.2.2 dX7_chance_89
    · replace h := tx_neg c6 h
      refine lv_aload_n hx hb dX7_chance_29 rfl (lv_at hl 0 rfl) ?_
      replace h := tx_bd h
      obtain ⟨⟨Tu_7, q2_8⟩, hc9, h⟩ := h
      replace h := tx_let (y := Tu_7) rfl h
      replace h := tx_let (y := q2_8) rfl h
      refine tz_v (As := []) (rest := []) ⟨hx, hb, hml, hown, hT⟩ hP hD hS hA hK hN (c_X7_startTrial l G cA H.size xa ka ra na ia ua va ca za pa qa X K R P L P2 L2 Tn Ti Tu Tv C Z q0 q1 q2 q3 q4 q5  Tu_7 q2_8 hc9) (tq_gV kw_46_17 kw_46_18 kw_46_19 kw_1_2 kw_46_20) rfl rfl dkdV_yX7_startTrial_0 (Nat.le_of_ble_eq_true rfl) (Nat.le_of_ble_eq_true rfl) (ci := 7) (q0 := 0) rfl rfl rfl hl.1 rfl (Nat.le_of_ble_eq_true rfl) dX7_chance_30 ⟨Nat.le_of_ble_eq_true rfl, Nat.le_of_ble_eq_true rfl⟩ (fun _ H locs z10 hP hD hS => ?_)
      have hP : va_P G vwCl (wX cA xa ka ra na ia ua va ca za pa qa X K R P L P2 L2 Tn Ti Tu_7 Tv C Z q0 q1 q2_8 q3 q4 q5) H := hP
      have hD : va_D A (wX cA xa ka ra na ia ua va ca za pa qa X K R P L P2 L2 Tn Ti Tu_7 Tv C Z q0 q1 q2_8 q3 q4 q5) := hD
      refine lv_aload_n hx hb dX7_chance_33 rfl (lv_at hl 0 rfl) ?_
      refine va_get (D := G) (ci := 7) (v := .ref (ua 0)) (C := RX7) (T := TX7) (N := 12) hx hb hT ku_7 hown hK hP 0 rfl rfl 5 (by decide) (hT _ kw_2_3) (fun _ h9 => h9) rfl dX7_chance_34 ?_
      refine lv_iconst (v := 1) hx hb dX7_chance_37 (by decide) ?_
      refine va_put (D := G) (ci := 6) (v := .int 1) (ty := .boolean) (C := RX6) (T := TX6) (N := 20) hx hb hT ku_6 tyX6 tyX6_ok nmX6 hown hK hP hD hS 77 rfl rfl 5 (by decide) (hT _ kw_40_6) (fun _ h9 => h9) rfl (by decide +kernel) rfl rfl (Nat.le_of_ble_eq_true rfl) dX7_chance_38 (fun H locs hP hD hS => ?_)
      replace h := tx_lt h
      obtain ⟨Tu_11, eTu_11, h⟩ := h
      rw [sX_ua_f5, eTu_11] at hP hD
      refine lv_aload_n hx hb dX7_chance_41 rfl (lv_at hl 0 rfl) ?_
      refine va_get (D := G) (ci := 7) (v := .ref (ua 0)) (C := RX7) (T := TX7) (N := 12) hx hb hT ku_7 hown hK hP 0 rfl rfl 5 (by decide) (hT _ kw_2_3) (fun _ h9 => h9) rfl dX7_chance_42 ?_
      refine lv_iload hx hb dX7_chance_45 (lv_at hl 3 rfl) ?_
      refine va_put (D := G) (ci := 6) (v := .int x4) (ty := .int) (C := RX6) (T := TX6) (N := 20) hx hb hT ku_6 tyX6 tyX6_ok nmX6 hown hK hP hD hS 77 rfl rfl 2 (by decide) (hT _ kw_57_2) (fun _ h9 => h9) rfl (by decide +kernel) rfl rfl (Nat.le_of_ble_eq_true rfl) dX7_chance_47 (fun H locs hP hD hS => ?_)
      replace h := tx_lt h
      obtain ⟨Tu_12, eTu_12, h⟩ := h
      rw [sX_ua_f2, eTu_12] at hP hD
      refine lv_aload_n hx hb dX7_chance_50 rfl (lv_at hl 0 rfl) ?_
      refine va_get (D := G) (ci := 7) (v := .ref (ua 0)) (C := RX7) (T := TX7) (N := 12) hx hb hT ku_7 hown hK hP 0 rfl rfl 5 (by decide) (hT _ kw_2_3) (fun _ h9 => h9) rfl dX7_chance_51 ?_
      replace h := tx_ck h
      obtain ⟨g13, h⟩ := h
      have eg13 := of_decide_eq_true g13
      subst eg13
      replace h := tx_bd h
      obtain ⟨⟨Tu_14, L_15⟩, hc16, h⟩ := h
      replace h := tx_let (y := Tu_14) rfl h
      replace h := tx_let (y := L_15) rfl h
      refine tw_cv pX_ua hP hD hS hA (va_runV (As := []) (rest := []) ⟨hx, hb, hml, hown, hT⟩ (c_X6_runToEnd l G cA H.size ua pa Tu_12 P L  Tu_14 L_15 hc16) (cwV 0 hT (tq_gV kw_47_10 kw_47_11 kw_47_12 kw_1_23 kw_47_13) rfl rfl rfl dkdV_yX6_runToEnd_0 ⟨Nat.le_of_ble_eq_true rfl, Nat.le_of_ble_eq_true rfl⟩) ⟨(tw_pre pX_ua hP hD hK hN).1, va_recv hK hP (ci := 6) (q0 := 77) rfl rfl, (tw_pre pX_ua hP hD hK hN).2⟩ rfl rfl hl.1 rfl (lv_room (Nat.le_of_ble_eq_true rfl)) dX7_chance_54 ⟨Nat.le_of_ble_eq_true rfl, Nat.le_of_ble_eq_true rfl⟩) (fun _ H locs z17 hP hD hS => ?_)
      replace hP := tw_P pX_ua.symm hP
      replace hD := tw_D pX_ua.symm hD
      have hP : va_P G vwCl (wX cA xa ka ra na ia ua va ca za pa qa X K R P L_15 P2 L2 Tn Ti Tu_14 Tv C Z q0 q1 (pa 0) q3 q4 q5) H := hP
      have hD : va_D A (wX cA xa ka ra na ia ua va ca za pa qa X K R P L_15 P2 L2 Tn Ti Tu_14 Tv C Z q0 q1 (pa 0) q3 q4 q5) := hD
      refine lv_aload_n hx hb dX7_chance_57 rfl (lv_at hl 0 rfl) ?_
      refine va_get (D := G) (ci := 7) (v := .ref (ua 0)) (C := RX7) (T := TX7) (N := 12) hx hb hT ku_7 hown hK hP 0 rfl rfl 5 (by decide) (hT _ kw_2_3) (fun _ h9 => h9) rfl dX7_chance_58 ?_
      refine va_get (D := G) (ci := 6) (v := .int (Tu_14 0 2)) (C := RX6) (T := TX6) (N := 20) hx hb hT ku_6 hown hK hP 77 rfl rfl 2 (by decide) (hT _ kw_57_2) (fun _ h9 => h9) rfl dX7_chance_61 ?_
      refine lv_topi (fun y18 ey18 => ?_)
      replace h := tx_let ey18 h
      refine lv_istore (lv' := [(4, .int y18), (0, .ref (xa 0)), (2, .int x2), (3, .int x3), (5, .int x5)]) hx hb dX7_chance_64 hl (by decide) rfl (fun ls hl => ?_)
      refine lv_aload_n hx hb dX7_chance_66 rfl (lv_at hl 1 rfl) ?_
      refine va_get (D := G) (ci := 7) (v := .ref (ua 0)) (C := RX7) (T := TX7) (N := 12) hx hb hT ku_7 hown hK hP 0 rfl rfl 5 (by decide) (hT _ kw_2_3) (fun _ h9 => h9) rfl dX7_chance_67 ?_
      refine va_get (D := G) (ci := 6) (v := .ref (ua 14)) (C := RX6) (T := TX6) (N := 20) hx hb hT ku_6 hown hK hP 77 rfl rfl 13 (by decide) (hT _ kw_30_3) (fun _ h9 => h9) rfl dX7_chance_70 ?_
      refine lv_iload_n hx hb dX7_chance_73 rfl (lv_at hl 2 rfl) ?_
      replace h := tx_ck h
      obtain ⟨g19, h⟩ := h
      refine va_iald (i := x2) hx hb hK hP 83 0 rfl rfl (tx_in g19) dX7_chance_74 ?_
      refine lv_iconst (v := 2) hx hb dX7_chance_75 (by decide) ?_
      refine lv_icmp_ne (tgt := 82) hx hb dX7_chance_76 (by decide) (fun c20 => ?_) (fun c20 => ?_)
      · replace h := tx_neg c20 h
        replace h := tx_lt h
        obtain ⟨y21, ey21, h⟩ := h
        refine lv_iinc (v := y21) (lv' := [(5, .int y21), (4, .int y18), (0, .ref (xa 0)), (2, .int x2), (3, .int x3)]) hx hb dX7_chance_82 hl (k := 4) rfl ey21 (by decide) rfl (fun ls hl => ?_)
        refine lv_goto (tgt := 22) hx hb dX7_chance_85 (by decide) ?_
        exact hk22 x3 y18 y21 L_15 Tu_14 (pa 0) H locs ls h hP hD hS (lv_sub hl [2, 3, 4, 1, 0] rfl)
      · replace h := tx_pos c20 h
        replace h := tx_lt h
        obtain ⟨y22, ey22, h⟩ := h
        refine lv_iinc (v := y22) (lv' := [(3, .int y22), (4, .int y18), (0, .ref (xa 0)), (2, .int x2), (5, .int x5)]) hx hb dX7_chance_79 hl (k := 3) rfl ey22 (by decide) rfl (fun ls hl => ?_)
        replace h := tx_lt h
        obtain ⟨y23, ey23, h⟩ := h
        refine lv_iinc (v := y23) (lv' := [(5, .int y23), (3, .int y22), (4, .int y18), (0, .ref (xa 0)), (2, .int x2)]) hx hb dX7_chance_82 hl (k := 4) rfl ey23 (by decide) rfl (fun ls hl => ?_)
        refine lv_goto (tgt := 22) hx hb dX7_chance_85 (by decide) ?_
        exact hk22 y22 y18 y23 L_15 Tu_14 (pa 0) H locs ls h hP hD hS (lv_sub hl [3, 4, 1, 2, 0] rfl)
set_option maxHeartbeats 4000000 in
set_option maxRecDepth 100000 in
theorem c_X7_chance (l : Launch) (G : va_G) (cA : Nat → ClassId) (sz : Nat) (xa : Nat → Nat) (ka : Nat → Nat) (ra : Nat → Nat) (na : Nat → Nat) (ia : Nat → Nat) (ua : Nat → Nat) (va : Nat → Nat) (ca : Nat → Nat) (za : Nat → Nat) (pa : Nat → Nat) (qa : Nat → Nat) (X : Tr) (K : Tr) (R : Tr) (P : Tr) (L : Lo) (P2 : Tr) (L2 : Lo) (Tn : Tr) (Ti : Tr) (Tu : Tr) (Tv : Tr) (C : Tr) (Z : Tr) (q0 : Nat) (q1 : Nat) (q2 : Nat) (q3 : Nat) (q4 : Nat) (q5 : Nat) (x1 : Int32) (x2 : Int32)  (r0 : Int32) (L' : Lo) (Tu' : Tr) (q2' : Nat) (h : f_X7_chance pa qa P L Tn Tu q0 q2 q4 x1 x2 = some (r0, L', Tu', q2')) : Met l yX7_chance (.code yX7_chance cX7_chance 6 (some .int) :: T0) ({ frames := 6, cells := 0, slots := 0, locals := 153 } : Room) (tqP G cA [.ref (xa 0), .int x1, .int x2] (wX cA xa ka ra na ia ua va ca za pa qa X K R P L P2 L2 Tn Ti Tu Tv C Z q0 q1 q2 q3 q4 q5) sz) (tqQi G cA (fun (r : Int32) (_ : Unit) => r = r0) (fun (_ : Unit) => wX cA xa ka ra na ia ua va ca za pa qa X K R P (L') P2 L2 Tn Ti (Tu') Tv C Z q0 q1 (q2') q3 q4 q5) (va_A (wX cA xa ka ra na ia ua va ca za pa qa X K R P L P2 L2 Tn Ti Tu Tv C Z q0 q1 q2 q3 q4 q5) sz)) 0 0 (va_A (wX cA xa ka ra na ia ua va ca za pa qa X K R P L P2 L2 Tn Ti Tu Tv C Z q0 q1 q2 q3 q4 q5) sz) := by
  refine Met.ofW (cc := cX7_chance) (maxL := 6) (ret := (some .int)) (by decide) rfl ?_
  intro p e s m args below meth c s₁ B hml hv
  obtain ⟨rfl, hsz, hP, hK, hD0, hN⟩ := hv
  have hx := B.exec
  have hb := B.bytes
  have hr := B.returns
  have hts := atoms_spec (ws := .code yX7_chance cX7_chance 6 (some .int) :: T0) B.pre
  have hT : ∀ w ∈ T0, w.before _ s = true := fun w h => hts w (List.mem_cons_of_mem _ h)
  have hown : s.vm.findClass RX7 = some m.cls := findClass_of_methodNamed B.named
  have hlocks := B.notSynchronized
  subst hsz
  have hD := hD0.self (sz := s.heap.size)
  generalize hAe : va_A (wX cA xa ka ra na ia ua va ca za pa qa X K R P L P2 L2 Tn Ti Tu Tv C Z q0 q1 q2 q3 q4 q5) s.heap.size = A at hD ⊢
  have hA : ∀ q : Nat, s.heap.size ≤ q → A q := fun q h => by rw [← hAe]; exact Or.inr h
  have hS : va_S A s.heap s.heap [] := va_S.rf
  have hl := lv_entry ([.ref (xa 0), .int x1, .int x2]) (n := 6) (Nat.le_of_ble_eq_true rfl)
  rw [lg_entry_eq]
  generalize (lg_sl ([.ref (xa 0), .int x1, .int x2]) ++ List.replicate (6 - (lg_sl ([.ref (xa 0), .int x1, .int x2])).length) Slot.unset).toArray = ls at hl ⊢
  have hl : lv_has ls 6 [(0, .ref (xa 0)), (1, .int x1), (2, .int x2)] := hl
  have F : tF p s m ([.ref (xa 0), .int x1, .int x2] : List Value).toArray meth c G cA A RX7 cX7_chance 6 (some .int) := ⟨hx, hb, hr, hml, hT, hown, hlocks, hK, hN, hA⟩
  obtain ⟨H, hH⟩ : ∃ z, z = s.heap := ⟨_, rfl⟩
  rw [← hH] at hP
  have hS : va_S A s.heap H [] := by rw [hH]; exact hS
  suffices hgo : G_X7_chance p l e s m below meth c G cA A xa ka ra na ia ua va ca za pa qa X K R P P2 L2 Tn Ti Tv C Z q0 q1 q3 q4 q5 x1 x2 r0 L' Tu' q2' H [] (F0 m 0 ls []) by rw [hH] at hgo; exact hgo
  generalize ([] : List Loc) = locs at hS ⊢
  unfold f_X7_chance at h
  refine lv_iload_n hx hb dX7_chance_0 rfl (lv_at hl 1 rfl) ?_
  refine lv_if_lt (tgt := 12) hx hb dX7_chance_1 (by decide) (fun c1 => ?_) (fun c1 => ?_)
  · replace h := tx_pos c1 h
    refine lv_iconst (v := (-1)) hx hb dX7_chance_12 (by decide) ?_
    obtain ⟨rfl, rfl, rfl, rfl⟩ := tx_4 h
    exact W.iret hx hb hr (fun t ht hW => ⟨⟨_, (), rfl, rfl, by rw [ht]; exact hP, hD⟩, hS.F ht⟩) hS.2.2 dX7_chance_13
  · replace h := tx_neg c1 h
    refine lv_aload_n hx hb dX7_chance_4 rfl (lv_at hl 0 rfl) ?_
    refine lv_iload_n hx hb dX7_chance_5 rfl (lv_at hl 2 rfl) ?_
    replace h := tx_bd h
    obtain ⟨r2, hc3, h⟩ := h
    refine tz_i (As := [.int x2]) (rest := []) ⟨hx, hb, hml, hown, hT⟩ hP hD hS hA hK hN (c_X7_isPiece l G cA H.size xa ka ra na ia ua va ca za pa qa X K R P L P2 L2 Tn Ti Tu Tv C Z q0 q1 q2 q3 q4 q5 x2  r2 hc3) (tq_gV kw_30_5 kw_30_6 kw_30_7 kw_1_2 kw_30_8) rfl rfl dkdV_yX7_isPiece_1 (Nat.le_of_ble_eq_true rfl) (Nat.le_of_ble_eq_true rfl) (ci := 7) (q0 := 0) rfl rfl rfl hl.1 rfl (Nat.le_of_ble_eq_true rfl) dX7_chance_6 ⟨Nat.le_of_ble_eq_true rfl, Nat.le_of_ble_eq_true rfl⟩ (fun _ _ H locs z4 hP hD hS => ?_)
    have z4 := z4.symm
    subst z4
    have hP : va_P G vwCl (wX cA xa ka ra na ia ua va ca za pa qa X K R P L P2 L2 Tn Ti Tu Tv C Z q0 q1 q2 q3 q4 q5) H := hP
    have hD : va_D A (wX cA xa ka ra na ia ua va ca za pa qa X K R P L P2 L2 Tn Ti Tu Tv C Z q0 q1 q2 q3 q4 q5) := hD
    refine lv_if_ne (tgt := 14) hx hb dX7_chance_9 (by decide) (fun c5 => ?_) (fun c5 => ?_)
    · replace h := tx_neg c5 h
      refine lv_iconst (v := 0) hx hb dX7_chance_14 (by decide) ?_
      refine lv_istore_n (lv' := [(3, .int 0), (0, .ref (xa 0)), (1, .int x1), (2, .int x2)]) hx hb dX7_chance_15 rfl hl (by decide) rfl (fun ls hl => ?_)
      refine lv_iload_n hx hb dX7_chance_16 rfl (lv_at hl 2 rfl) ?_
      refine lv_istore (lv' := [(4, .int x1), (3, .int 0), (0, .ref (xa 0)), (1, .int x1), (2, .int x2)]) hx hb dX7_chance_17 hl (by decide) rfl (fun ls hl => ?_)
      refine lv_iconst (v := 0) hx hb dX7_chance_19 (by decide) ?_
      refine lv_istore (lv' := [(5, .int 0), (4, .int x1), (3, .int 0), (0, .ref (xa 0)), (1, .int x1), (2, .int x2)]) hx hb dX7_chance_20 hl (by decide) rfl (fun ls hl => ?_)
      exact w_X7_chance_L22 F 2000 0 x1 0 L Tu q2 H locs ls h hP hD hS (lv_sub hl [3, 5, 2, 1, 0] rfl)
    · replace h := tx_pos c5 h
      refine lv_iconst (v := (-1)) hx hb dX7_chance_12 (by decide) ?_
      obtain ⟨rfl, rfl, rfl, rfl⟩ := tx_4 h
      exact W.iret hx hb hr (fun t ht hW => ⟨⟨_, (), rfl, rfl, by rw [ht]; exact hP, hD⟩, hS.F ht⟩) hS.2.2 dX7_chance_13
abbrev G_X7_comingLeft (p : Program) (l : Launch) (e : Env) (s : State) (m : MethodId) (below : List Frame) (meth : Method) (c : Code) (G : va_G) (cA : Nat → ClassId) (A : Nat → Prop) (xa : Nat → Nat) (ka : Nat → Nat) (ra : Nat → Nat) (na : Nat → Nat) (ia : Nat → Nat) (ua : Nat → Nat) (va : Nat → Nat) (ca : Nat → Nat) (za : Nat → Nat) (pa : Nat → Nat) (qa : Nat → Nat) (X : Tr) (K : Tr) (R : Tr) (P : Tr) (L : Lo) (P2 : Tr) (L2 : Lo) (Tn : Tr) (Ti : Tr) (Tu : Tr) (Tv : Tr) (C : Tr) (Z : Tr) (q0 : Nat) (q1 : Nat) (q2 : Nat) (q3 : Nat) (q4 : Nat) (q5 : Nat) (x1 : Int32) (r0 : Int32) (H : Heap) (locs : List Loc) (g : JFrame) : Prop := W p l e (headSpec (.code yX7_comingLeft cX7_comingLeft 3 (some .boolean) :: T0) ({ frames := 0, cells := 0, slots := 0, locals := 0 } : Room)).room s m ([.ref (xa 0), .int x1] : List Value).toArray below meth c H locs 0 0 (MQ below (tqQi G cA (fun (r : Int32) (_ : Unit) => r = r0) (fun (_ : Unit) => wX cA xa ka ra na ia ua va ca za pa qa X K R P L P2 L2 Tn Ti Tu Tv C Z q0 q1 q2 q3 q4 q5) A) ([.ref (xa 0), .int x1] : List Value).toArray s 0 0 A) g
set_option maxHeartbeats 4000000 in
set_option maxRecDepth 100000 in
theorem w_X7_comingLeft_L2 {p : Program} {l : Launch} {e : Env} {s : State} {m : MethodId} {below : List Frame} {meth : Method} {c : Code} {G : va_G} {cA : Nat → ClassId} {A : Nat → Prop} {xa : Nat → Nat} {ka : Nat → Nat} {ra : Nat → Nat} {na : Nat → Nat} {ia : Nat → Nat} {ua : Nat → Nat} {va : Nat → Nat} {ca : Nat → Nat} {za : Nat → Nat} {pa : Nat → Nat} {qa : Nat → Nat} {X : Tr} {K : Tr} {R : Tr} {P : Tr} {L : Lo} {P2 : Tr} {L2 : Lo} {Tn : Tr} {Ti : Tr} {Tu : Tr} {Tv : Tr} {C : Tr} {Z : Tr} {q0 : Nat} {q1 : Nat} {q2 : Nat} {q3 : Nat} {q4 : Nat} {q5 : Nat} {x1₀ : Int32} {r0 : Int32} {x1 : Int32} (F : tF p s m ([.ref (xa 0), .int x1₀] : List Value).toArray meth c G cA A RX7 cX7_comingLeft 3 (some .boolean))    (N : Nat) : ∀ (x2 : Int32) (H : Heap) (locs : List Loc) (ls : Array Slot), lpF (fun _ => none) (fB_X7_comingLeft_L2 pa qa X Tu x1) N x2 = some r0 → va_P G vwCl (wX cA xa ka ra na ia ua va ca za pa qa X K R P L P2 L2 Tn Ti Tu Tv C Z q0 q1 q2 q3 q4 q5) H → va_D A (wX cA xa ka ra na ia ua va ca za pa qa X K R P L P2 L2 Tn Ti Tu Tv C Z q0 q1 q2 q3 q4 q5) → va_S A s.heap H locs → lv_has ls 3 [(0, .ref (xa 0)), (1, .int x1), (2, .int x2)] → G_X7_comingLeft p l e s m below meth c G cA A xa ka ra na ia ua va ca za pa qa X K R P L P2 L2 Tn Ti Tu Tv C Z q0 q1 q2 q3 q4 q5 x1₀ r0 H locs (F0 m 2 ls []) := by
  obtain ⟨hx, hb, hr, hml, hT, hown, hlocks, hK, hN, hA⟩ := id F
  induction N with
  | zero =>
    intro x2 H locs ls h
    replace h : (none : Option (Int32)) = some r0 := h
    cases h
  | succ N hk2 =>
    intro x2 H locs ls h hP hD hS hl
    replace h : fB_X7_comingLeft_L2 pa qa X Tu x1 (lpF (fun _ => none) (fB_X7_comingLeft_L2 pa qa X Tu x1) N) x2 = some r0 := h
    generalize hk2e : lpF (fun _ => none) (fB_X7_comingLeft_L2 pa qa X Tu x1) N = k2 at h hk2
    unfold fB_X7_comingLeft_L2 at h
    refine lv_iload_n hx hb dX7_comingLeft_2 rfl (lv_at hl 2 rfl) ?_
    refine lv_iload_n hx hb dX7_comingLeft_3 rfl (lv_at hl 1 rfl) ?_
    refine lv_icmp_ge (tgt := 33) hx hb dX7_comingLeft_4 (by decide) (fun c1 => ?_) (fun c1 => ?_)
    · replace h := tx_pos c1 h
      refine lv_iconst (v := 0) hx hb dX7_comingLeft_33 (by decide) ?_
      obtain rfl := tx_1 h
      exact W.zret (ty := .boolean) hx hb hr rfl (fun t ht hW => ⟨⟨_, (), rfl, rfl, by rw [ht]; exact hP, hD⟩, hS.F ht⟩) hS.2.2 dX7_comingLeft_34
    · replace h := tx_neg c1 h
      refine lv_aload_n hx hb dX7_comingLeft_7 rfl (lv_at hl 0 rfl) ?_
      refine va_get (D := G) (ci := 7) (v := .ref (ua 0)) (C := RX7) (T := TX7) (N := 12) hx hb hT ku_7 hown hK hP 0 rfl rfl 5 (by decide) (hT _ kw_2_3) (fun _ h9 => h9) rfl dX7_comingLeft_8 ?_
      refine va_get (D := G) (ci := 6) (v := .ref (ua 14)) (C := RX6) (T := TX6) (N := 20) hx hb hT ku_6 hown hK hP 77 rfl rfl 13 (by decide) (hT _ kw_30_3) (fun _ h9 => h9) rfl dX7_comingLeft_11 ?_
      refine lv_aload_n hx hb dX7_comingLeft_14 rfl (lv_at hl 0 rfl) ?_
      refine va_get (D := G) (ci := 7) (v := .ref (xa 10)) (C := RX7) (T := TX7) (N := 12) hx hb hT ku_7 hown hK hP 0 rfl rfl 9 (by decide) (hT _ kw_2_14) (fun _ h9 => h9) rfl dX7_comingLeft_15 ?_
      refine lv_iload_n hx hb dX7_comingLeft_18 rfl (lv_at hl 2 rfl) ?_
      replace h := tx_ck h
      obtain ⟨g2, h⟩ := h
      refine va_iald (i := x2) hx hb hK hP 1 0 rfl rfl (tx_in g2) dX7_comingLeft_19 ?_
      replace h := tx_ck h
      obtain ⟨g3, h⟩ := h
      refine va_iald (i := (X 10 x2.toNatClampNeg)) hx hb hK hP 83 0 rfl rfl (tx_in g3) dX7_comingLeft_20 ?_
      refine lv_iconst (v := 5) hx hb dX7_comingLeft_21 (by decide) ?_
      refine lv_icmp_ne (tgt := 27) hx hb dX7_comingLeft_22 (by decide) (fun c4 => ?_) (fun c4 => ?_)
      · replace h := tx_neg c4 h
        replace h := tx_lt h
        obtain ⟨y5, ey5, h⟩ := h
        refine lv_iinc (v := y5) (lv' := [(2, .int y5), (0, .ref (xa 0)), (1, .int x1)]) hx hb dX7_comingLeft_27 hl (k := 2) rfl ey5 (by decide) rfl (fun ls hl => ?_)
        refine lv_goto (tgt := 2) hx hb dX7_comingLeft_30 (by decide) ?_
        exact hk2 y5 H locs ls h hP hD hS (lv_sub hl [1, 2, 0] rfl)
      · replace h := tx_pos c4 h
        refine lv_iconst (v := 1) hx hb dX7_comingLeft_25 (by decide) ?_
        obtain rfl := tx_1 h
        exact W.zret (ty := .boolean) hx hb hr rfl (fun t ht hW => ⟨⟨_, (), rfl, rfl, by rw [ht]; exact hP, hD⟩, hS.F ht⟩) hS.2.2 dX7_comingLeft_26
set_option maxHeartbeats 4000000 in
set_option maxRecDepth 100000 in
theorem c_X7_comingLeft (l : Launch) (G : va_G) (cA : Nat → ClassId) (sz : Nat) (xa : Nat → Nat) (ka : Nat → Nat) (ra : Nat → Nat) (na : Nat → Nat) (ia : Nat → Nat) (ua : Nat → Nat) (va : Nat → Nat) (ca : Nat → Nat) (za : Nat → Nat) (pa : Nat → Nat) (qa : Nat → Nat) (X : Tr) (K : Tr) (R : Tr) (P : Tr) (L : Lo) (P2 : Tr) (L2 : Lo) (Tn : Tr) (Ti : Tr) (Tu : Tr) (Tv : Tr) (C : Tr) (Z : Tr) (q0 : Nat) (q1 : Nat) (q2 : Nat) (q3 : Nat) (q4 : Nat) (q5 : Nat) (x1 : Int32)  (r0 : Int32) (h : f_X7_comingLeft pa qa X Tu x1 = some r0) : Met l yX7_comingLeft (.code yX7_comingLeft cX7_comingLeft 3 (some .boolean) :: T0) ({ frames := 0, cells := 0, slots := 0, locals := 0 } : Room) (tqP G cA [.ref (xa 0), .int x1] (wX cA xa ka ra na ia ua va ca za pa qa X K R P L P2 L2 Tn Ti Tu Tv C Z q0 q1 q2 q3 q4 q5) sz) (tqQi G cA (fun (r : Int32) (_ : Unit) => r = r0) (fun (_ : Unit) => wX cA xa ka ra na ia ua va ca za pa qa X K R P L P2 L2 Tn Ti Tu Tv C Z q0 q1 q2 q3 q4 q5) (va_A (wX cA xa ka ra na ia ua va ca za pa qa X K R P L P2 L2 Tn Ti Tu Tv C Z q0 q1 q2 q3 q4 q5) sz)) 0 0 (va_A (wX cA xa ka ra na ia ua va ca za pa qa X K R P L P2 L2 Tn Ti Tu Tv C Z q0 q1 q2 q3 q4 q5) sz) := by
  refine Met.ofW (cc := cX7_comingLeft) (maxL := 3) (ret := (some .boolean)) (by decide) rfl ?_
  intro p e s m args below meth c s₁ B hml hv
  obtain ⟨rfl, hsz, hP, hK, hD0, hN⟩ := hv
  have hx := B.exec
  have hb := B.bytes
  have hr := B.returns
  have hts := atoms_spec (ws := .code yX7_comingLeft cX7_comingLeft 3 (some .boolean) :: T0) B.pre
  have hT : ∀ w ∈ T0, w.before _ s = true := fun w h => hts w (List.mem_cons_of_mem _ h)
  have hown : s.vm.findClass RX7 = some m.cls := findClass_of_methodNamed B.named
  have hlocks := B.notSynchronized
  subst hsz
  have hD := hD0.self (sz := s.heap.size)
  generalize hAe : va_A (wX cA xa ka ra na ia ua va ca za pa qa X K R P L P2 L2 Tn Ti Tu Tv C Z q0 q1 q2 q3 q4 q5) s.heap.size = A at hD ⊢
  have hA : ∀ q : Nat, s.heap.size ≤ q → A q := fun q h => by rw [← hAe]; exact Or.inr h
  have hS : va_S A s.heap s.heap [] := va_S.rf
  have hl := lv_entry ([.ref (xa 0), .int x1]) (n := 3) (Nat.le_of_ble_eq_true rfl)
  rw [lg_entry_eq]
  generalize (lg_sl ([.ref (xa 0), .int x1]) ++ List.replicate (3 - (lg_sl ([.ref (xa 0), .int x1])).length) Slot.unset).toArray = ls at hl ⊢
  have hl : lv_has ls 3 [(0, .ref (xa 0)), (1, .int x1)] := hl
  have F : tF p s m ([.ref (xa 0), .int x1] : List Value).toArray meth c G cA A RX7 cX7_comingLeft 3 (some .boolean) := ⟨hx, hb, hr, hml, hT, hown, hlocks, hK, hN, hA⟩
  obtain ⟨H, hH⟩ : ∃ z, z = s.heap := ⟨_, rfl⟩
  rw [← hH] at hP
  have hS : va_S A s.heap H [] := by rw [hH]; exact hS
  suffices hgo : G_X7_comingLeft p l e s m below meth c G cA A xa ka ra na ia ua va ca za pa qa X K R P L P2 L2 Tn Ti Tu Tv C Z q0 q1 q2 q3 q4 q5 x1 r0 H [] (F0 m 0 ls []) by rw [hH] at hgo; exact hgo
  generalize ([] : List Loc) = locs at hS ⊢
  unfold f_X7_comingLeft at h
  refine lv_iconst (v := 0) hx hb dX7_comingLeft_0 (by decide) ?_
  refine lv_istore_n (lv' := [(2, .int 0), (0, .ref (xa 0)), (1, .int x1)]) hx hb dX7_comingLeft_1 rfl hl (by decide) rfl (fun ls hl => ?_)
  exact w_X7_comingLeft_L2 F 2000 0 H locs ls h hP hD hS (lv_sub hl [1, 2, 0] rfl)
abbrev G_X7_costOf (p : Program) (l : Launch) (e : Env) (s : State) (m : MethodId) (below : List Frame) (meth : Method) (c : Code) (G : va_G) (cA : Nat → ClassId) (A : Nat → Prop) (xa : Nat → Nat) (ka : Nat → Nat) (ra : Nat → Nat) (na : Nat → Nat) (ia : Nat → Nat) (ua : Nat → Nat) (va : Nat → Nat) (ca : Nat → Nat) (za : Nat → Nat) (pa : Nat → Nat) (qa : Nat → Nat) (X : Tr) (K : Tr) (R : Tr) (P : Tr) (L : Lo) (P2 : Tr) (L2 : Lo) (Tn : Tr) (Ti : Tr) (Tu : Tr) (Tv : Tr) (C : Tr) (Z : Tr) (q0 : Nat) (q1 : Nat) (q2 : Nat) (q3 : Nat) (q4 : Nat) (q5 : Nat) (x1 : Int32) (r0 : Int32) (H : Heap) (locs : List Loc) (g : JFrame) : Prop := W p l e (headSpec (.code yX7_costOf cX7_costOf 2 (some .int) :: T0) ({ frames := 0, cells := 0, slots := 0, locals := 0 } : Room)).room s m ([.ref (xa 0), .int x1] : List Value).toArray below meth c H locs 0 0 (MQ below (tqQi G cA (fun (r : Int32) (_ : Unit) => r = r0) (fun (_ : Unit) => wX cA xa ka ra na ia ua va ca za pa qa X K R P L P2 L2 Tn Ti Tu Tv C Z q0 q1 q2 q3 q4 q5) A) ([.ref (xa 0), .int x1] : List Value).toArray s 0 0 A) g
set_option maxHeartbeats 4000000 in
set_option maxRecDepth 100000 in
theorem c_X7_costOf (l : Launch) (G : va_G) (cA : Nat → ClassId) (sz : Nat) (xa : Nat → Nat) (ka : Nat → Nat) (ra : Nat → Nat) (na : Nat → Nat) (ia : Nat → Nat) (ua : Nat → Nat) (va : Nat → Nat) (ca : Nat → Nat) (za : Nat → Nat) (pa : Nat → Nat) (qa : Nat → Nat) (X : Tr) (K : Tr) (R : Tr) (P : Tr) (L : Lo) (P2 : Tr) (L2 : Lo) (Tn : Tr) (Ti : Tr) (Tu : Tr) (Tv : Tr) (C : Tr) (Z : Tr) (q0 : Nat) (q1 : Nat) (q2 : Nat) (q3 : Nat) (q4 : Nat) (q5 : Nat) (x1 : Int32)  (r0 : Int32) (h : f_X7_costOf pa qa P Tu q4 x1 = some r0) : Met l yX7_costOf (.code yX7_costOf cX7_costOf 2 (some .int) :: T0) ({ frames := 0, cells := 0, slots := 0, locals := 0 } : Room) (tqP G cA [.ref (xa 0), .int x1] (wX cA xa ka ra na ia ua va ca za pa qa X K R P L P2 L2 Tn Ti Tu Tv C Z q0 q1 q2 q3 q4 q5) sz) (tqQi G cA (fun (r : Int32) (_ : Unit) => r = r0) (fun (_ : Unit) => wX cA xa ka ra na ia ua va ca za pa qa X K R P L P2 L2 Tn Ti Tu Tv C Z q0 q1 q2 q3 q4 q5) (va_A (wX cA xa ka ra na ia ua va ca za pa qa X K R P L P2 L2 Tn Ti Tu Tv C Z q0 q1 q2 q3 q4 q5) sz)) 0 0 (va_A (wX cA xa ka ra na ia ua va ca za pa qa X K R P L P2 L2 Tn Ti Tu Tv C Z q0 q1 q2 q3 q4 q5) sz) := by
  refine Met.ofW (cc := cX7_costOf) (maxL := 2) (ret := (some .int)) (by decide) rfl ?_
  intro p e s m args below meth c s₁ B hml hv
  obtain ⟨rfl, hsz, hP, hK, hD0, hN⟩ := hv
  have hx := B.exec
  have hb := B.bytes
  have hr := B.returns
  have hts := atoms_spec (ws := .code yX7_costOf cX7_costOf 2 (some .int) :: T0) B.pre
  have hT : ∀ w ∈ T0, w.before _ s = true := fun w h => hts w (List.mem_cons_of_mem _ h)
  have hown : s.vm.findClass RX7 = some m.cls := findClass_of_methodNamed B.named
  have hlocks := B.notSynchronized
  subst hsz
  have hD := hD0.self (sz := s.heap.size)
  generalize hAe : va_A (wX cA xa ka ra na ia ua va ca za pa qa X K R P L P2 L2 Tn Ti Tu Tv C Z q0 q1 q2 q3 q4 q5) s.heap.size = A at hD ⊢
  have hA : ∀ q : Nat, s.heap.size ≤ q → A q := fun q h => by rw [← hAe]; exact Or.inr h
  have hS : va_S A s.heap s.heap [] := va_S.rf
  have hl := lv_entry ([.ref (xa 0), .int x1]) (n := 2) (Nat.le_of_ble_eq_true rfl)
  rw [lg_entry_eq]
  generalize (lg_sl ([.ref (xa 0), .int x1]) ++ List.replicate (2 - (lg_sl ([.ref (xa 0), .int x1])).length) Slot.unset).toArray = ls at hl ⊢
  have hl : lv_has ls 2 [(0, .ref (xa 0)), (1, .int x1)] := hl
  have F : tF p s m ([.ref (xa 0), .int x1] : List Value).toArray meth c G cA A RX7 cX7_costOf 2 (some .int) := ⟨hx, hb, hr, hml, hT, hown, hlocks, hK, hN, hA⟩
  obtain ⟨H, hH⟩ : ∃ z, z = s.heap := ⟨_, rfl⟩
  rw [← hH] at hP
  have hS : va_S A s.heap H [] := by rw [hH]; exact hS
  suffices hgo : G_X7_costOf p l e s m below meth c G cA A xa ka ra na ia ua va ca za pa qa X K R P L P2 L2 Tn Ti Tu Tv C Z q0 q1 q2 q3 q4 q5 x1 r0 H [] (F0 m 0 ls []) by rw [hH] at hgo; exact hgo
  generalize ([] : List Loc) = locs at hS ⊢
  unfold f_X7_costOf at h
  refine lv_aload_n hx hb dX7_costOf_0 rfl (lv_at hl 0 rfl) ?_
  refine va_get (D := G) (ci := 7) (v := .ref (ua 0)) (C := RX7) (T := TX7) (N := 12) hx hb hT ku_7 hown hK hP 0 rfl rfl 5 (by decide) (hT _ kw_2_3) (fun _ h9 => h9) rfl dX7_costOf_1 ?_
  refine va_get (D := G) (ci := 6) (v := .ref (ua 12)) (C := RX6) (T := TX6) (N := 20) hx hb hT ku_6 hown hK hP 77 rfl rfl 11 (by decide) (hT _ kw_29_2) (fun _ h9 => h9) rfl dX7_costOf_4 ?_
  refine lv_aload_n hx hb dX7_costOf_7 rfl (lv_at hl 0 rfl) ?_
  refine va_get (D := G) (ci := 7) (v := .ref q4) (C := RX7) (T := TX7) (N := 12) hx hb hT ku_7 hown hK hP 0 rfl rfl 1 (by decide) (hT _ kw_1_20) (fun _ h9 => h9) rfl dX7_costOf_8 ?_
  replace h := tx_ck h
  obtain ⟨g1, h⟩ := h
  have eg1 := of_decide_eq_true g1
  subst eg1
  refine va_get (D := G) (ci := 2) (v := .ref (pa 14)) (C := RX2) (T := TX2) (N := 19) hx hb hT ku_2 hown hK hP 9 rfl rfl 13 (by decide) (hT _ kw_30_0) (fun _ h9 => h9) rfl dX7_costOf_11 ?_
  refine lv_iload_n hx hb dX7_costOf_14 rfl (lv_at hl 1 rfl) ?_
  replace h := tx_ck h
  obtain ⟨g2, h⟩ := h
  refine va_iald (i := x1) hx hb hK hP 16 0 rfl rfl (tx_in g2) dX7_costOf_15 ?_
  replace h := tx_ck h
  obtain ⟨g3, h⟩ := h
  refine va_iald (i := (P 14 x1.toNatClampNeg)) hx hb hK hP 81 0 rfl rfl (tx_in g3) dX7_costOf_16 ?_
  refine lv_aload_n hx hb dX7_costOf_17 rfl (lv_at hl 0 rfl) ?_
  refine va_get (D := G) (ci := 7) (v := .ref (ua 0)) (C := RX7) (T := TX7) (N := 12) hx hb hT ku_7 hown hK hP 0 rfl rfl 5 (by decide) (hT _ kw_2_3) (fun _ h9 => h9) rfl dX7_costOf_18 ?_
  refine va_get (D := G) (ci := 6) (v := .ref (ua 14)) (C := RX6) (T := TX6) (N := 20) hx hb hT ku_6 hown hK hP 77 rfl rfl 13 (by decide) (hT _ kw_30_3) (fun _ h9 => h9) rfl dX7_costOf_21 ?_
  refine lv_iload_n hx hb dX7_costOf_24 rfl (lv_at hl 1 rfl) ?_
  refine va_iald (i := x1) hx hb hK hP 83 0 rfl rfl (tx_in g2) dX7_costOf_25 ?_
  refine lv_iconst (v := 5) hx hb dX7_costOf_26 (by decide) ?_
  refine lv_icmp_ne (tgt := 36) hx hb dX7_costOf_27 (by decide) (fun c4 => ?_) (fun c4 => ?_)
  · replace h := tx_neg c4 h
    refine lv_iconst (v := 0) hx hb dX7_costOf_36 (by decide) ?_
    refine lv_iadd hx hb dX7_costOf_37 ?_
    obtain rfl := tx_1 h
    exact W.iret hx hb hr (fun t ht hW => ⟨⟨_, (), rfl, rfl, by rw [ht]; exact hP, hD⟩, hS.F ht⟩) hS.2.2 dX7_costOf_38
  · replace h := tx_pos c4 h
    refine lv_sipush (v := 999) hx hb dX7_costOf_30 (by decide) ?_
    refine lv_goto (tgt := 37) hx hb dX7_costOf_33 (by decide) ?_
    refine lv_iadd hx hb dX7_costOf_37 ?_
    obtain rfl := tx_1 h
    exact W.iret hx hb hr (fun t ht hW => ⟨⟨_, (), rfl, rfl, by rw [ht]; exact hP, hD⟩, hS.F ht⟩) hS.2.2 dX7_costOf_38
abbrev G_X4_regarded_x (p : Program) (l : Launch) (e : Env) (s : State) (m : MethodId) (below : List Frame) (meth : Method) (c : Code) (G : va_G) (cA : Nat → ClassId) (A : Nat → Prop) (xa : Nat → Nat) (ka : Nat → Nat) (ra : Nat → Nat) (na : Nat → Nat) (ia : Nat → Nat) (ua : Nat → Nat) (va : Nat → Nat) (ca : Nat → Nat) (za : Nat → Nat) (pa : Nat → Nat) (qa : Nat → Nat) (X : Tr) (K : Tr) (R : Tr) (P : Tr) (L : Lo) (P2 : Tr) (L2 : Lo) (Tn : Tr) (Ti : Tr) (Tu : Tr) (Tv : Tr) (C : Tr) (Z : Tr) (q0 : Nat) (q1 : Nat) (q2 : Nat) (q3 : Nat) (q4 : Nat) (q5 : Nat) (r0 : Int32) (H : Heap) (locs : List Loc) (g : JFrame) : Prop := W p l e (headSpec (.code yX4_regarded cX4_regarded 1 (some .int) :: T0) ({ frames := 0, cells := 0, slots := 0, locals := 0 } : Room)).room s m ([.ref (za 0)] : List Value).toArray below meth c H locs 0 0 (MQ below (tqQi G cA (fun (r : Int32) (_ : Unit) => r = r0) (fun (_ : Unit) => wX cA xa ka ra na ia ua va ca za pa qa X K R P L P2 L2 Tn Ti Tu Tv C Z q0 q1 q2 q3 q4 q5) A) ([.ref (za 0)] : List Value).toArray s 0 0 A) g
set_option maxHeartbeats 4000000 in
set_option maxRecDepth 100000 in
theorem c_X4_regarded_x (l : Launch) (G : va_G) (cA : Nat → ClassId) (sz : Nat) (xa : Nat → Nat) (ka : Nat → Nat) (ra : Nat → Nat) (na : Nat → Nat) (ia : Nat → Nat) (ua : Nat → Nat) (va : Nat → Nat) (ca : Nat → Nat) (za : Nat → Nat) (pa : Nat → Nat) (qa : Nat → Nat) (X : Tr) (K : Tr) (R : Tr) (P : Tr) (L : Lo) (P2 : Tr) (L2 : Lo) (Tn : Tr) (Ti : Tr) (Tu : Tr) (Tv : Tr) (C : Tr) (Z : Tr) (q0 : Nat) (q1 : Nat) (q2 : Nat) (q3 : Nat) (q4 : Nat) (q5 : Nat)  (r0 : Int32) (h : f_X4_regarded_x pa qa Z = some r0) : Met l yX4_regarded (.code yX4_regarded cX4_regarded 1 (some .int) :: T0) ({ frames := 0, cells := 0, slots := 0, locals := 0 } : Room) (tqP G cA [.ref (za 0)] (wX cA xa ka ra na ia ua va ca za pa qa X K R P L P2 L2 Tn Ti Tu Tv C Z q0 q1 q2 q3 q4 q5) sz) (tqQi G cA (fun (r : Int32) (_ : Unit) => r = r0) (fun (_ : Unit) => wX cA xa ka ra na ia ua va ca za pa qa X K R P L P2 L2 Tn Ti Tu Tv C Z q0 q1 q2 q3 q4 q5) (va_A (wX cA xa ka ra na ia ua va ca za pa qa X K R P L P2 L2 Tn Ti Tu Tv C Z q0 q1 q2 q3 q4 q5) sz)) 0 0 (va_A (wX cA xa ka ra na ia ua va ca za pa qa X K R P L P2 L2 Tn Ti Tu Tv C Z q0 q1 q2 q3 q4 q5) sz) := by
  refine Met.ofW (cc := cX4_regarded) (maxL := 1) (ret := (some .int)) (by decide) rfl ?_
  intro p e s m args below meth c s₁ B hml hv
  obtain ⟨rfl, hsz, hP, hK, hD0, hN⟩ := hv
  have hx := B.exec
  have hb := B.bytes
  have hr := B.returns
  have hts := atoms_spec (ws := .code yX4_regarded cX4_regarded 1 (some .int) :: T0) B.pre
  have hT : ∀ w ∈ T0, w.before _ s = true := fun w h => hts w (List.mem_cons_of_mem _ h)
  have hown : s.vm.findClass RX4 = some m.cls := findClass_of_methodNamed B.named
  have hlocks := B.notSynchronized
  subst hsz
  have hD := hD0.self (sz := s.heap.size)
  generalize hAe : va_A (wX cA xa ka ra na ia ua va ca za pa qa X K R P L P2 L2 Tn Ti Tu Tv C Z q0 q1 q2 q3 q4 q5) s.heap.size = A at hD ⊢
  have hA : ∀ q : Nat, s.heap.size ≤ q → A q := fun q h => by rw [← hAe]; exact Or.inr h
  have hS : va_S A s.heap s.heap [] := va_S.rf
  have hl := lv_entry ([.ref (za 0)]) (n := 1) (Nat.le_of_ble_eq_true rfl)
  rw [lg_entry_eq]
  generalize (lg_sl ([.ref (za 0)]) ++ List.replicate (1 - (lg_sl ([.ref (za 0)])).length) Slot.unset).toArray = ls at hl ⊢
  have hl : lv_has ls 1 [(0, .ref (za 0))] := hl
  have F : tF p s m ([.ref (za 0)] : List Value).toArray meth c G cA A RX4 cX4_regarded 1 (some .int) := ⟨hx, hb, hr, hml, hT, hown, hlocks, hK, hN, hA⟩
  obtain ⟨H, hH⟩ : ∃ z, z = s.heap := ⟨_, rfl⟩
  rw [← hH] at hP
  have hS : va_S A s.heap H [] := by rw [hH]; exact hS
  suffices hgo : G_X4_regarded_x p l e s m below meth c G cA A xa ka ra na ia ua va ca za pa qa X K R P L P2 L2 Tn Ti Tu Tv C Z q0 q1 q2 q3 q4 q5 r0 H [] (F0 m 0 ls []) by rw [hH] at hgo; exact hgo
  generalize ([] : List Loc) = locs at hS ⊢
  unfold f_X4_regarded_x at h
  refine lv_aload_n hx hb dX4_regarded_0 rfl (lv_at hl 0 rfl) ?_
  refine va_get (D := G) (ci := 4) (v := .int (Z 0 1)) (C := RX4) (T := TX4) (N := 7) hx hb hT ku_4 hown hK hP 103 rfl rfl 1 (by decide) (hT _ kw_8_23) (fun _ h9 => h9) rfl dX4_regarded_1 ?_
  refine lv_if_ge (tgt := 14) hx hb dX4_regarded_4 (by decide) (fun c1 => ?_) (fun c1 => ?_)
  · replace h := tx_pos c1 h
    refine lv_aload_n hx hb dX4_regarded_14 rfl (lv_at hl 0 rfl) ?_
    refine va_get (D := G) (ci := 4) (v := .int (Z 0 1)) (C := RX4) (T := TX4) (N := 7) hx hb hT ku_4 hown hK hP 103 rfl rfl 1 (by decide) (hT _ kw_8_23) (fun _ h9 => h9) rfl dX4_regarded_15 ?_
    obtain rfl := tx_1 h
    exact W.iret hx hb hr (fun t ht hW => ⟨⟨_, (), rfl, rfl, by rw [ht]; exact hP, hD⟩, hS.F ht⟩) hS.2.2 dX4_regarded_18
  · replace h := tx_neg c1 h
    refine lv_aload_n hx hb dX4_regarded_7 rfl (lv_at hl 0 rfl) ?_
    refine va_get (D := G) (ci := 4) (v := .int (Z 0 0)) (C := RX4) (T := TX4) (N := 7) hx hb hT ku_4 hown hK hP 103 rfl rfl 0 (by decide) (hT _ kw_8_22) (fun _ h9 => h9) rfl dX4_regarded_8 ?_
    refine lv_goto (tgt := 18) hx hb dX4_regarded_11 (by decide) ?_
    obtain rfl := tx_1 h
    exact W.iret hx hb hr (fun t ht hW => ⟨⟨_, (), rfl, rfl, by rw [ht]; exact hP, hD⟩, hS.F ht⟩) hS.2.2 dX4_regarded_18
abbrev G_X7_count (p : Program) (l : Launch) (e : Env) (s : State) (m : MethodId) (below : List Frame) (meth : Method) (c : Code) (G : va_G) (cA : Nat → ClassId) (A : Nat → Prop) (xa : Nat → Nat) (ka : Nat → Nat) (ra : Nat → Nat) (na : Nat → Nat) (ia : Nat → Nat) (ua : Nat → Nat) (va : Nat → Nat) (ca : Nat → Nat) (za : Nat → Nat) (pa : Nat → Nat) (qa : Nat → Nat) (X : Tr) (K : Tr) (R : Tr) (P : Tr) (L : Lo) (P2 : Tr) (L2 : Lo) (Tn : Tr) (Ti : Tr) (Tu : Tr) (Tv : Tr) (C : Tr) (Z : Tr) (q0 : Nat) (q1 : Nat) (q2 : Nat) (q3 : Nat) (q4 : Nat) (q5 : Nat) (x1 : Int32) (r0 : Int32) (H : Heap) (locs : List Loc) (g : JFrame) : Prop := W p l e (headSpec (.code yX7_count cX7_count 2 (some .int) :: T0) ({ frames := 1, cells := 0, slots := 0, locals := 23 } : Room)).room s m ([.ref (xa 0), .int x1] : List Value).toArray below meth c H locs 0 0 (MQ below (tqQi G cA (fun (r : Int32) (_ : Unit) => r = r0) (fun (_ : Unit) => wX cA xa ka ra na ia ua va ca za pa qa X K R P L P2 L2 Tn Ti Tu Tv C Z q0 q1 q2 q3 q4 q5) A) ([.ref (xa 0), .int x1] : List Value).toArray s 0 0 A) g
set_option maxHeartbeats 4000000 in
set_option maxRecDepth 100000 in
theorem c_X7_count (l : Launch) (G : va_G) (cA : Nat → ClassId) (sz : Nat) (xa : Nat → Nat) (ka : Nat → Nat) (ra : Nat → Nat) (na : Nat → Nat) (ia : Nat → Nat) (ua : Nat → Nat) (va : Nat → Nat) (ca : Nat → Nat) (za : Nat → Nat) (pa : Nat → Nat) (qa : Nat → Nat) (X : Tr) (K : Tr) (R : Tr) (P : Tr) (L : Lo) (P2 : Tr) (L2 : Lo) (Tn : Tr) (Ti : Tr) (Tu : Tr) (Tv : Tr) (C : Tr) (Z : Tr) (q0 : Nat) (q1 : Nat) (q2 : Nat) (q3 : Nat) (q4 : Nat) (q5 : Nat) (x1 : Int32)  (r0 : Int32) (h : f_X7_count pa qa P Tn C Z q0 q4 x1 = some r0) : Met l yX7_count (.code yX7_count cX7_count 2 (some .int) :: T0) ({ frames := 1, cells := 0, slots := 0, locals := 23 } : Room) (tqP G cA [.ref (xa 0), .int x1] (wX cA xa ka ra na ia ua va ca za pa qa X K R P L P2 L2 Tn Ti Tu Tv C Z q0 q1 q2 q3 q4 q5) sz) (tqQi G cA (fun (r : Int32) (_ : Unit) => r = r0) (fun (_ : Unit) => wX cA xa ka ra na ia ua va ca za pa qa X K R P L P2 L2 Tn Ti Tu Tv C Z q0 q1 q2 q3 q4 q5) (va_A (wX cA xa ka ra na ia ua va ca za pa qa X K R P L P2 L2 Tn Ti Tu Tv C Z q0 q1 q2 q3 q4 q5) sz)) 0 0 (va_A (wX cA xa ka ra na ia ua va ca za pa qa X K R P L P2 L2 Tn Ti Tu Tv C Z q0 q1 q2 q3 q4 q5) sz) := by
  refine Met.ofW (cc := cX7_count) (maxL := 2) (ret := (some .int)) (by decide) rfl ?_
  intro p e s m args below meth c s₁ B hml hv
  obtain ⟨rfl, hsz, hP, hK, hD0, hN⟩ := hv
  have hx := B.exec
  have hb := B.bytes
  have hr := B.returns
  have hts := atoms_spec (ws := .code yX7_count cX7_count 2 (some .int) :: T0) B.pre
  have hT : ∀ w ∈ T0, w.before _ s = true := fun w h => hts w (List.mem_cons_of_mem _ h)
  have hown : s.vm.findClass RX7 = some m.cls := findClass_of_methodNamed B.named
  have hlocks := B.notSynchronized
  subst hsz
  have hD := hD0.self (sz := s.heap.size)
  generalize hAe : va_A (wX cA xa ka ra na ia ua va ca za pa qa X K R P L P2 L2 Tn Ti Tu Tv C Z q0 q1 q2 q3 q4 q5) s.heap.size = A at hD ⊢
  have hA : ∀ q : Nat, s.heap.size ≤ q → A q := fun q h => by rw [← hAe]; exact Or.inr h
  have hS : va_S A s.heap s.heap [] := va_S.rf
  have hl := lv_entry ([.ref (xa 0), .int x1]) (n := 2) (Nat.le_of_ble_eq_true rfl)
  rw [lg_entry_eq]
  generalize (lg_sl ([.ref (xa 0), .int x1]) ++ List.replicate (2 - (lg_sl ([.ref (xa 0), .int x1])).length) Slot.unset).toArray = ls at hl ⊢
  have hl : lv_has ls 2 [(0, .ref (xa 0)), (1, .int x1)] := hl
  have F : tF p s m ([.ref (xa 0), .int x1] : List Value).toArray meth c G cA A RX7 cX7_count 2 (some .int) := ⟨hx, hb, hr, hml, hT, hown, hlocks, hK, hN, hA⟩
  obtain ⟨H, hH⟩ : ∃ z, z = s.heap := ⟨_, rfl⟩
  rw [← hH] at hP
  have hS : va_S A s.heap H [] := by rw [hH]; exact hS
  suffices hgo : G_X7_count p l e s m below meth c G cA A xa ka ra na ia ua va ca za pa qa X K R P L P2 L2 Tn Ti Tu Tv C Z q0 q1 q2 q3 q4 q5 x1 r0 H [] (F0 m 0 ls []) by rw [hH] at hgo; exact hgo
  generalize ([] : List Loc) = locs at hS ⊢
  unfold f_X7_count at h
  refine lv_iload_n hx hb dX7_count_0 rfl (lv_at hl 1 rfl) ?_
  by_cases c1 : x1 = 0
  · replace h := tx_pos c1 h
    refine lv_tableIn (off := 79) (tgt := 80) hx hb dX7_count_1 (by rw [c1]; decide) (by rw [c1]; decide) (by rw [c1]; decide) (by decide) ?_
    refine lv_aload_n hx hb dX7_count_80 rfl (lv_at hl 0 rfl) ?_
    refine va_get (D := G) (ci := 7) (v := .ref q4) (C := RX7) (T := TX7) (N := 12) hx hb hT ku_7 hown hK hP 0 rfl rfl 1 (by decide) (hT _ kw_1_20) (fun _ h9 => h9) rfl dX7_count_81 ?_
    replace h := tx_ck h
    obtain ⟨g2, h⟩ := h
    have eg2 := of_decide_eq_true g2
    subst eg2
    refine va_get (D := G) (ci := 2) (v := .int (P 0 0)) (C := RX2) (T := TX2) (N := 19) hx hb hT ku_2 hown hK hP 9 rfl rfl 0 (by decide) (hT _ kw_32_2) (fun _ h9 => h9) rfl dX7_count_84 ?_
    obtain rfl := tx_1 h
    exact W.iret hx hb hr (fun t ht hW => ⟨⟨_, (), rfl, rfl, by rw [ht]; exact hP, hD⟩, hS.F ht⟩) hS.2.2 dX7_count_87
  · replace h := tx_neg c1 h
    by_cases c3 : x1 = 1
    · replace h := tx_pos c3 h
      refine lv_tableIn (off := 87) (tgt := 88) hx hb dX7_count_1 (by rw [c3]; decide) (by rw [c3]; decide) (by rw [c3]; decide) (by decide) ?_
      refine lv_aload_n hx hb dX7_count_88 rfl (lv_at hl 0 rfl) ?_
      refine va_get (D := G) (ci := 7) (v := .ref q4) (C := RX7) (T := TX7) (N := 12) hx hb hT ku_7 hown hK hP 0 rfl rfl 1 (by decide) (hT _ kw_1_20) (fun _ h9 => h9) rfl dX7_count_89 ?_
      replace h := tx_ck h
      obtain ⟨g4, h⟩ := h
      have eg4 := of_decide_eq_true g4
      subst eg4
      refine va_get (D := G) (ci := 2) (v := .int (P 0 1)) (C := RX2) (T := TX2) (N := 19) hx hb hT ku_2 hown hK hP 9 rfl rfl 1 (by decide) (hT _ kw_29_7) (fun _ h9 => h9) rfl dX7_count_92 ?_
      obtain rfl := tx_1 h
      exact W.iret hx hb hr (fun t ht hW => ⟨⟨_, (), rfl, rfl, by rw [ht]; exact hP, hD⟩, hS.F ht⟩) hS.2.2 dX7_count_95
    · replace h := tx_neg c3 h
      by_cases c5 : x1 = 2
      · replace h := tx_pos c5 h
        refine lv_tableIn (off := 95) (tgt := 96) hx hb dX7_count_1 (by rw [c5]; decide) (by rw [c5]; decide) (by rw [c5]; decide) (by decide) ?_
        refine lv_aload_n hx hb dX7_count_96 rfl (lv_at hl 0 rfl) ?_
        refine va_get (D := G) (ci := 7) (v := .ref q4) (C := RX7) (T := TX7) (N := 12) hx hb hT ku_7 hown hK hP 0 rfl rfl 1 (by decide) (hT _ kw_1_20) (fun _ h9 => h9) rfl dX7_count_97 ?_
        replace h := tx_ck h
        obtain ⟨g6, h⟩ := h
        have eg6 := of_decide_eq_true g6
        subst eg6
        refine va_get (D := G) (ci := 2) (v := .int (P 0 2)) (C := RX2) (T := TX2) (N := 19) hx hb hT ku_2 hown hK hP 9 rfl rfl 2 (by decide) (hT _ kw_30_9) (fun _ h9 => h9) rfl dX7_count_100 ?_
        obtain rfl := tx_1 h
        exact W.iret hx hb hr (fun t ht hW => ⟨⟨_, (), rfl, rfl, by rw [ht]; exact hP, hD⟩, hS.F ht⟩) hS.2.2 dX7_count_103
      · replace h := tx_neg c5 h
        by_cases c7 : x1 = 3
        · replace h := tx_pos c7 h
          refine lv_tableIn (off := 103) (tgt := 104) hx hb dX7_count_1 (by rw [c7]; decide) (by rw [c7]; decide) (by rw [c7]; decide) (by decide) ?_
          refine lv_aload_n hx hb dX7_count_104 rfl (lv_at hl 0 rfl) ?_
          refine va_get (D := G) (ci := 7) (v := .ref q4) (C := RX7) (T := TX7) (N := 12) hx hb hT ku_7 hown hK hP 0 rfl rfl 1 (by decide) (hT _ kw_1_20) (fun _ h9 => h9) rfl dX7_count_105 ?_
          replace h := tx_ck h
          obtain ⟨g8, h⟩ := h
          have eg8 := of_decide_eq_true g8
          subst eg8
          refine va_get (D := G) (ci := 2) (v := .int (P 0 3)) (C := RX2) (T := TX2) (N := 19) hx hb hT ku_2 hown hK hP 9 rfl rfl 3 (by decide) (hT _ kw_59_19) (fun _ h9 => h9) rfl dX7_count_108 ?_
          obtain rfl := tx_1 h
          exact W.iret hx hb hr (fun t ht hW => ⟨⟨_, (), rfl, rfl, by rw [ht]; exact hP, hD⟩, hS.F ht⟩) hS.2.2 dX7_count_111
        · replace h := tx_neg c7 h
          by_cases c9 : x1 = 4
          · replace h := tx_pos c9 h
            refine lv_tableIn (off := 111) (tgt := 112) hx hb dX7_count_1 (by rw [c9]; decide) (by rw [c9]; decide) (by rw [c9]; decide) (by decide) ?_
            refine lv_aload_n hx hb dX7_count_112 rfl (lv_at hl 0 rfl) ?_
            refine va_get (D := G) (ci := 7) (v := .ref (na 0)) (C := RX7) (T := TX7) (N := 12) hx hb hT ku_7 hown hK hP 0 rfl rfl 2 (by decide) (hT _ kw_2_0) (fun _ h9 => h9) rfl dX7_count_113 ?_
            refine va_get (D := G) (ci := 6) (v := .int (Tn 0 0)) (C := RX6) (T := TX6) (N := 20) hx hb hT ku_6 hown hK hP 53 rfl rfl 0 (by decide) (hT _ kw_40_5) (fun _ h9 => h9) rfl dX7_count_116 ?_
            obtain rfl := tx_1 h
            exact W.iret hx hb hr (fun t ht hW => ⟨⟨_, (), rfl, rfl, by rw [ht]; exact hP, hD⟩, hS.F ht⟩) hS.2.2 dX7_count_119
          · replace h := tx_neg c9 h
            by_cases c10 : x1 = 5
            · replace h := tx_pos c10 h
              refine lv_tableIn (off := 119) (tgt := 120) hx hb dX7_count_1 (by rw [c10]; decide) (by rw [c10]; decide) (by rw [c10]; decide) (by decide) ?_
              refine lv_aload_n hx hb dX7_count_120 rfl (lv_at hl 0 rfl) ?_
              refine va_get (D := G) (ci := 7) (v := .ref (na 0)) (C := RX7) (T := TX7) (N := 12) hx hb hT ku_7 hown hK hP 0 rfl rfl 2 (by decide) (hT _ kw_2_0) (fun _ h9 => h9) rfl dX7_count_121 ?_
              refine va_get (D := G) (ci := 6) (v := .int (Tn 0 1)) (C := RX6) (T := TX6) (N := 20) hx hb hT ku_6 hown hK hP 53 rfl rfl 1 (by decide) (hT _ kw_46_16) (fun _ h9 => h9) rfl dX7_count_124 ?_
              obtain rfl := tx_1 h
              exact W.iret hx hb hr (fun t ht hW => ⟨⟨_, (), rfl, rfl, by rw [ht]; exact hP, hD⟩, hS.F ht⟩) hS.2.2 dX7_count_127
            · replace h := tx_neg c10 h
              by_cases c11 : x1 = 6
              · replace h := tx_pos c11 h
                refine lv_tableIn (off := 127) (tgt := 128) hx hb dX7_count_1 (by rw [c11]; decide) (by rw [c11]; decide) (by rw [c11]; decide) (by decide) ?_
                refine lv_aload_n hx hb dX7_count_128 rfl (lv_at hl 0 rfl) ?_
                refine va_get (D := G) (ci := 7) (v := .ref (na 0)) (C := RX7) (T := TX7) (N := 12) hx hb hT ku_7 hown hK hP 0 rfl rfl 2 (by decide) (hT _ kw_2_0) (fun _ h9 => h9) rfl dX7_count_129 ?_
                refine lv_iload_n hx hb dX7_count_132 rfl (lv_at hl 1 rfl) ?_
                refine lv_bipush (v := 6) hx hb dX7_count_133 (by decide) ?_
                refine lv_isub hx hb dX7_count_135 ?_
                refine lv_iconst (v := 1) hx hb dX7_count_136 (by decide) ?_
                refine lv_iadd hx hb dX7_count_137 ?_
                replace h := tx_ck h
                obtain ⟨g12, h⟩ := h
                have eg12 := of_decide_eq_true g12
                subst eg12
                replace h := tx_bd h
                obtain ⟨r13, hc14, h⟩ := h
                refine tw_ci pX_na hP hD hS hA (va_runV (As := [.int ((x1 - 6) + 1)]) (rest := []) ⟨hx, hb, hml, hown, hT⟩ (c_X6_piecesThatAre l G cA H.size na pa Tn P L ((x1 - 6) + 1)  r13 hc14) (cwV 1 hT (tq_gV kw_59_21 kw_59_22 kw_59_23 kw_1_23 kw_60_0) rfl rfl rfl dkdV_yX6_piecesThatAre_1 ⟨Nat.le_of_ble_eq_true rfl, Nat.le_of_ble_eq_true rfl⟩) ⟨(tw_pre pX_na hP hD hK hN).1, va_recv hK hP (ci := 6) (q0 := 53) rfl rfl, (tw_pre pX_na hP hD hK hN).2⟩ rfl rfl hl.1 rfl (lv_room (Nat.le_of_ble_eq_true rfl)) dX7_count_138 ⟨Nat.le_of_ble_eq_true rfl, Nat.le_of_ble_eq_true rfl⟩) (fun _ _ H locs z15 hP hD hS => ?_)
                have z15 := z15.symm
                subst z15
                replace hP := tw_P pX_na.symm hP
                replace hD := tw_D pX_na.symm hD
                have hP : va_P G vwCl (wX cA xa ka ra na ia ua va ca za pa qa X K R P L P2 L2 Tn Ti Tu Tv C Z (pa 0) q1 q2 q3 q4 q5) H := hP
                have hD : va_D A (wX cA xa ka ra na ia ua va ca za pa qa X K R P L P2 L2 Tn Ti Tu Tv C Z (pa 0) q1 q2 q3 q4 q5) := hD
                obtain rfl := tx_1 h
                exact W.iret hx hb hr (fun t ht hW => ⟨⟨_, (), rfl, rfl, by rw [ht]; exact hP, hD⟩, hS.F ht⟩) hS.2.2 dX7_count_141
              · replace h := tx_neg c11 h
                by_cases c16 : x1 = 7
                · replace h := tx_pos c16 h
                  refine lv_tableIn (off := 127) (tgt := 128) hx hb dX7_count_1 (by rw [c16]; decide) (by rw [c16]; decide) (by rw [c16]; decide) (by decide) ?_
                  refine lv_aload_n hx hb dX7_count_128 rfl (lv_at hl 0 rfl) ?_
                  refine va_get (D := G) (ci := 7) (v := .ref (na 0)) (C := RX7) (T := TX7) (N := 12) hx hb hT ku_7 hown hK hP 0 rfl rfl 2 (by decide) (hT _ kw_2_0) (fun _ h9 => h9) rfl dX7_count_129 ?_
                  refine lv_iload_n hx hb dX7_count_132 rfl (lv_at hl 1 rfl) ?_
                  refine lv_bipush (v := 6) hx hb dX7_count_133 (by decide) ?_
                  refine lv_isub hx hb dX7_count_135 ?_
                  refine lv_iconst (v := 1) hx hb dX7_count_136 (by decide) ?_
                  refine lv_iadd hx hb dX7_count_137 ?_
                  replace h := tx_ck h
                  obtain ⟨g17, h⟩ := h
                  have eg17 := of_decide_eq_true g17
                  subst eg17
                  replace h := tx_bd h
                  obtain ⟨r18, hc19, h⟩ := h
                  refine tw_ci pX_na hP hD hS hA (va_runV (As := [.int ((x1 - 6) + 1)]) (rest := []) ⟨hx, hb, hml, hown, hT⟩ (c_X6_piecesThatAre l G cA H.size na pa Tn P L ((x1 - 6) + 1)  r18 hc19) (cwV 1 hT (tq_gV kw_59_21 kw_59_22 kw_59_23 kw_1_23 kw_60_0) rfl rfl rfl dkdV_yX6_piecesThatAre_1 ⟨Nat.le_of_ble_eq_true rfl, Nat.le_of_ble_eq_true rfl⟩) ⟨(tw_pre pX_na hP hD hK hN).1, va_recv hK hP (ci := 6) (q0 := 53) rfl rfl, (tw_pre pX_na hP hD hK hN).2⟩ rfl rfl hl.1 rfl (lv_room (Nat.le_of_ble_eq_true rfl)) dX7_count_138 ⟨Nat.le_of_ble_eq_true rfl, Nat.le_of_ble_eq_true rfl⟩) (fun _ _ H locs z20 hP hD hS => ?_)
                  have z20 := z20.symm
                  subst z20
                  replace hP := tw_P pX_na.symm hP
                  replace hD := tw_D pX_na.symm hD
                  have hP : va_P G vwCl (wX cA xa ka ra na ia ua va ca za pa qa X K R P L P2 L2 Tn Ti Tu Tv C Z (pa 0) q1 q2 q3 q4 q5) H := hP
                  have hD : va_D A (wX cA xa ka ra na ia ua va ca za pa qa X K R P L P2 L2 Tn Ti Tu Tv C Z (pa 0) q1 q2 q3 q4 q5) := hD
                  obtain rfl := tx_1 h
                  exact W.iret hx hb hr (fun t ht hW => ⟨⟨_, (), rfl, rfl, by rw [ht]; exact hP, hD⟩, hS.F ht⟩) hS.2.2 dX7_count_141
                · replace h := tx_neg c16 h
                  by_cases c21 : x1 = 8
                  · replace h := tx_pos c21 h
                    refine lv_tableIn (off := 127) (tgt := 128) hx hb dX7_count_1 (by rw [c21]; decide) (by rw [c21]; decide) (by rw [c21]; decide) (by decide) ?_
                    refine lv_aload_n hx hb dX7_count_128 rfl (lv_at hl 0 rfl) ?_
                    refine va_get (D := G) (ci := 7) (v := .ref (na 0)) (C := RX7) (T := TX7) (N := 12) hx hb hT ku_7 hown hK hP 0 rfl rfl 2 (by decide) (hT _ kw_2_0) (fun _ h9 => h9) rfl dX7_count_129 ?_
                    refine lv_iload_n hx hb dX7_count_132 rfl (lv_at hl 1 rfl) ?_
                    refine lv_bipush (v := 6) hx hb dX7_count_133 (by decide) ?_
                    refine lv_isub hx hb dX7_count_135 ?_
                    refine lv_iconst (v := 1) hx hb dX7_count_136 (by decide) ?_
                    refine lv_iadd hx hb dX7_count_137 ?_
                    replace h := tx_ck h
                    obtain ⟨g22, h⟩ := h
                    have eg22 := of_decide_eq_true g22
                    subst eg22
                    replace h := tx_bd h
                    obtain ⟨r23, hc24, h⟩ := h
                    refine tw_ci pX_na hP hD hS hA (va_runV (As := [.int ((x1 - 6) + 1)]) (rest := []) ⟨hx, hb, hml, hown, hT⟩ (c_X6_piecesThatAre l G cA H.size na pa Tn P L ((x1 - 6) + 1)  r23 hc24) (cwV 1 hT (tq_gV kw_59_21 kw_59_22 kw_59_23 kw_1_23 kw_60_0) rfl rfl rfl dkdV_yX6_piecesThatAre_1 ⟨Nat.le_of_ble_eq_true rfl, Nat.le_of_ble_eq_true rfl⟩) ⟨(tw_pre pX_na hP hD hK hN).1, va_recv hK hP (ci := 6) (q0 := 53) rfl rfl, (tw_pre pX_na hP hD hK hN).2⟩ rfl rfl hl.1 rfl (lv_room (Nat.le_of_ble_eq_true rfl)) dX7_count_138 ⟨Nat.le_of_ble_eq_true rfl, Nat.le_of_ble_eq_true rfl⟩) (fun _ _ H locs z25 hP hD hS => ?_)
                    have z25 := z25.symm
                    subst z25
                    replace hP := tw_P pX_na.symm hP
                    replace hD := tw_D pX_na.symm hD
                    have hP : va_P G vwCl (wX cA xa ka ra na ia ua va ca za pa qa X K R P L P2 L2 Tn Ti Tu Tv C Z (pa 0) q1 q2 q3 q4 q5) H := hP
                    have hD : va_D A (wX cA xa ka ra na ia ua va ca za pa qa X K R P L P2 L2 Tn Ti Tu Tv C Z (pa 0) q1 q2 q3 q4 q5) := hD
                    obtain rfl := tx_1 h
                    exact W.iret hx hb hr (fun t ht hW => ⟨⟨_, (), rfl, rfl, by rw [ht]; exact hP, hD⟩, hS.F ht⟩) hS.2.2 dX7_count_141
                  · replace h := tx_neg c21 h
                    by_cases c26 : x1 = 9
                    · replace h := tx_pos c26 h
                      refine lv_tableIn (off := 127) (tgt := 128) hx hb dX7_count_1 (by rw [c26]; decide) (by rw [c26]; decide) (by rw [c26]; decide) (by decide) ?_
                      refine lv_aload_n hx hb dX7_count_128 rfl (lv_at hl 0 rfl) ?_
                      refine va_get (D := G) (ci := 7) (v := .ref (na 0)) (C := RX7) (T := TX7) (N := 12) hx hb hT ku_7 hown hK hP 0 rfl rfl 2 (by decide) (hT _ kw_2_0) (fun _ h9 => h9) rfl dX7_count_129 ?_
                      refine lv_iload_n hx hb dX7_count_132 rfl (lv_at hl 1 rfl) ?_
                      refine lv_bipush (v := 6) hx hb dX7_count_133 (by decide) ?_
                      refine lv_isub hx hb dX7_count_135 ?_
                      refine lv_iconst (v := 1) hx hb dX7_count_136 (by decide) ?_
                      refine lv_iadd hx hb dX7_count_137 ?_
                      replace h := tx_ck h
                      obtain ⟨g27, h⟩ := h
                      have eg27 := of_decide_eq_true g27
                      subst eg27
                      replace h := tx_bd h
                      obtain ⟨r28, hc29, h⟩ := h
                      refine tw_ci pX_na hP hD hS hA (va_runV (As := [.int ((x1 - 6) + 1)]) (rest := []) ⟨hx, hb, hml, hown, hT⟩ (c_X6_piecesThatAre l G cA H.size na pa Tn P L ((x1 - 6) + 1)  r28 hc29) (cwV 1 hT (tq_gV kw_59_21 kw_59_22 kw_59_23 kw_1_23 kw_60_0) rfl rfl rfl dkdV_yX6_piecesThatAre_1 ⟨Nat.le_of_ble_eq_true rfl, Nat.le_of_ble_eq_true rfl⟩) ⟨(tw_pre pX_na hP hD hK hN).1, va_recv hK hP (ci := 6) (q0 := 53) rfl rfl, (tw_pre pX_na hP hD hK hN).2⟩ rfl rfl hl.1 rfl (lv_room (Nat.le_of_ble_eq_true rfl)) dX7_count_138 ⟨Nat.le_of_ble_eq_true rfl, Nat.le_of_ble_eq_true rfl⟩) (fun _ _ H locs z30 hP hD hS => ?_)
                      have z30 := z30.symm
                      subst z30
                      replace hP := tw_P pX_na.symm hP
                      replace hD := tw_D pX_na.symm hD
                      have hP : va_P G vwCl (wX cA xa ka ra na ia ua va ca za pa qa X K R P L P2 L2 Tn Ti Tu Tv C Z (pa 0) q1 q2 q3 q4 q5) H := hP
                      have hD : va_D A (wX cA xa ka ra na ia ua va ca za pa qa X K R P L P2 L2 Tn Ti Tu Tv C Z (pa 0) q1 q2 q3 q4 q5) := hD
                      obtain rfl := tx_1 h
                      exact W.iret hx hb hr (fun t ht hW => ⟨⟨_, (), rfl, rfl, by rw [ht]; exact hP, hD⟩, hS.F ht⟩) hS.2.2 dX7_count_141
                    · replace h := tx_neg c26 h
                      by_cases c31 : x1 = 10
                      · replace h := tx_pos c31 h
                        refine lv_tableIn (off := 127) (tgt := 128) hx hb dX7_count_1 (by rw [c31]; decide) (by rw [c31]; decide) (by rw [c31]; decide) (by decide) ?_
                        refine lv_aload_n hx hb dX7_count_128 rfl (lv_at hl 0 rfl) ?_
                        refine va_get (D := G) (ci := 7) (v := .ref (na 0)) (C := RX7) (T := TX7) (N := 12) hx hb hT ku_7 hown hK hP 0 rfl rfl 2 (by decide) (hT _ kw_2_0) (fun _ h9 => h9) rfl dX7_count_129 ?_
                        refine lv_iload_n hx hb dX7_count_132 rfl (lv_at hl 1 rfl) ?_
                        refine lv_bipush (v := 6) hx hb dX7_count_133 (by decide) ?_
                        refine lv_isub hx hb dX7_count_135 ?_
                        refine lv_iconst (v := 1) hx hb dX7_count_136 (by decide) ?_
                        refine lv_iadd hx hb dX7_count_137 ?_
                        replace h := tx_ck h
                        obtain ⟨g32, h⟩ := h
                        have eg32 := of_decide_eq_true g32
                        subst eg32
                        replace h := tx_bd h
                        obtain ⟨r33, hc34, h⟩ := h
                        refine tw_ci pX_na hP hD hS hA (va_runV (As := [.int ((x1 - 6) + 1)]) (rest := []) ⟨hx, hb, hml, hown, hT⟩ (c_X6_piecesThatAre l G cA H.size na pa Tn P L ((x1 - 6) + 1)  r33 hc34) (cwV 1 hT (tq_gV kw_59_21 kw_59_22 kw_59_23 kw_1_23 kw_60_0) rfl rfl rfl dkdV_yX6_piecesThatAre_1 ⟨Nat.le_of_ble_eq_true rfl, Nat.le_of_ble_eq_true rfl⟩) ⟨(tw_pre pX_na hP hD hK hN).1, va_recv hK hP (ci := 6) (q0 := 53) rfl rfl, (tw_pre pX_na hP hD hK hN).2⟩ rfl rfl hl.1 rfl (lv_room (Nat.le_of_ble_eq_true rfl)) dX7_count_138 ⟨Nat.le_of_ble_eq_true rfl, Nat.le_of_ble_eq_true rfl⟩) (fun _ _ H locs z35 hP hD hS => ?_)
                        have z35 := z35.symm
                        subst z35
                        replace hP := tw_P pX_na.symm hP
                        replace hD := tw_D pX_na.symm hD
                        have hP : va_P G vwCl (wX cA xa ka ra na ia ua va ca za pa qa X K R P L P2 L2 Tn Ti Tu Tv C Z (pa 0) q1 q2 q3 q4 q5) H := hP
                        have hD : va_D A (wX cA xa ka ra na ia ua va ca za pa qa X K R P L P2 L2 Tn Ti Tu Tv C Z (pa 0) q1 q2 q3 q4 q5) := hD
                        obtain rfl := tx_1 h
                        exact W.iret hx hb hr (fun t ht hW => ⟨⟨_, (), rfl, rfl, by rw [ht]; exact hP, hD⟩, hS.F ht⟩) hS.2.2 dX7_count_141
                      · replace h := tx_neg c31 h
                        by_cases c36 : x1 = 11
                        · replace h := tx_pos c36 h
                          refine lv_tableIn (off := 141) (tgt := 142) hx hb dX7_count_1 (by rw [c36]; decide) (by rw [c36]; decide) (by rw [c36]; decide) (by decide) ?_
                          refine lv_aload_n hx hb dX7_count_142 rfl (lv_at hl 0 rfl) ?_
                          refine va_get (D := G) (ci := 7) (v := .ref (na 0)) (C := RX7) (T := TX7) (N := 12) hx hb hT ku_7 hown hK hP 0 rfl rfl 2 (by decide) (hT _ kw_2_0) (fun _ h9 => h9) rfl dX7_count_143 ?_
                          replace h := tx_ck h
                          obtain ⟨g37, h⟩ := h
                          have eg37 := of_decide_eq_true g37
                          subst eg37
                          replace h := tx_bd h
                          obtain ⟨r38, hc39, h⟩ := h
                          refine tw_ci pX_na hP hD hS hA (va_runV (As := []) (rest := []) ⟨hx, hb, hml, hown, hT⟩ (c_X6_personsAboard l G cA H.size na pa Tn P L  r38 hc39) (cwV 0 hT (tq_gV kw_60_1 kw_60_2 kw_60_3 kw_1_23 kw_60_4) rfl rfl rfl dkdV_yX6_personsAboard_0 ⟨Nat.le_of_ble_eq_true rfl, Nat.le_of_ble_eq_true rfl⟩) ⟨(tw_pre pX_na hP hD hK hN).1, va_recv hK hP (ci := 6) (q0 := 53) rfl rfl, (tw_pre pX_na hP hD hK hN).2⟩ rfl rfl hl.1 rfl (lv_room (Nat.le_of_ble_eq_true rfl)) dX7_count_146 ⟨Nat.le_of_ble_eq_true rfl, Nat.le_of_ble_eq_true rfl⟩) (fun _ _ H locs z40 hP hD hS => ?_)
                          have z40 := z40.symm
                          subst z40
                          replace hP := tw_P pX_na.symm hP
                          replace hD := tw_D pX_na.symm hD
                          have hP : va_P G vwCl (wX cA xa ka ra na ia ua va ca za pa qa X K R P L P2 L2 Tn Ti Tu Tv C Z (pa 0) q1 q2 q3 q4 q5) H := hP
                          have hD : va_D A (wX cA xa ka ra na ia ua va ca za pa qa X K R P L P2 L2 Tn Ti Tu Tv C Z (pa 0) q1 q2 q3 q4 q5) := hD
                          obtain rfl := tx_1 h
                          exact W.iret hx hb hr (fun t ht hW => ⟨⟨_, (), rfl, rfl, by rw [ht]; exact hP, hD⟩, hS.F ht⟩) hS.2.2 dX7_count_149
                        · replace h := tx_neg c36 h
                          by_cases c41 : x1 = 12
                          · replace h := tx_pos c41 h
                            refine lv_tableIn (off := 149) (tgt := 150) hx hb dX7_count_1 (by rw [c41]; decide) (by rw [c41]; decide) (by rw [c41]; decide) (by decide) ?_
                            refine lv_aload_n hx hb dX7_count_150 rfl (lv_at hl 0 rfl) ?_
                            refine va_get (D := G) (ci := 7) (v := .ref q4) (C := RX7) (T := TX7) (N := 12) hx hb hT ku_7 hown hK hP 0 rfl rfl 1 (by decide) (hT _ kw_1_20) (fun _ h9 => h9) rfl dX7_count_151 ?_
                            replace h := tx_ck h
                            obtain ⟨g42, h⟩ := h
                            have eg42 := of_decide_eq_true g42
                            subst eg42
                            refine va_get (D := G) (ci := 2) (v := .int (P 0 4)) (C := RX2) (T := TX2) (N := 19) hx hb hT ku_2 hown hK hP 9 rfl rfl 4 (by decide) (hT _ kw_59_20) (fun _ h9 => h9) rfl dX7_count_154 ?_
                            obtain rfl := tx_1 h
                            exact W.iret hx hb hr (fun t ht hW => ⟨⟨_, (), rfl, rfl, by rw [ht]; exact hP, hD⟩, hS.F ht⟩) hS.2.2 dX7_count_157
                          · replace h := tx_neg c41 h
                            by_cases c43 : x1 = 13
                            · replace h := tx_pos c43 h
                              refine lv_tableIn (off := 157) (tgt := 158) hx hb dX7_count_1 (by rw [c43]; decide) (by rw [c43]; decide) (by rw [c43]; decide) (by decide) ?_
                              refine lv_aload_n hx hb dX7_count_158 rfl (lv_at hl 0 rfl) ?_
                              refine va_get (D := G) (ci := 7) (v := .ref (za 0)) (C := RX7) (T := TX7) (N := 12) hx hb hT ku_7 hown hK hP 0 rfl rfl 8 (by decide) (hT _ kw_2_12) (fun _ h9 => h9) rfl dX7_count_159 ?_
                              refine va_get (D := G) (ci := 4) (v := .int (Z 0 0)) (C := RX4) (T := TX4) (N := 7) hx hb hT ku_4 hown hK hP 103 rfl rfl 0 (by decide) (hT _ kw_54_17) (fun _ h9 => h9) rfl dX7_count_162 ?_
                              obtain rfl := tx_1 h
                              exact W.iret hx hb hr (fun t ht hW => ⟨⟨_, (), rfl, rfl, by rw [ht]; exact hP, hD⟩, hS.F ht⟩) hS.2.2 dX7_count_165
                            · replace h := tx_neg c43 h
                              by_cases c44 : x1 = 14
                              · replace h := tx_pos c44 h
                                refine lv_tableIn (off := 165) (tgt := 166) hx hb dX7_count_1 (by rw [c44]; decide) (by rw [c44]; decide) (by rw [c44]; decide) (by decide) ?_
                                refine lv_aload_n hx hb dX7_count_166 rfl (lv_at hl 0 rfl) ?_
                                refine va_get (D := G) (ci := 7) (v := .ref (za 0)) (C := RX7) (T := TX7) (N := 12) hx hb hT ku_7 hown hK hP 0 rfl rfl 8 (by decide) (hT _ kw_2_12) (fun _ h9 => h9) rfl dX7_count_167 ?_
                                replace h := tx_bd h
                                obtain ⟨r45, hc46, h⟩ := h
                                refine tz_i (As := []) (rest := []) ⟨hx, hb, hml, hown, hT⟩ hP hD hS hA hK hN (c_X4_regarded_x l G cA H.size xa ka ra na ia ua va ca za pa qa X K R P L P2 L2 Tn Ti Tu Tv C Z q0 q1 q2 q3 q4 q5  r45 hc46) (tq_gV kw_60_5 kw_55_16 kw_55_17 kw_2_11 kw_55_18) rfl rfl dkdV_yX4_regarded_0 (Nat.le_of_ble_eq_true rfl) (Nat.le_of_ble_eq_true rfl) (ci := 4) (q0 := 103) rfl rfl rfl hl.1 rfl (Nat.le_of_ble_eq_true rfl) dX7_count_170 ⟨Nat.le_of_ble_eq_true rfl, Nat.le_of_ble_eq_true rfl⟩ (fun _ _ H locs z47 hP hD hS => ?_)
                                have z47 := z47.symm
                                subst z47
                                have hP : va_P G vwCl (wX cA xa ka ra na ia ua va ca za pa qa X K R P L P2 L2 Tn Ti Tu Tv C Z q0 q1 q2 q3 q4 q5) H := hP
                                have hD : va_D A (wX cA xa ka ra na ia ua va ca za pa qa X K R P L P2 L2 Tn Ti Tu Tv C Z q0 q1 q2 q3 q4 q5) := hD
                                obtain rfl := tx_1 h
                                exact W.iret hx hb hr (fun t ht hW => ⟨⟨_, (), rfl, rfl, by rw [ht]; exact hP, hD⟩, hS.F ht⟩) hS.2.2 dX7_count_173
                              · replace h := tx_neg c44 h
                                by_cases c48 : x1 = 15
                                · replace h := tx_pos c48 h
                                  refine lv_tableIn (off := 173) (tgt := 174) hx hb dX7_count_1 (by rw [c48]; decide) (by rw [c48]; decide) (by rw [c48]; decide) (by decide) ?_
                                  refine lv_aload_n hx hb dX7_count_174 rfl (lv_at hl 0 rfl) ?_
                                  refine va_get (D := G) (ci := 7) (v := .ref (ca 0)) (C := RX7) (T := TX7) (N := 12) hx hb hT ku_7 hown hK hP 0 rfl rfl 7 (by decide) (hT _ kw_2_8) (fun _ h9 => h9) rfl dX7_count_175 ?_
                                  refine va_get (D := G) (ci := 0) (v := .int (C 0 0)) (C := RX0) (T := TX0) (N := 3) hx hb hT ku_0 hown hK hP 101 rfl rfl 0 (by decide) (hT _ kw_14_7) (fun _ h9 => h9) rfl dX7_count_178 ?_
                                  obtain rfl := tx_1 h
                                  exact W.iret hx hb hr (fun t ht hW => ⟨⟨_, (), rfl, rfl, by rw [ht]; exact hP, hD⟩, hS.F ht⟩) hS.2.2 dX7_count_181
                                · replace h := tx_neg c48 h
                                  have kc1 := tq_eqn (a := x1.toInt) (b := 0) rfl (by decide) c1
                                  have kc3 := tq_eqn (a := x1.toInt) (b := 1) rfl (by decide) c3
                                  have kc5 := tq_eqn (a := x1.toInt) (b := 2) rfl (by decide) c5
                                  have kc7 := tq_eqn (a := x1.toInt) (b := 3) rfl (by decide) c7
                                  have kc9 := tq_eqn (a := x1.toInt) (b := 4) rfl (by decide) c9
                                  have kc10 := tq_eqn (a := x1.toInt) (b := 5) rfl (by decide) c10
                                  have kc11 := tq_eqn (a := x1.toInt) (b := 6) rfl (by decide) c11
                                  have kc16 := tq_eqn (a := x1.toInt) (b := 7) rfl (by decide) c16
                                  have kc21 := tq_eqn (a := x1.toInt) (b := 8) rfl (by decide) c21
                                  have kc26 := tq_eqn (a := x1.toInt) (b := 9) rfl (by decide) c26
                                  have kc31 := tq_eqn (a := x1.toInt) (b := 10) rfl (by decide) c31
                                  have kc36 := tq_eqn (a := x1.toInt) (b := 11) rfl (by decide) c36
                                  have kc41 := tq_eqn (a := x1.toInt) (b := 12) rfl (by decide) c41
                                  have kc43 := tq_eqn (a := x1.toInt) (b := 13) rfl (by decide) c43
                                  have kc44 := tq_eqn (a := x1.toInt) (b := 14) rfl (by decide) c44
                                  have kc48 := tq_eqn (a := x1.toInt) (b := 15) rfl (by decide) c48
                                  refine lv_tableOut (tgt := 182) hx hb dX7_count_1 (by omega) (by decide) ?_
                                  refine lv_iconst (v := (-1)) hx hb dX7_count_182 (by decide) ?_
                                  obtain rfl := tx_1 h
                                  exact W.iret hx hb hr (fun t ht hW => ⟨⟨_, (), rfl, rfl, by rw [ht]; exact hP, hD⟩, hS.F ht⟩) hS.2.2 dX7_count_183
abbrev G_X7_digit (p : Program) (l : Launch) (e : Env) (s : State) (m : MethodId) (below : List Frame) (meth : Method) (c : Code) (G : va_G) (cA : Nat → ClassId) (A : Nat → Prop) (xa : Nat → Nat) (ka : Nat → Nat) (ra : Nat → Nat) (na : Nat → Nat) (ia : Nat → Nat) (ua : Nat → Nat) (va : Nat → Nat) (ca : Nat → Nat) (za : Nat → Nat) (pa : Nat → Nat) (qa : Nat → Nat) (X : Tr) (K : Tr) (R : Tr) (P : Tr) (L : Lo) (P2 : Tr) (L2 : Lo) (Tn : Tr) (Ti : Tr) (Tu : Tr) (Tv : Tr) (C : Tr) (Z : Tr) (q0 : Nat) (q1 : Nat) (q2 : Nat) (q3 : Nat) (q4 : Nat) (q5 : Nat) (x1 : Int32) (x2 : Int32) (r0 : Int32) (H : Heap) (locs : List Loc) (g : JFrame) : Prop := W p l e (headSpec (.code yX7_digit cX7_digit 5 (some .int) :: T0) ({ frames := 0, cells := 0, slots := 0, locals := 0 } : Room)).room s m ([.ref (xa 0), .int x1, .int x2] : List Value).toArray below meth c H locs 0 0 (MQ below (tqQi G cA (fun (r : Int32) (_ : Unit) => r = r0) (fun (_ : Unit) => wX cA xa ka ra na ia ua va ca za pa qa X K R P L P2 L2 Tn Ti Tu Tv C Z q0 q1 q2 q3 q4 q5) A) ([.ref (xa 0), .int x1, .int x2] : List Value).toArray s 0 0 A) g
set_option maxHeartbeats 4000000 in
set_option maxRecDepth 100000 in
theorem w_X7_digit_L17 {p : Program} {l : Launch} {e : Env} {s : State} {m : MethodId} {below : List Frame} {meth : Method} {c : Code} {G : va_G} {cA : Nat → ClassId} {A : Nat → Prop} {xa : Nat → Nat} {ka : Nat → Nat} {ra : Nat → Nat} {na : Nat → Nat} {ia : Nat → Nat} {ua : Nat → Nat} {va : Nat → Nat} {ca : Nat → Nat} {za : Nat → Nat} {pa : Nat → Nat} {qa : Nat → Nat} {X : Tr} {K : Tr} {R : Tr} {P : Tr} {L : Lo} {P2 : Tr} {L2 : Lo} {Tn : Tr} {Ti : Tr} {Tu : Tr} {Tv : Tr} {C : Tr} {Z : Tr} {q0 : Nat} {q1 : Nat} {q2 : Nat} {q3 : Nat} {q4 : Nat} {q5 : Nat} {x1₀ : Int32} {x2₀ : Int32} {r0 : Int32} {x2 : Int32} (F : tF p s m ([.ref (xa 0), .int x1₀, .int x2₀] : List Value).toArray meth c G cA A RX7 cX7_digit 5 (some .int))    (N : Nat) : ∀ (x3 : Int32) (x4 : Int32) (H : Heap) (locs : List Loc) (ls : Array Slot), lpF (fun _ _ => none) (fB_X7_digit_L17 pa qa P q4 x2) N x3 x4 = some r0 → va_P G vwCl (wX cA xa ka ra na ia ua va ca za pa qa X K R P L P2 L2 Tn Ti Tu Tv C Z q0 q1 q2 q3 q4 q5) H → va_D A (wX cA xa ka ra na ia ua va ca za pa qa X K R P L P2 L2 Tn Ti Tu Tv C Z q0 q1 q2 q3 q4 q5) → va_S A s.heap H locs → lv_has ls 5 [(0, .ref (xa 0)), (2, .int x2), (3, .int x3), (4, .int x4)] → G_X7_digit p l e s m below meth c G cA A xa ka ra na ia ua va ca za pa qa X K R P L P2 L2 Tn Ti Tu Tv C Z q0 q1 q2 q3 q4 q5 x1₀ x2₀ r0 H locs (F0 m 17 ls []) := by
  obtain ⟨hx, hb, hr, hml, hT, hown, hlocks, hK, hN, hA⟩ := id F
  induction N with
  | zero =>
    intro x3 x4 H locs ls h
    replace h : (none : Option (Int32)) = some r0 := h
    cases h
  | succ N hk17 =>
    intro x3 x4 H locs ls h hP hD hS hl
    replace h : fB_X7_digit_L17 pa qa P q4 x2 (lpF (fun _ _ => none) (fB_X7_digit_L17 pa qa P q4 x2) N) x3 x4 = some r0 := h
    generalize hk17e : lpF (fun _ _ => none) (fB_X7_digit_L17 pa qa P q4 x2) N = k17 at h hk17
    unfold fB_X7_digit_L17 at h
    refine lv_iload hx hb dX7_digit_17 (lv_at hl 3 rfl) ?_
    refine lv_iload_n hx hb dX7_digit_19 rfl (lv_at hl 1 rfl) ?_
    refine lv_icmp_ge (tgt := 39) hx hb dX7_digit_20 (by decide) (fun c3 => ?_) (fun c3 => ?_)
    · replace h := tx_pos c3 h
      refine lv_iload_n hx hb dX7_digit_39 rfl (lv_at hl 2 rfl) ?_
      refine lv_aload_n hx hb dX7_digit_40 rfl (lv_at hl 0 rfl) ?_
      refine va_get (D := G) (ci := 7) (v := .ref q4) (C := RX7) (T := TX7) (N := 12) hx hb hT ku_7 hown hK hP 0 rfl rfl 1 (by decide) (hT _ kw_1_20) (fun _ h9 => h9) rfl dX7_digit_41 ?_
      replace h := tx_ck h
      obtain ⟨g4, h⟩ := h
      have eg4 := of_decide_eq_true g4
      subst eg4
      refine va_get (D := G) (ci := 2) (v := .int (P 0 0)) (C := RX2) (T := TX2) (N := 19) hx hb hT ku_2 hown hK hP 9 rfl rfl 0 (by decide) (hT _ kw_32_2) (fun _ h9 => h9) rfl dX7_digit_44 ?_
      replace h := tx_ck h
      obtain ⟨g5, h⟩ := h
      refine lv_irem hx hb dX7_digit_47 (tx_nz g5) ?_
      obtain rfl := tx_1 h
      exact W.iret hx hb hr (fun t ht hW => ⟨⟨_, (), rfl, rfl, by rw [ht]; exact hP, hD⟩, hS.F ht⟩) hS.2.2 dX7_digit_48
    · replace h := tx_neg c3 h
      refine lv_iload_n hx hb dX7_digit_23 rfl (lv_at hl 2 rfl) ?_
      refine lv_aload_n hx hb dX7_digit_24 rfl (lv_at hl 0 rfl) ?_
      refine va_get (D := G) (ci := 7) (v := .ref q4) (C := RX7) (T := TX7) (N := 12) hx hb hT ku_7 hown hK hP 0 rfl rfl 1 (by decide) (hT _ kw_1_20) (fun _ h9 => h9) rfl dX7_digit_25 ?_
      replace h := tx_ck h
      obtain ⟨g6, h⟩ := h
      have eg6 := of_decide_eq_true g6
      subst eg6
      refine va_get (D := G) (ci := 2) (v := .int (P 0 0)) (C := RX2) (T := TX2) (N := 19) hx hb hT ku_2 hown hK hP 9 rfl rfl 0 (by decide) (hT _ kw_32_2) (fun _ h9 => h9) rfl dX7_digit_28 ?_
      replace h := tx_ck h
      obtain ⟨g7, h⟩ := h
      refine lv_idiv hx hb dX7_digit_31 (tx_nz g7) ?_
      refine lv_topi (fun y8 ey8 => ?_)
      replace h := tx_let ey8 h
      refine lv_istore_n (lv' := [(3, .int y8), (0, .ref (xa 0)), (2, .int x2), (4, .int x4)]) hx hb dX7_digit_32 rfl hl (by decide) rfl (fun ls hl => ?_)
      replace h := tx_lt h
      obtain ⟨y9, ey9, h⟩ := h
      refine lv_iinc (v := y9) (lv' := [(4, .int y9), (3, .int y8), (0, .ref (xa 0)), (2, .int x2)]) hx hb dX7_digit_33 hl (k := 3) rfl ey9 (by decide) rfl (fun ls hl => ?_)
      refine lv_goto (tgt := 17) hx hb dX7_digit_36 (by decide) ?_
      exact hk17 y8 y9 H locs ls h hP hD hS (lv_sub hl [2, 3, 1, 0] rfl)
set_option maxHeartbeats 4000000 in
set_option maxRecDepth 100000 in
theorem c_X7_digit (l : Launch) (G : va_G) (cA : Nat → ClassId) (sz : Nat) (xa : Nat → Nat) (ka : Nat → Nat) (ra : Nat → Nat) (na : Nat → Nat) (ia : Nat → Nat) (ua : Nat → Nat) (va : Nat → Nat) (ca : Nat → Nat) (za : Nat → Nat) (pa : Nat → Nat) (qa : Nat → Nat) (X : Tr) (K : Tr) (R : Tr) (P : Tr) (L : Lo) (P2 : Tr) (L2 : Lo) (Tn : Tr) (Ti : Tr) (Tu : Tr) (Tv : Tr) (C : Tr) (Z : Tr) (q0 : Nat) (q1 : Nat) (q2 : Nat) (q3 : Nat) (q4 : Nat) (q5 : Nat) (x1 : Int32) (x2 : Int32)  (r0 : Int32) (h : f_X7_digit pa qa P q4 x1 x2 = some r0) : Met l yX7_digit (.code yX7_digit cX7_digit 5 (some .int) :: T0) ({ frames := 0, cells := 0, slots := 0, locals := 0 } : Room) (tqP G cA [.ref (xa 0), .int x1, .int x2] (wX cA xa ka ra na ia ua va ca za pa qa X K R P L P2 L2 Tn Ti Tu Tv C Z q0 q1 q2 q3 q4 q5) sz) (tqQi G cA (fun (r : Int32) (_ : Unit) => r = r0) (fun (_ : Unit) => wX cA xa ka ra na ia ua va ca za pa qa X K R P L P2 L2 Tn Ti Tu Tv C Z q0 q1 q2 q3 q4 q5) (va_A (wX cA xa ka ra na ia ua va ca za pa qa X K R P L P2 L2 Tn Ti Tu Tv C Z q0 q1 q2 q3 q4 q5) sz)) 0 0 (va_A (wX cA xa ka ra na ia ua va ca za pa qa X K R P L P2 L2 Tn Ti Tu Tv C Z q0 q1 q2 q3 q4 q5) sz) := by
  refine Met.ofW (cc := cX7_digit) (maxL := 5) (ret := (some .int)) (by decide) rfl ?_
  intro p e s m args below meth c s₁ B hml hv
  obtain ⟨rfl, hsz, hP, hK, hD0, hN⟩ := hv
  have hx := B.exec
  have hb := B.bytes
  have hr := B.returns
  have hts := atoms_spec (ws := .code yX7_digit cX7_digit 5 (some .int) :: T0) B.pre
  have hT : ∀ w ∈ T0, w.before _ s = true := fun w h => hts w (List.mem_cons_of_mem _ h)
  have hown : s.vm.findClass RX7 = some m.cls := findClass_of_methodNamed B.named
  have hlocks := B.notSynchronized
  subst hsz
  have hD := hD0.self (sz := s.heap.size)
  generalize hAe : va_A (wX cA xa ka ra na ia ua va ca za pa qa X K R P L P2 L2 Tn Ti Tu Tv C Z q0 q1 q2 q3 q4 q5) s.heap.size = A at hD ⊢
  have hA : ∀ q : Nat, s.heap.size ≤ q → A q := fun q h => by rw [← hAe]; exact Or.inr h
  have hS : va_S A s.heap s.heap [] := va_S.rf
  have hl := lv_entry ([.ref (xa 0), .int x1, .int x2]) (n := 5) (Nat.le_of_ble_eq_true rfl)
  rw [lg_entry_eq]
  generalize (lg_sl ([.ref (xa 0), .int x1, .int x2]) ++ List.replicate (5 - (lg_sl ([.ref (xa 0), .int x1, .int x2])).length) Slot.unset).toArray = ls at hl ⊢
  have hl : lv_has ls 5 [(0, .ref (xa 0)), (1, .int x1), (2, .int x2)] := hl
  have F : tF p s m ([.ref (xa 0), .int x1, .int x2] : List Value).toArray meth c G cA A RX7 cX7_digit 5 (some .int) := ⟨hx, hb, hr, hml, hT, hown, hlocks, hK, hN, hA⟩
  obtain ⟨H, hH⟩ : ∃ z, z = s.heap := ⟨_, rfl⟩
  rw [← hH] at hP
  have hS : va_S A s.heap H [] := by rw [hH]; exact hS
  suffices hgo : G_X7_digit p l e s m below meth c G cA A xa ka ra na ia ua va ca za pa qa X K R P L P2 L2 Tn Ti Tu Tv C Z q0 q1 q2 q3 q4 q5 x1 x2 r0 H [] (F0 m 0 ls []) by rw [hH] at hgo; exact hgo
  generalize ([] : List Loc) = locs at hS ⊢
  unfold f_X7_digit at h
  refine lv_aload_n hx hb dX7_digit_0 rfl (lv_at hl 0 rfl) ?_
  refine va_get (D := G) (ci := 7) (v := .ref q4) (C := RX7) (T := TX7) (N := 12) hx hb hT ku_7 hown hK hP 0 rfl rfl 1 (by decide) (hT _ kw_1_20) (fun _ h9 => h9) rfl dX7_digit_1 ?_
  replace h := tx_ck h
  obtain ⟨g1, h⟩ := h
  have eg1 := of_decide_eq_true g1
  subst eg1
  refine va_get (D := G) (ci := 2) (v := .int (P 0 0)) (C := RX2) (T := TX2) (N := 19) hx hb hT ku_2 hown hK hP 9 rfl rfl 0 (by decide) (hT _ kw_32_2) (fun _ h9 => h9) rfl dX7_digit_4 ?_
  refine lv_if_ne (tgt := 12) hx hb dX7_digit_7 (by decide) (fun c2 => ?_) (fun c2 => ?_)
  · replace h := tx_neg c2 h
    refine lv_iload_n hx hb dX7_digit_12 rfl (lv_at hl 1 rfl) ?_
    refine lv_istore_n (lv' := [(3, .int x1), (0, .ref (xa 0)), (1, .int x1), (2, .int x2)]) hx hb dX7_digit_13 rfl hl (by decide) rfl (fun ls hl => ?_)
    refine lv_iconst (v := 0) hx hb dX7_digit_14 (by decide) ?_
    refine lv_istore (lv' := [(4, .int 0), (3, .int x1), (0, .ref (xa 0)), (1, .int x1), (2, .int x2)]) hx hb dX7_digit_15 hl (by decide) rfl (fun ls hl => ?_)
    exact w_X7_digit_L17 F 2000 x1 0 H locs ls h hP hD hS (lv_sub hl [2, 4, 1, 0] rfl)
  · replace h := tx_pos c2 h
    refine lv_iconst (v := (-1)) hx hb dX7_digit_10 (by decide) ?_
    obtain rfl := tx_1 h
    exact W.iret hx hb hr (fun t ht hW => ⟨⟨_, (), rfl, rfl, by rw [ht]; exact hP, hD⟩, hS.F ht⟩) hS.2.2 dX7_digit_11
abbrev G_X7_falls (p : Program) (l : Launch) (e : Env) (s : State) (m : MethodId) (below : List Frame) (meth : Method) (c : Code) (G : va_G) (cA : Nat → ClassId) (A : Nat → Prop) (xa : Nat → Nat) (ka : Nat → Nat) (ra : Nat → Nat) (na : Nat → Nat) (ia : Nat → Nat) (ua : Nat → Nat) (va : Nat → Nat) (ca : Nat → Nat) (za : Nat → Nat) (pa : Nat → Nat) (qa : Nat → Nat) (X : Tr) (K : Tr) (R : Tr) (P : Tr) (P2 : Tr) (L2 : Lo) (Tn : Tr) (Ti : Tr) (Tv : Tr) (C : Tr) (Z : Tr) (q0 : Nat) (q1 : Nat) (q3 : Nat) (q4 : Nat) (q5 : Nat) (r0 : Int32) (L' : Lo) (Tu' : Tr) (q2' : Nat) (H : Heap) (locs : List Loc) (g : JFrame) : Prop := W p l e (headSpec (.code yX7_falls cX7_falls 1 (some .int) :: T0) ({ frames := 5, cells := 0, slots := 0, locals := 133 } : Room)).room s m ([.ref (xa 0)] : List Value).toArray below meth c H locs 0 0 (MQ below (tqQi G cA (fun (r : Int32) (_ : Unit) => r = r0) (fun (_ : Unit) => wX cA xa ka ra na ia ua va ca za pa qa X K R P (L') P2 L2 Tn Ti (Tu') Tv C Z q0 q1 (q2') q3 q4 q5) A) ([.ref (xa 0)] : List Value).toArray s 0 0 A) g
set_option maxHeartbeats 4000000 in
set_option maxRecDepth 100000 in
theorem c_X7_falls (l : Launch) (G : va_G) (cA : Nat → ClassId) (sz : Nat) (xa : Nat → Nat) (ka : Nat → Nat) (ra : Nat → Nat) (na : Nat → Nat) (ia : Nat → Nat) (ua : Nat → Nat) (va : Nat → Nat) (ca : Nat → Nat) (za : Nat → Nat) (pa : Nat → Nat) (qa : Nat → Nat) (X : Tr) (K : Tr) (R : Tr) (P : Tr) (L : Lo) (P2 : Tr) (L2 : Lo) (Tn : Tr) (Ti : Tr) (Tu : Tr) (Tv : Tr) (C : Tr) (Z : Tr) (q0 : Nat) (q1 : Nat) (q2 : Nat) (q3 : Nat) (q4 : Nat) (q5 : Nat)  (r0 : Int32) (L' : Lo) (Tu' : Tr) (q2' : Nat) (h : f_X7_falls pa qa P L Tn Tu q0 q2 q4 = some (r0, L', Tu', q2')) : Met l yX7_falls (.code yX7_falls cX7_falls 1 (some .int) :: T0) ({ frames := 5, cells := 0, slots := 0, locals := 133 } : Room) (tqP G cA [.ref (xa 0)] (wX cA xa ka ra na ia ua va ca za pa qa X K R P L P2 L2 Tn Ti Tu Tv C Z q0 q1 q2 q3 q4 q5) sz) (tqQi G cA (fun (r : Int32) (_ : Unit) => r = r0) (fun (_ : Unit) => wX cA xa ka ra na ia ua va ca za pa qa X K R P (L') P2 L2 Tn Ti (Tu') Tv C Z q0 q1 (q2') q3 q4 q5) (va_A (wX cA xa ka ra na ia ua va ca za pa qa X K R P L P2 L2 Tn Ti Tu Tv C Z q0 q1 q2 q3 q4 q5) sz)) 0 0 (va_A (wX cA xa ka ra na ia ua va ca za pa qa X K R P L P2 L2 Tn Ti Tu Tv C Z q0 q1 q2 q3 q4 q5) sz) := by
  refine Met.ofW (cc := cX7_falls) (maxL := 1) (ret := (some .int)) (by decide) rfl ?_
  intro p e s m args below meth c s₁ B hml hv
  obtain ⟨rfl, hsz, hP, hK, hD0, hN⟩ := hv
  have hx := B.exec
  have hb := B.bytes
  have hr := B.returns
  have hts := atoms_spec (ws := .code yX7_falls cX7_falls 1 (some .int) :: T0) B.pre
  have hT : ∀ w ∈ T0, w.before _ s = true := fun w h => hts w (List.mem_cons_of_mem _ h)
  have hown : s.vm.findClass RX7 = some m.cls := findClass_of_methodNamed B.named
  have hlocks := B.notSynchronized
  subst hsz
  have hD := hD0.self (sz := s.heap.size)
  generalize hAe : va_A (wX cA xa ka ra na ia ua va ca za pa qa X K R P L P2 L2 Tn Ti Tu Tv C Z q0 q1 q2 q3 q4 q5) s.heap.size = A at hD ⊢
  have hA : ∀ q : Nat, s.heap.size ≤ q → A q := fun q h => by rw [← hAe]; exact Or.inr h
  have hS : va_S A s.heap s.heap [] := va_S.rf
  have hl := lv_entry ([.ref (xa 0)]) (n := 1) (Nat.le_of_ble_eq_true rfl)
  rw [lg_entry_eq]
  generalize (lg_sl ([.ref (xa 0)]) ++ List.replicate (1 - (lg_sl ([.ref (xa 0)])).length) Slot.unset).toArray = ls at hl ⊢
  have hl : lv_has ls 1 [(0, .ref (xa 0))] := hl
  have F : tF p s m ([.ref (xa 0)] : List Value).toArray meth c G cA A RX7 cX7_falls 1 (some .int) := ⟨hx, hb, hr, hml, hT, hown, hlocks, hK, hN, hA⟩
  obtain ⟨H, hH⟩ : ∃ z, z = s.heap := ⟨_, rfl⟩
  rw [← hH] at hP
  have hS : va_S A s.heap H [] := by rw [hH]; exact hS
  suffices hgo : G_X7_falls p l e s m below meth c G cA A xa ka ra na ia ua va ca za pa qa X K R P P2 L2 Tn Ti Tv C Z q0 q1 q3 q4 q5 r0 L' Tu' q2' H [] (F0 m 0 ls []) by rw [hH] at hgo; exact hgo
  generalize ([] : List Loc) = locs at hS ⊢
  unfold f_X7_falls at h
  refine lv_aload_n hx hb dX7_falls_0 rfl (lv_at hl 0 rfl) ?_
  refine va_get (D := G) (ci := 7) (v := .ref (na 0)) (C := RX7) (T := TX7) (N := 12) hx hb hT ku_7 hown hK hP 0 rfl rfl 2 (by decide) (hT _ kw_2_0) (fun _ h9 => h9) rfl dX7_falls_1 ?_
  refine va_get (D := G) (ci := 6) (v := .int (Tn 0 0)) (C := RX6) (T := TX6) (N := 20) hx hb hT ku_6 hown hK hP 53 rfl rfl 0 (by decide) (hT _ kw_40_5) (fun _ h9 => h9) rfl dX7_falls_4 ?_
  refine lv_bipush (v := 20) hx hb dX7_falls_7 (by decide) ?_
  refine lv_icmp_le (tgt := 14) hx hb dX7_falls_9 (by decide) (fun c1 => ?_) (fun c1 => ?_)
  · replace h := tx_pos c1 h
    refine lv_aload_n hx hb dX7_falls_14 rfl (lv_at hl 0 rfl) ?_
    replace h := tx_bd h
    obtain ⟨⟨Tu_2, q2_3⟩, hc4, h⟩ := h
    replace h := tx_let (y := Tu_2) rfl h
    replace h := tx_let (y := q2_3) rfl h
    refine tz_v (As := []) (rest := []) ⟨hx, hb, hml, hown, hT⟩ hP hD hS hA hK hN (c_X7_startTrial l G cA H.size xa ka ra na ia ua va ca za pa qa X K R P L P2 L2 Tn Ti Tu Tv C Z q0 q1 q2 q3 q4 q5  Tu_2 q2_3 hc4) (tq_gV kw_46_17 kw_46_18 kw_46_19 kw_1_2 kw_46_20) rfl rfl dkdV_yX7_startTrial_0 (Nat.le_of_ble_eq_true rfl) (Nat.le_of_ble_eq_true rfl) (ci := 7) (q0 := 0) rfl rfl rfl hl.1 rfl (Nat.le_of_ble_eq_true rfl) dX7_falls_15 ⟨Nat.le_of_ble_eq_true rfl, Nat.le_of_ble_eq_true rfl⟩ (fun _ H locs z5 hP hD hS => ?_)
    have hP : va_P G vwCl (wX cA xa ka ra na ia ua va ca za pa qa X K R P L P2 L2 Tn Ti Tu_2 Tv C Z q0 q1 q2_3 q3 q4 q5) H := hP
    have hD : va_D A (wX cA xa ka ra na ia ua va ca za pa qa X K R P L P2 L2 Tn Ti Tu_2 Tv C Z q0 q1 q2_3 q3 q4 q5) := hD
    refine lv_aload_n hx hb dX7_falls_18 rfl (lv_at hl 0 rfl) ?_
    refine va_get (D := G) (ci := 7) (v := .ref (ua 0)) (C := RX7) (T := TX7) (N := 12) hx hb hT ku_7 hown hK hP 0 rfl rfl 5 (by decide) (hT _ kw_2_3) (fun _ h9 => h9) rfl dX7_falls_19 ?_
    refine lv_aload_n hx hb dX7_falls_22 rfl (lv_at hl 0 rfl) ?_
    refine va_get (D := G) (ci := 7) (v := .ref q4) (C := RX7) (T := TX7) (N := 12) hx hb hT ku_7 hown hK hP 0 rfl rfl 1 (by decide) (hT _ kw_1_20) (fun _ h9 => h9) rfl dX7_falls_23 ?_
    replace h := tx_ck h
    obtain ⟨g6, h⟩ := h
    have eg6 := of_decide_eq_true g6
    subst eg6
    refine va_get (D := G) (ci := 2) (v := .ref (pa 18)) (C := RX2) (T := TX2) (N := 19) hx hb hT ku_2 hown hK hP 9 rfl rfl 17 (by decide) (hT _ kw_32_23) (fun _ h9 => h9) rfl dX7_falls_26 ?_
    refine lv_aload_n hx hb dX7_falls_29 rfl (lv_at hl 0 rfl) ?_
    refine va_get (D := G) (ci := 7) (v := .ref (na 0)) (C := RX7) (T := TX7) (N := 12) hx hb hT ku_7 hown hK hP 0 rfl rfl 2 (by decide) (hT _ kw_2_0) (fun _ h9 => h9) rfl dX7_falls_30 ?_
    refine va_get (D := G) (ci := 6) (v := .int (Tn 0 0)) (C := RX6) (T := TX6) (N := 20) hx hb hT ku_6 hown hK hP 53 rfl rfl 0 (by decide) (hT _ kw_40_5) (fun _ h9 => h9) rfl dX7_falls_33 ?_
    replace h := tx_ck h
    obtain ⟨g7, h⟩ := h
    refine va_iald (i := (Tn 0 0)) hx hb hK hP 20 0 rfl rfl (tx_in g7) dX7_falls_36 ?_
    replace h := tx_ck h
    obtain ⟨g8, h⟩ := h
    have eg8 := of_decide_eq_true g8
    subst eg8
    replace h := tx_bd h
    obtain ⟨⟨r9, Tu_10, L_11⟩, hc12, h⟩ := h
    replace h := tx_let (y := r9) rfl h
    replace h := tx_let (y := Tu_10) rfl h
    replace h := tx_let (y := L_11) rfl h
    refine tw_ci pX_ua hP hD hS hA (va_runV (As := [.int (P 18 (Tn 0 0).toNatClampNeg)]) (rest := []) ⟨hx, hb, hml, hown, hT⟩ (c_X6_takeDown l G cA H.size ua pa Tu_2 P L (P 18 (Tn 0 0).toNatClampNeg)  r9 Tu_10 L_11 hc12) (cwV 1 hT (tq_gV kw_46_23 kw_40_13 kw_40_14 kw_1_23 kw_40_15) rfl rfl rfl dkdV_yX6_takeDown_1 ⟨Nat.le_of_ble_eq_true rfl, Nat.le_of_ble_eq_true rfl⟩) ⟨(tw_pre pX_ua hP hD hK hN).1, va_recv hK hP (ci := 6) (q0 := 77) rfl rfl, (tw_pre pX_ua hP hD hK hN).2⟩ rfl rfl hl.1 rfl (lv_room (Nat.le_of_ble_eq_true rfl)) dX7_falls_37 ⟨Nat.le_of_ble_eq_true rfl, Nat.le_of_ble_eq_true rfl⟩) (fun _ _ H locs z13 hP hD hS => ?_)
    have z13 := z13.symm
    subst z13
    replace hP := tw_P pX_ua.symm hP
    replace hD := tw_D pX_ua.symm hD
    have hP : va_P G vwCl (wX cA xa ka ra na ia ua va ca za pa qa X K R P L_11 P2 L2 Tn Ti Tu_10 Tv C Z q0 q1 (pa 0) q3 (pa 0) q5) H := hP
    have hD : va_D A (wX cA xa ka ra na ia ua va ca za pa qa X K R P L_11 P2 L2 Tn Ti Tu_10 Tv C Z q0 q1 (pa 0) q3 (pa 0) q5) := hD
    refine lv_pop hx hb dX7_falls_40 rfl ?_
    refine lv_aload_n hx hb dX7_falls_41 rfl (lv_at hl 0 rfl) ?_
    refine va_get (D := G) (ci := 7) (v := .ref (ua 0)) (C := RX7) (T := TX7) (N := 12) hx hb hT ku_7 hown hK hP 0 rfl rfl 5 (by decide) (hT _ kw_2_3) (fun _ h9 => h9) rfl dX7_falls_42 ?_
    replace h := tx_bd h
    obtain ⟨Tu_14, hc15, h⟩ := h
    refine tw_cv pX_ua hP hD hS hA (va_runV (As := []) (rest := []) ⟨hx, hb, hml, hown, hT⟩ (c_X6_getIn l G cA H.size ua pa Tu_10 P L_11  Tu_14 hc15) (cwV 0 hT (tq_gV kw_47_4 kw_41_13 kw_41_14 kw_1_23 kw_41_15) rfl rfl rfl dkdV_yX6_getIn_0 ⟨Nat.le_of_ble_eq_true rfl, Nat.le_of_ble_eq_true rfl⟩) ⟨(tw_pre pX_ua hP hD hK hN).1, va_recv hK hP (ci := 6) (q0 := 77) rfl rfl, (tw_pre pX_ua hP hD hK hN).2⟩ rfl rfl hl.1 rfl (lv_room (Nat.le_of_ble_eq_true rfl)) dX7_falls_45 ⟨Nat.le_of_ble_eq_true rfl, Nat.le_of_ble_eq_true rfl⟩) (fun _ H locs z16 hP hD hS => ?_)
    replace hP := tw_P pX_ua.symm hP
    replace hD := tw_D pX_ua.symm hD
    have hP : va_P G vwCl (wX cA xa ka ra na ia ua va ca za pa qa X K R P L_11 P2 L2 Tn Ti Tu_14 Tv C Z q0 q1 (pa 0) q3 (pa 0) q5) H := hP
    have hD : va_D A (wX cA xa ka ra na ia ua va ca za pa qa X K R P L_11 P2 L2 Tn Ti Tu_14 Tv C Z q0 q1 (pa 0) q3 (pa 0) q5) := hD
    refine lv_aload_n hx hb dX7_falls_48 rfl (lv_at hl 0 rfl) ?_
    refine va_get (D := G) (ci := 7) (v := .ref (ua 0)) (C := RX7) (T := TX7) (N := 12) hx hb hT ku_7 hown hK hP 0 rfl rfl 5 (by decide) (hT _ kw_2_3) (fun _ h9 => h9) rfl dX7_falls_49 ?_
    replace h := tx_bd h
    obtain ⟨⟨r17, Tu_18, L_19⟩, hc20, h⟩ := h
    replace h := tx_let (y := r17) rfl h
    replace h := tx_let (y := Tu_18) rfl h
    replace h := tx_let (y := L_19) rfl h
    refine tw_ci pX_ua hP hD hS hA (va_runV (As := []) (rest := []) ⟨hx, hb, hml, hown, hT⟩ (c_X6_fallOff l G cA H.size ua pa Tu_14 P L_11  r17 Tu_18 L_19 hc20) (cwV 0 hT (tq_gV kw_52_23 kw_42_8 kw_42_9 kw_1_23 kw_42_10) rfl rfl rfl dkdV_yX6_fallOff_0 ⟨Nat.le_of_ble_eq_true rfl, Nat.le_of_ble_eq_true rfl⟩) ⟨(tw_pre pX_ua hP hD hK hN).1, va_recv hK hP (ci := 6) (q0 := 77) rfl rfl, (tw_pre pX_ua hP hD hK hN).2⟩ rfl rfl hl.1 rfl (lv_room (Nat.le_of_ble_eq_true rfl)) dX7_falls_52 ⟨Nat.le_of_ble_eq_true rfl, Nat.le_of_ble_eq_true rfl⟩) (fun _ _ H locs z21 hP hD hS => ?_)
    have z21 := z21.symm
    subst z21
    replace hP := tw_P pX_ua.symm hP
    replace hD := tw_D pX_ua.symm hD
    have hP : va_P G vwCl (wX cA xa ka ra na ia ua va ca za pa qa X K R P L_19 P2 L2 Tn Ti Tu_18 Tv C Z q0 q1 (pa 0) q3 (pa 0) q5) H := hP
    have hD : va_D A (wX cA xa ka ra na ia ua va ca za pa qa X K R P L_19 P2 L2 Tn Ti Tu_18 Tv C Z q0 q1 (pa 0) q3 (pa 0) q5) := hD
    obtain ⟨rfl, rfl, rfl, rfl⟩ := tx_4 h
    exact W.iret hx hb hr (fun t ht hW => ⟨⟨_, (), rfl, rfl, by rw [ht]; exact hP, hD⟩, hS.F ht⟩) hS.2.2 dX7_falls_55
  · replace h := tx_neg c1 h
    refine lv_iconst (v := 0) hx hb dX7_falls_12 (by decide) ?_
    obtain ⟨rfl, rfl, rfl, rfl⟩ := tx_4 h
    exact W.iret hx hb hr (fun t ht hW => ⟨⟨_, (), rfl, rfl, by rw [ht]; exact hP, hD⟩, hS.F ht⟩) hS.2.2 dX7_falls_13
abbrev G_X7_fault (p : Program) (l : Launch) (e : Env) (s : State) (m : MethodId) (below : List Frame) (meth : Method) (c : Code) (G : va_G) (cA : Nat → ClassId) (A : Nat → Prop) (xa : Nat → Nat) (ka : Nat → Nat) (ra : Nat → Nat) (na : Nat → Nat) (ia : Nat → Nat) (ua : Nat → Nat) (va : Nat → Nat) (ca : Nat → Nat) (za : Nat → Nat) (pa : Nat → Nat) (qa : Nat → Nat) (X : Tr) (K : Tr) (R : Tr) (P : Tr) (L : Lo) (P2 : Tr) (L2 : Lo) (Tn : Tr) (Ti : Tr) (Tu : Tr) (Tv : Tr) (C : Tr) (Z : Tr) (q0 : Nat) (q1 : Nat) (q2 : Nat) (q3 : Nat) (q4 : Nat) (q5 : Nat) (x1 : Int32) (r0 : Int32) (H : Heap) (locs : List Loc) (g : JFrame) : Prop := W p l e (headSpec (.code yX7_fault cX7_fault 2 (some .int) :: T0) ({ frames := 0, cells := 0, slots := 0, locals := 0 } : Room)).room s m ([.ref (xa 0), .int x1] : List Value).toArray below meth c H locs 0 0 (MQ below (tqQi G cA (fun (r : Int32) (_ : Unit) => r = r0) (fun (_ : Unit) => wX cA xa ka ra na ia ua va ca za pa qa X K R P L P2 L2 Tn Ti Tu Tv C Z q0 q1 q2 q3 q4 q5) A) ([.ref (xa 0), .int x1] : List Value).toArray s 0 0 A) g
set_option maxHeartbeats 4000000 in
set_option maxRecDepth 100000 in
theorem c_X7_fault (l : Launch) (G : va_G) (cA : Nat → ClassId) (sz : Nat) (xa : Nat → Nat) (ka : Nat → Nat) (ra : Nat → Nat) (na : Nat → Nat) (ia : Nat → Nat) (ua : Nat → Nat) (va : Nat → Nat) (ca : Nat → Nat) (za : Nat → Nat) (pa : Nat → Nat) (qa : Nat → Nat) (X : Tr) (K : Tr) (R : Tr) (P : Tr) (L : Lo) (P2 : Tr) (L2 : Lo) (Tn : Tr) (Ti : Tr) (Tu : Tr) (Tv : Tr) (C : Tr) (Z : Tr) (q0 : Nat) (q1 : Nat) (q2 : Nat) (q3 : Nat) (q4 : Nat) (q5 : Nat) (x1 : Int32)  (r0 : Int32) (h : f_X7_fault pa qa R x1 = some r0) : Met l yX7_fault (.code yX7_fault cX7_fault 2 (some .int) :: T0) ({ frames := 0, cells := 0, slots := 0, locals := 0 } : Room) (tqP G cA [.ref (xa 0), .int x1] (wX cA xa ka ra na ia ua va ca za pa qa X K R P L P2 L2 Tn Ti Tu Tv C Z q0 q1 q2 q3 q4 q5) sz) (tqQi G cA (fun (r : Int32) (_ : Unit) => r = r0) (fun (_ : Unit) => wX cA xa ka ra na ia ua va ca za pa qa X K R P L P2 L2 Tn Ti Tu Tv C Z q0 q1 q2 q3 q4 q5) (va_A (wX cA xa ka ra na ia ua va ca za pa qa X K R P L P2 L2 Tn Ti Tu Tv C Z q0 q1 q2 q3 q4 q5) sz)) 0 0 (va_A (wX cA xa ka ra na ia ua va ca za pa qa X K R P L P2 L2 Tn Ti Tu Tv C Z q0 q1 q2 q3 q4 q5) sz) := by
  refine Met.ofW (cc := cX7_fault) (maxL := 2) (ret := (some .int)) (by decide) rfl ?_
  intro p e s m args below meth c s₁ B hml hv
  obtain ⟨rfl, hsz, hP, hK, hD0, hN⟩ := hv
  have hx := B.exec
  have hb := B.bytes
  have hr := B.returns
  have hts := atoms_spec (ws := .code yX7_fault cX7_fault 2 (some .int) :: T0) B.pre
  have hT : ∀ w ∈ T0, w.before _ s = true := fun w h => hts w (List.mem_cons_of_mem _ h)
  have hown : s.vm.findClass RX7 = some m.cls := findClass_of_methodNamed B.named
  have hlocks := B.notSynchronized
  subst hsz
  have hD := hD0.self (sz := s.heap.size)
  generalize hAe : va_A (wX cA xa ka ra na ia ua va ca za pa qa X K R P L P2 L2 Tn Ti Tu Tv C Z q0 q1 q2 q3 q4 q5) s.heap.size = A at hD ⊢
  have hA : ∀ q : Nat, s.heap.size ≤ q → A q := fun q h => by rw [← hAe]; exact Or.inr h
  have hS : va_S A s.heap s.heap [] := va_S.rf
  have hl := lv_entry ([.ref (xa 0), .int x1]) (n := 2) (Nat.le_of_ble_eq_true rfl)
  rw [lg_entry_eq]
  generalize (lg_sl ([.ref (xa 0), .int x1]) ++ List.replicate (2 - (lg_sl ([.ref (xa 0), .int x1])).length) Slot.unset).toArray = ls at hl ⊢
  have hl : lv_has ls 2 [(0, .ref (xa 0)), (1, .int x1)] := hl
  have F : tF p s m ([.ref (xa 0), .int x1] : List Value).toArray meth c G cA A RX7 cX7_fault 2 (some .int) := ⟨hx, hb, hr, hml, hT, hown, hlocks, hK, hN, hA⟩
  obtain ⟨H, hH⟩ : ∃ z, z = s.heap := ⟨_, rfl⟩
  rw [← hH] at hP
  have hS : va_S A s.heap H [] := by rw [hH]; exact hS
  suffices hgo : G_X7_fault p l e s m below meth c G cA A xa ka ra na ia ua va ca za pa qa X K R P L P2 L2 Tn Ti Tu Tv C Z q0 q1 q2 q3 q4 q5 x1 r0 H [] (F0 m 0 ls []) by rw [hH] at hgo; exact hgo
  generalize ([] : List Loc) = locs at hS ⊢
  unfold f_X7_fault at h
  refine lv_iload_n hx hb dX7_fault_0 rfl (lv_at hl 1 rfl) ?_
  refine lv_if_ne (tgt := 12) hx hb dX7_fault_1 (by decide) (fun c1 => ?_) (fun c1 => ?_)
  · replace h := tx_neg c1 h
    refine lv_iload_n hx hb dX7_fault_12 rfl (lv_at hl 1 rfl) ?_
    refine lv_iconst (v := 1) hx hb dX7_fault_13 (by decide) ?_
    refine lv_icmp_ne (tgt := 27) hx hb dX7_fault_14 (by decide) (fun c2 => ?_) (fun c2 => ?_)
    · replace h := tx_neg c2 h
      refine lv_iconst (v := (-1)) hx hb dX7_fault_27 (by decide) ?_
      obtain rfl := tx_1 h
      exact W.iret hx hb hr (fun t ht hW => ⟨⟨_, (), rfl, rfl, by rw [ht]; exact hP, hD⟩, hS.F ht⟩) hS.2.2 dX7_fault_28
    · replace h := tx_pos c2 h
      refine lv_aload_n hx hb dX7_fault_17 rfl (lv_at hl 0 rfl) ?_
      refine va_get (D := G) (ci := 7) (v := .ref (ra 0)) (C := RX7) (T := TX7) (N := 12) hx hb hT ku_7 hown hK hP 0 rfl rfl 0 (by decide) (hT _ kw_1_16) (fun _ h9 => h9) rfl dX7_fault_18 ?_
      refine va_get (D := G) (ci := 3) (v := .int (R 0 2)) (C := RX3) (T := TX3) (N := 10) hx hb hT ku_3 hown hK hP 7 rfl rfl 2 (by decide) (hT _ kw_27_18) (fun _ h9 => h9) rfl dX7_fault_21 ?_
      refine lv_goto (tgt := 28) hx hb dX7_fault_24 (by decide) ?_
      obtain rfl := tx_1 h
      exact W.iret hx hb hr (fun t ht hW => ⟨⟨_, (), rfl, rfl, by rw [ht]; exact hP, hD⟩, hS.F ht⟩) hS.2.2 dX7_fault_28
  · replace h := tx_pos c1 h
    refine lv_aload_n hx hb dX7_fault_4 rfl (lv_at hl 0 rfl) ?_
    refine va_get (D := G) (ci := 7) (v := .ref (ra 0)) (C := RX7) (T := TX7) (N := 12) hx hb hT ku_7 hown hK hP 0 rfl rfl 0 (by decide) (hT _ kw_1_16) (fun _ h9 => h9) rfl dX7_fault_5 ?_
    refine va_get (D := G) (ci := 3) (v := .int (R 0 1)) (C := RX3) (T := TX3) (N := 10) hx hb hT ku_3 hown hK hP 7 rfl rfl 1 (by decide) (hT _ kw_27_17) (fun _ h9 => h9) rfl dX7_fault_8 ?_
    obtain rfl := tx_1 h
    exact W.iret hx hb hr (fun t ht hW => ⟨⟨_, (), rfl, rfl, by rw [ht]; exact hP, hD⟩, hS.F ht⟩) hS.2.2 dX7_fault_11
abbrev G_X5_append_x (p : Program) (l : Launch) (e : Env) (s : State) (m : MethodId) (below : List Frame) (meth : Method) (c : Code) (G : va_G) (cA : Nat → ClassId) (A : Nat → Prop) (xa : Nat → Nat) (ka : Nat → Nat) (ra : Nat → Nat) (na : Nat → Nat) (ia : Nat → Nat) (ua : Nat → Nat) (va : Nat → Nat) (ca : Nat → Nat) (za : Nat → Nat) (pa : Nat → Nat) (qa : Nat → Nat) (X : Tr) (R : Tr) (P : Tr) (L : Lo) (P2 : Tr) (L2 : Lo) (Tn : Tr) (Ti : Tr) (Tu : Tr) (Tv : Tr) (C : Tr) (Z : Tr) (q0 : Nat) (q1 : Nat) (q2 : Nat) (q3 : Nat) (q4 : Nat) (q5 : Nat) (x1 : Int32) (K' : Tr) (H : Heap) (locs : List Loc) (g : JFrame) : Prop := W p l e (headSpec (.code yX5_append cX5_append 3 none :: T0) ({ frames := 0, cells := 0, slots := 0, locals := 0 } : Room)).room s m ([.ref (ka 0), .int x1] : List Value).toArray below meth c H locs 0 0 (MQ below (tqQv G cA (fun (_ : Unit) => True) (fun (_ : Unit) => wX cA xa ka ra na ia ua va ca za pa qa X (K') R P L P2 L2 Tn Ti Tu Tv C Z q0 q1 q2 q3 q4 q5) A) ([.ref (ka 0), .int x1] : List Value).toArray s 0 0 A) g
set_option maxHeartbeats 4000000 in
set_option maxRecDepth 100000 in
theorem w_X5_append_x_L3 {p : Program} {l : Launch} {e : Env} {s : State} {m : MethodId} {below : List Frame} {meth : Method} {c : Code} {G : va_G} {cA : Nat → ClassId} {A : Nat → Prop} {xa : Nat → Nat} {ka : Nat → Nat} {ra : Nat → Nat} {na : Nat → Nat} {ia : Nat → Nat} {ua : Nat → Nat} {va : Nat → Nat} {ca : Nat → Nat} {za : Nat → Nat} {pa : Nat → Nat} {qa : Nat → Nat} {X : Tr} {R : Tr} {P : Tr} {L : Lo} {P2 : Tr} {L2 : Lo} {Tn : Tr} {Ti : Tr} {Tu : Tr} {Tv : Tr} {C : Tr} {Z : Tr} {q0 : Nat} {q1 : Nat} {q2 : Nat} {q3 : Nat} {q4 : Nat} {q5 : Nat} {x1₀ : Int32} {K' : Tr} {x1 : Int32} (F : tF p s m ([.ref (ka 0), .int x1₀] : List Value).toArray meth c G cA A RX5 cX5_append 3 none)    (N : Nat) : ∀ (x2 : Int32) (K : Tr) (H : Heap) (locs : List Loc) (ls : Array Slot), lpF (fun _ _ => none) (fB_X5_append_x_L3 pa qa x1) N x2 K = some K' → va_P G vwCl (wX cA xa ka ra na ia ua va ca za pa qa X K R P L P2 L2 Tn Ti Tu Tv C Z q0 q1 q2 q3 q4 q5) H → va_D A (wX cA xa ka ra na ia ua va ca za pa qa X K R P L P2 L2 Tn Ti Tu Tv C Z q0 q1 q2 q3 q4 q5) → va_S A s.heap H locs → lv_has ls 3 [(0, .ref (ka 0)), (1, .int x1), (2, .int x2)] → G_X5_append_x p l e s m below meth c G cA A xa ka ra na ia ua va ca za pa qa X R P L P2 L2 Tn Ti Tu Tv C Z q0 q1 q2 q3 q4 q5 x1₀ K' H locs (F0 m 3 ls []) := by
  obtain ⟨hx, hb, hr, hml, hT, hown, hlocks, hK, hN, hA⟩ := id F
  induction N with
  | zero =>
    intro x2 K H locs ls h
    replace h : (none : Option (Tr)) = some K' := h
    cases h
  | succ N hk3 =>
    intro x2 K H locs ls h hP hD hS hl
    replace h : fB_X5_append_x_L3 pa qa x1 (lpF (fun _ _ => none) (fB_X5_append_x_L3 pa qa x1) N) x2 K = some K' := h
    generalize hk3e : lpF (fun _ _ => none) (fB_X5_append_x_L3 pa qa x1) N = k3 at h hk3
    unfold fB_X5_append_x_L3 at h
    refine lv_iload_n hx hb dX5_append_3 rfl (lv_at hl 2 rfl) ?_
    refine lv_if_lt (tgt := 46) hx hb dX5_append_4 (by decide) (fun c1 => ?_) (fun c1 => ?_)
    · replace h := tx_pos c1 h
      obtain rfl := tx_1 h
      exact W.vret hx hb hr (fun t ht hW => ⟨⟨(), rfl, trivial, by rw [ht]; exact hP, hD⟩, hS.F ht⟩) hS.2.2 dX5_append_46
    · replace h := tx_neg c1 h
      refine lv_aload_n hx hb dX5_append_7 rfl (lv_at hl 0 rfl) ?_
      refine va_get (D := G) (ci := 5) (v := .int (K 0 0)) (C := RX5) (T := TX5) (N := 8) hx hb hT ku_5 hown hK hP 4 rfl rfl 0 (by decide) (hT _ kw_13_19) (fun _ h9 => h9) rfl dX5_append_8 ?_
      refine lv_sipush (v := 700) hx hb dX5_append_11 (by decide) ?_
      refine lv_icmp_ge (tgt := 46) hx hb dX5_append_14 (by decide) (fun c2 => ?_) (fun c2 => ?_)
      · replace h := tx_pos c2 h
        obtain rfl := tx_1 h
        exact W.vret hx hb hr (fun t ht hW => ⟨⟨(), rfl, trivial, by rw [ht]; exact hP, hD⟩, hS.F ht⟩) hS.2.2 dX5_append_46
      · replace h := tx_neg c2 h
        refine lv_aload_n hx hb dX5_append_17 rfl (lv_at hl 0 rfl) ?_
        refine va_get (D := G) (ci := 5) (v := .ref (ka 5)) (C := RX5) (T := TX5) (N := 8) hx hb hT ku_5 hown hK hP 4 rfl rfl 4 (by decide) (hT _ kw_3_11) (fun _ h9 => h9) rfl dX5_append_18 ?_
        refine lv_aload_n hx hb dX5_append_21 rfl (lv_at hl 0 rfl) ?_
        refine va_get (D := G) (ci := 5) (v := .int (K 0 0)) (C := RX5) (T := TX5) (N := 8) hx hb hT ku_5 hown hK hP 4 rfl rfl 0 (by decide) (hT _ kw_13_19) (fun _ h9 => h9) rfl dX5_append_22 ?_
        refine lv_iload_n hx hb dX5_append_25 rfl (lv_at hl 1 rfl) ?_
        refine lv_iload_n hx hb dX5_append_26 rfl (lv_at hl 2 rfl) ?_
        refine lv_iushr hx hb dX5_append_27 rfl ?_
        refine lv_i2b hx hb dX5_append_28 rfl ?_
        replace h := tx_ck h
        obtain ⟨g3, h⟩ := h
        refine va_bast (i := (K 0 0)) hx hb hK hP hD hS 5 3 rfl rfl (tx_in g3) dX5_append_29 (fun H locs hP hD hS => ?_)
        replace h := tx_lt h
        obtain ⟨K_4, eK_4, h⟩ := h
        rw [sX_ka_a4, eK_4] at hP hD
        refine lv_aload_n hx hb dX5_append_30 rfl (lv_at hl 0 rfl) ?_
        refine lv_dup hx hb dX5_append_31 rfl ?_
        refine va_get (D := G) (ci := 5) (v := .int (K_4 0 0)) (C := RX5) (T := TX5) (N := 8) hx hb hT ku_5 hown hK hP 4 rfl rfl 0 (by decide) (hT _ kw_13_19) (fun _ h9 => h9) rfl dX5_append_32 ?_
        refine lv_iconst (v := 1) hx hb dX5_append_35 (by decide) ?_
        refine lv_iadd hx hb dX5_append_36 ?_
        refine va_put (D := G) (ci := 5) (v := .int ((K_4 0 0) + 1)) (ty := .int) (C := RX5) (T := TX5) (N := 8) hx hb hT ku_5 tyX5 tyX5_ok nmX5 hown hK hP hD hS 4 rfl rfl 0 (by decide) (hT _ kw_13_19) (fun _ h9 => h9) rfl (by decide +kernel) rfl rfl (Nat.le_of_ble_eq_true rfl) dX5_append_37 (fun H locs hP hD hS => ?_)
        replace h := tx_lt h
        obtain ⟨K_5, eK_5, h⟩ := h
        rw [sX_ka_f0, eK_5] at hP hD
        replace h := tx_lt h
        obtain ⟨y6, ey6, h⟩ := h
        refine lv_iinc (v := y6) (lv' := [(2, .int y6), (0, .ref (ka 0)), (1, .int x1)]) hx hb dX5_append_40 hl (k := 2) rfl ey6 (by decide) rfl (fun ls hl => ?_)
        refine lv_goto (tgt := 3) hx hb dX5_append_43 (by decide) ?_
        exact hk3 y6 K_5 H locs ls h hP hD hS (lv_sub hl [1, 2, 0] rfl)
set_option maxHeartbeats 4000000 in
set_option maxRecDepth 100000 in
theorem c_X5_append_x (l : Launch) (G : va_G) (cA : Nat → ClassId) (sz : Nat) (xa : Nat → Nat) (ka : Nat → Nat) (ra : Nat → Nat) (na : Nat → Nat) (ia : Nat → Nat) (ua : Nat → Nat) (va : Nat → Nat) (ca : Nat → Nat) (za : Nat → Nat) (pa : Nat → Nat) (qa : Nat → Nat) (X : Tr) (K : Tr) (R : Tr) (P : Tr) (L : Lo) (P2 : Tr) (L2 : Lo) (Tn : Tr) (Ti : Tr) (Tu : Tr) (Tv : Tr) (C : Tr) (Z : Tr) (q0 : Nat) (q1 : Nat) (q2 : Nat) (q3 : Nat) (q4 : Nat) (q5 : Nat) (x1 : Int32)  (K' : Tr) (h : f_X5_append_x pa qa K x1 = some K') : Met l yX5_append (.code yX5_append cX5_append 3 none :: T0) ({ frames := 0, cells := 0, slots := 0, locals := 0 } : Room) (tqP G cA [.ref (ka 0), .int x1] (wX cA xa ka ra na ia ua va ca za pa qa X K R P L P2 L2 Tn Ti Tu Tv C Z q0 q1 q2 q3 q4 q5) sz) (tqQv G cA (fun (_ : Unit) => True) (fun (_ : Unit) => wX cA xa ka ra na ia ua va ca za pa qa X (K') R P L P2 L2 Tn Ti Tu Tv C Z q0 q1 q2 q3 q4 q5) (va_A (wX cA xa ka ra na ia ua va ca za pa qa X K R P L P2 L2 Tn Ti Tu Tv C Z q0 q1 q2 q3 q4 q5) sz)) 0 0 (va_A (wX cA xa ka ra na ia ua va ca za pa qa X K R P L P2 L2 Tn Ti Tu Tv C Z q0 q1 q2 q3 q4 q5) sz) := by
  refine Met.ofW (cc := cX5_append) (maxL := 3) (ret := none) (by decide) rfl ?_
  intro p e s m args below meth c s₁ B hml hv
  obtain ⟨rfl, hsz, hP, hK, hD0, hN⟩ := hv
  have hx := B.exec
  have hb := B.bytes
  have hr := B.returns
  have hts := atoms_spec (ws := .code yX5_append cX5_append 3 none :: T0) B.pre
  have hT : ∀ w ∈ T0, w.before _ s = true := fun w h => hts w (List.mem_cons_of_mem _ h)
  have hown : s.vm.findClass RX5 = some m.cls := findClass_of_methodNamed B.named
  have hlocks := B.notSynchronized
  subst hsz
  have hD := hD0.self (sz := s.heap.size)
  generalize hAe : va_A (wX cA xa ka ra na ia ua va ca za pa qa X K R P L P2 L2 Tn Ti Tu Tv C Z q0 q1 q2 q3 q4 q5) s.heap.size = A at hD ⊢
  have hA : ∀ q : Nat, s.heap.size ≤ q → A q := fun q h => by rw [← hAe]; exact Or.inr h
  have hS : va_S A s.heap s.heap [] := va_S.rf
  have hl := lv_entry ([.ref (ka 0), .int x1]) (n := 3) (Nat.le_of_ble_eq_true rfl)
  rw [lg_entry_eq]
  generalize (lg_sl ([.ref (ka 0), .int x1]) ++ List.replicate (3 - (lg_sl ([.ref (ka 0), .int x1])).length) Slot.unset).toArray = ls at hl ⊢
  have hl : lv_has ls 3 [(0, .ref (ka 0)), (1, .int x1)] := hl
  have F : tF p s m ([.ref (ka 0), .int x1] : List Value).toArray meth c G cA A RX5 cX5_append 3 none := ⟨hx, hb, hr, hml, hT, hown, hlocks, hK, hN, hA⟩
  obtain ⟨H, hH⟩ : ∃ z, z = s.heap := ⟨_, rfl⟩
  rw [← hH] at hP
  have hS : va_S A s.heap H [] := by rw [hH]; exact hS
  suffices hgo : G_X5_append_x p l e s m below meth c G cA A xa ka ra na ia ua va ca za pa qa X R P L P2 L2 Tn Ti Tu Tv C Z q0 q1 q2 q3 q4 q5 x1 K' H [] (F0 m 0 ls []) by rw [hH] at hgo; exact hgo
  generalize ([] : List Loc) = locs at hS ⊢
  unfold f_X5_append_x at h
  refine lv_bipush (v := 24) hx hb dX5_append_0 (by decide) ?_
  refine lv_istore_n (lv' := [(2, .int 24), (0, .ref (ka 0)), (1, .int x1)]) hx hb dX5_append_2 rfl hl (by decide) rfl (fun ls hl => ?_)
  exact w_X5_append_x_L3 F 2000 24 K H locs ls h hP hD hS (lv_sub hl [1, 2, 0] rfl)
abbrev G_X7_feed (p : Program) (l : Launch) (e : Env) (s : State) (m : MethodId) (below : List Frame) (meth : Method) (c : Code) (G : va_G) (cA : Nat → ClassId) (A : Nat → Prop) (xa : Nat → Nat) (ka : Nat → Nat) (ra : Nat → Nat) (na : Nat → Nat) (ia : Nat → Nat) (ua : Nat → Nat) (va : Nat → Nat) (ca : Nat → Nat) (za : Nat → Nat) (pa : Nat → Nat) (qa : Nat → Nat) (X : Tr) (R : Tr) (P : Tr) (L : Lo) (P2 : Tr) (L2 : Lo) (Tn : Tr) (Ti : Tr) (Tu : Tr) (Tv : Tr) (C : Tr) (Z : Tr) (q0 : Nat) (q1 : Nat) (q2 : Nat) (q3 : Nat) (q4 : Nat) (q5 : Nat) (x1 : Int32) (x2 : Int32) (x3 : Int32) (x4 : Int32) (x5 : Int32) (r0 : Int32) (K' : Tr) (H : Heap) (locs : List Loc) (g : JFrame) : Prop := W p l e (headSpec (.code yX7_feed cX7_feed 7 (some .int) :: T0) ({ frames := 1, cells := 0, slots := 0, locals := 22 } : Room)).room s m ([.ref (xa 0), .int x1, .int x2, .int x3, .int x4, .int x5] : List Value).toArray below meth c H locs 0 0 (MQ below (tqQi G cA (fun (r : Int32) (_ : Unit) => r = r0) (fun (_ : Unit) => wX cA xa ka ra na ia ua va ca za pa qa X (K') R P L P2 L2 Tn Ti Tu Tv C Z q0 q1 q2 q3 q4 q5) A) ([.ref (xa 0), .int x1, .int x2, .int x3, .int x4, .int x5] : List Value).toArray s 0 0 A) g
set_option maxHeartbeats 4000000 in
set_option maxRecDepth 100000 in
theorem c_X7_feed (l : Launch) (G : va_G) (cA : Nat → ClassId) (sz : Nat) (xa : Nat → Nat) (ka : Nat → Nat) (ra : Nat → Nat) (na : Nat → Nat) (ia : Nat → Nat) (ua : Nat → Nat) (va : Nat → Nat) (ca : Nat → Nat) (za : Nat → Nat) (pa : Nat → Nat) (qa : Nat → Nat) (X : Tr) (K : Tr) (R : Tr) (P : Tr) (L : Lo) (P2 : Tr) (L2 : Lo) (Tn : Tr) (Ti : Tr) (Tu : Tr) (Tv : Tr) (C : Tr) (Z : Tr) (q0 : Nat) (q1 : Nat) (q2 : Nat) (q3 : Nat) (q4 : Nat) (q5 : Nat) (x1 : Int32) (x2 : Int32) (x3 : Int32) (x4 : Int32) (x5 : Int32)  (r0 : Int32) (K' : Tr) (h : f_X7_feed pa qa K x1 x2 x3 x4 x5 = some (r0, K')) : Met l yX7_feed (.code yX7_feed cX7_feed 7 (some .int) :: T0) ({ frames := 1, cells := 0, slots := 0, locals := 22 } : Room) (tqP G cA [.ref (xa 0), .int x1, .int x2, .int x3, .int x4, .int x5] (wX cA xa ka ra na ia ua va ca za pa qa X K R P L P2 L2 Tn Ti Tu Tv C Z q0 q1 q2 q3 q4 q5) sz) (tqQi G cA (fun (r : Int32) (_ : Unit) => r = r0) (fun (_ : Unit) => wX cA xa ka ra na ia ua va ca za pa qa X (K') R P L P2 L2 Tn Ti Tu Tv C Z q0 q1 q2 q3 q4 q5) (va_A (wX cA xa ka ra na ia ua va ca za pa qa X K R P L P2 L2 Tn Ti Tu Tv C Z q0 q1 q2 q3 q4 q5) sz)) 0 0 (va_A (wX cA xa ka ra na ia ua va ca za pa qa X K R P L P2 L2 Tn Ti Tu Tv C Z q0 q1 q2 q3 q4 q5) sz) := by
  refine Met.ofW (cc := cX7_feed) (maxL := 7) (ret := (some .int)) (by decide) rfl ?_
  intro p e s m args below meth c s₁ B hml hv
  obtain ⟨rfl, hsz, hP, hK, hD0, hN⟩ := hv
  have hx := B.exec
  have hb := B.bytes
  have hr := B.returns
  have hts := atoms_spec (ws := .code yX7_feed cX7_feed 7 (some .int) :: T0) B.pre
  have hT : ∀ w ∈ T0, w.before _ s = true := fun w h => hts w (List.mem_cons_of_mem _ h)
  have hown : s.vm.findClass RX7 = some m.cls := findClass_of_methodNamed B.named
  have hlocks := B.notSynchronized
  subst hsz
  have hD := hD0.self (sz := s.heap.size)
  generalize hAe : va_A (wX cA xa ka ra na ia ua va ca za pa qa X K R P L P2 L2 Tn Ti Tu Tv C Z q0 q1 q2 q3 q4 q5) s.heap.size = A at hD ⊢
  have hA : ∀ q : Nat, s.heap.size ≤ q → A q := fun q h => by rw [← hAe]; exact Or.inr h
  have hS : va_S A s.heap s.heap [] := va_S.rf
  have hl := lv_entry ([.ref (xa 0), .int x1, .int x2, .int x3, .int x4, .int x5]) (n := 7) (Nat.le_of_ble_eq_true rfl)
  rw [lg_entry_eq]
  generalize (lg_sl ([.ref (xa 0), .int x1, .int x2, .int x3, .int x4, .int x5]) ++ List.replicate (7 - (lg_sl ([.ref (xa 0), .int x1, .int x2, .int x3, .int x4, .int x5])).length) Slot.unset).toArray = ls at hl ⊢
  have hl : lv_has ls 7 [(0, .ref (xa 0)), (1, .int x1), (2, .int x2), (3, .int x3), (4, .int x4), (5, .int x5)] := hl
  have F : tF p s m ([.ref (xa 0), .int x1, .int x2, .int x3, .int x4, .int x5] : List Value).toArray meth c G cA A RX7 cX7_feed 7 (some .int) := ⟨hx, hb, hr, hml, hT, hown, hlocks, hK, hN, hA⟩
  obtain ⟨H, hH⟩ : ∃ z, z = s.heap := ⟨_, rfl⟩
  rw [← hH] at hP
  have hS : va_S A s.heap H [] := by rw [hH]; exact hS
  suffices hgo : G_X7_feed p l e s m below meth c G cA A xa ka ra na ia ua va ca za pa qa X R P L P2 L2 Tn Ti Tu Tv C Z q0 q1 q2 q3 q4 q5 x1 x2 x3 x4 x5 r0 K' H [] (F0 m 0 ls []) by rw [hH] at hgo; exact hgo
  generalize ([] : List Loc) = locs at hS ⊢
  unfold f_X7_feed at h
  refine lv_aload_n hx hb dX7_feed_0 rfl (lv_at hl 0 rfl) ?_
  refine va_get (D := G) (ci := 7) (v := .ref (ra 0)) (C := RX7) (T := TX7) (N := 12) hx hb hT ku_7 hown hK hP 0 rfl rfl 0 (by decide) (hT _ kw_1_16) (fun _ h9 => h9) rfl dX7_feed_1 ?_
  refine va_get (D := G) (ci := 3) (v := .ref (ka 0)) (C := RX3) (T := TX3) (N := 10) hx hb hT ku_3 hown hK hP 7 rfl rfl 0 (by decide) (hT _ kw_13_13) (fun _ h9 => h9) rfl dX7_feed_4 ?_
  refine lv_astore (lv' := [(6, .ref (ka 0)), (0, .ref (xa 0)), (1, .int x1), (2, .int x2), (3, .int x3), (4, .int x4), (5, .int x5)]) hx hb dX7_feed_7 hl (by decide) rfl (fun ls hl => ?_)
  refine lv_aload hx hb dX7_feed_9 (lv_at hl 0 rfl) ?_
  refine va_get (D := G) (ci := 5) (v := .int (K 0 0)) (C := RX5) (T := TX5) (N := 8) hx hb hT ku_5 hown hK hP 4 rfl rfl 0 (by decide) (hT _ kw_13_14) (fun _ h9 => h9) rfl dX7_feed_11 ?_
  refine lv_bipush (v := 20) hx hb dX7_feed_14 (by decide) ?_
  refine lv_iadd hx hb dX7_feed_16 ?_
  refine lv_sipush (v := 700) hx hb dX7_feed_17 (by decide) ?_
  refine lv_icmp_le (tgt := 25) hx hb dX7_feed_20 (by decide) (fun c1 => ?_) (fun c1 => ?_)
  · replace h := tx_pos c1 h
    refine lv_aload hx hb dX7_feed_25 (lv_at hl 0 rfl) ?_
    refine lv_iload_n hx hb dX7_feed_27 rfl (lv_at hl 2 rfl) ?_
    replace h := tx_bd h
    obtain ⟨K_2, hc3, h⟩ := h
    refine tz_v (As := [.int x1]) (rest := []) ⟨hx, hb, hml, hown, hT⟩ hP hD hS hA hK hN (c_X5_append_x l G cA H.size xa ka ra na ia ua va ca za pa qa X K R P L P2 L2 Tn Ti Tu Tv C Z q0 q1 q2 q3 q4 q5 x1  K_2 hc3) (tq_gV kw_13_15 kw_13_16 kw_13_17 kw_2_22 kw_13_18) rfl rfl dkdV_yX5_append_1 (Nat.le_of_ble_eq_true rfl) (Nat.le_of_ble_eq_true rfl) (ci := 5) (q0 := 4) rfl rfl rfl hl.1 rfl (Nat.le_of_ble_eq_true rfl) dX7_feed_28 ⟨Nat.le_of_ble_eq_true rfl, Nat.le_of_ble_eq_true rfl⟩ (fun _ H locs z4 hP hD hS => ?_)
    have hP : va_P G vwCl (wX cA xa ka ra na ia ua va ca za pa qa X K_2 R P L P2 L2 Tn Ti Tu Tv C Z q0 q1 q2 q3 q4 q5) H := hP
    have hD : va_D A (wX cA xa ka ra na ia ua va ca za pa qa X K_2 R P L P2 L2 Tn Ti Tu Tv C Z q0 q1 q2 q3 q4 q5) := hD
    refine lv_aload hx hb dX7_feed_31 (lv_at hl 0 rfl) ?_
    refine lv_iload_n hx hb dX7_feed_33 rfl (lv_at hl 3 rfl) ?_
    replace h := tx_bd h
    obtain ⟨K_5, hc6, h⟩ := h
    refine tz_v (As := [.int x2]) (rest := []) ⟨hx, hb, hml, hown, hT⟩ hP hD hS hA hK hN (c_X5_append_x l G cA H.size xa ka ra na ia ua va ca za pa qa X K_2 R P L P2 L2 Tn Ti Tu Tv C Z q0 q1 q2 q3 q4 q5 x2  K_5 hc6) (tq_gV kw_13_15 kw_13_16 kw_13_17 kw_2_22 kw_13_18) rfl rfl dkdV_yX5_append_1 (Nat.le_of_ble_eq_true rfl) (Nat.le_of_ble_eq_true rfl) (ci := 5) (q0 := 4) rfl rfl rfl hl.1 rfl (Nat.le_of_ble_eq_true rfl) dX7_feed_34 ⟨Nat.le_of_ble_eq_true rfl, Nat.le_of_ble_eq_true rfl⟩ (fun _ H locs z7 hP hD hS => ?_)
    have hP : va_P G vwCl (wX cA xa ka ra na ia ua va ca za pa qa X K_5 R P L P2 L2 Tn Ti Tu Tv C Z q0 q1 q2 q3 q4 q5) H := hP
    have hD : va_D A (wX cA xa ka ra na ia ua va ca za pa qa X K_5 R P L P2 L2 Tn Ti Tu Tv C Z q0 q1 q2 q3 q4 q5) := hD
    refine lv_aload hx hb dX7_feed_37 (lv_at hl 0 rfl) ?_
    refine lv_iload_n hx hb dX7_feed_39 rfl (lv_at hl 4 rfl) ?_
    replace h := tx_bd h
    obtain ⟨K_8, hc9, h⟩ := h
    refine tz_v (As := [.int x3]) (rest := []) ⟨hx, hb, hml, hown, hT⟩ hP hD hS hA hK hN (c_X5_append_x l G cA H.size xa ka ra na ia ua va ca za pa qa X K_5 R P L P2 L2 Tn Ti Tu Tv C Z q0 q1 q2 q3 q4 q5 x3  K_8 hc9) (tq_gV kw_13_15 kw_13_16 kw_13_17 kw_2_22 kw_13_18) rfl rfl dkdV_yX5_append_1 (Nat.le_of_ble_eq_true rfl) (Nat.le_of_ble_eq_true rfl) (ci := 5) (q0 := 4) rfl rfl rfl hl.1 rfl (Nat.le_of_ble_eq_true rfl) dX7_feed_40 ⟨Nat.le_of_ble_eq_true rfl, Nat.le_of_ble_eq_true rfl⟩ (fun _ H locs z10 hP hD hS => ?_)
    have hP : va_P G vwCl (wX cA xa ka ra na ia ua va ca za pa qa X K_8 R P L P2 L2 Tn Ti Tu Tv C Z q0 q1 q2 q3 q4 q5) H := hP
    have hD : va_D A (wX cA xa ka ra na ia ua va ca za pa qa X K_8 R P L P2 L2 Tn Ti Tu Tv C Z q0 q1 q2 q3 q4 q5) := hD
    refine lv_aload hx hb dX7_feed_43 (lv_at hl 0 rfl) ?_
    refine lv_iload hx hb dX7_feed_45 (lv_at hl 5 rfl) ?_
    replace h := tx_bd h
    obtain ⟨K_11, hc12, h⟩ := h
    refine tz_v (As := [.int x4]) (rest := []) ⟨hx, hb, hml, hown, hT⟩ hP hD hS hA hK hN (c_X5_append_x l G cA H.size xa ka ra na ia ua va ca za pa qa X K_8 R P L P2 L2 Tn Ti Tu Tv C Z q0 q1 q2 q3 q4 q5 x4  K_11 hc12) (tq_gV kw_13_15 kw_13_16 kw_13_17 kw_2_22 kw_13_18) rfl rfl dkdV_yX5_append_1 (Nat.le_of_ble_eq_true rfl) (Nat.le_of_ble_eq_true rfl) (ci := 5) (q0 := 4) rfl rfl rfl hl.1 rfl (Nat.le_of_ble_eq_true rfl) dX7_feed_47 ⟨Nat.le_of_ble_eq_true rfl, Nat.le_of_ble_eq_true rfl⟩ (fun _ H locs z13 hP hD hS => ?_)
    have hP : va_P G vwCl (wX cA xa ka ra na ia ua va ca za pa qa X K_11 R P L P2 L2 Tn Ti Tu Tv C Z q0 q1 q2 q3 q4 q5) H := hP
    have hD : va_D A (wX cA xa ka ra na ia ua va ca za pa qa X K_11 R P L P2 L2 Tn Ti Tu Tv C Z q0 q1 q2 q3 q4 q5) := hD
    refine lv_aload hx hb dX7_feed_50 (lv_at hl 0 rfl) ?_
    refine lv_iload hx hb dX7_feed_52 (lv_at hl 6 rfl) ?_
    replace h := tx_bd h
    obtain ⟨K_14, hc15, h⟩ := h
    refine tz_v (As := [.int x5]) (rest := []) ⟨hx, hb, hml, hown, hT⟩ hP hD hS hA hK hN (c_X5_append_x l G cA H.size xa ka ra na ia ua va ca za pa qa X K_11 R P L P2 L2 Tn Ti Tu Tv C Z q0 q1 q2 q3 q4 q5 x5  K_14 hc15) (tq_gV kw_13_15 kw_13_16 kw_13_17 kw_2_22 kw_13_18) rfl rfl dkdV_yX5_append_1 (Nat.le_of_ble_eq_true rfl) (Nat.le_of_ble_eq_true rfl) (ci := 5) (q0 := 4) rfl rfl rfl hl.1 rfl (Nat.le_of_ble_eq_true rfl) dX7_feed_54 ⟨Nat.le_of_ble_eq_true rfl, Nat.le_of_ble_eq_true rfl⟩ (fun _ H locs z16 hP hD hS => ?_)
    have hP : va_P G vwCl (wX cA xa ka ra na ia ua va ca za pa qa X K_14 R P L P2 L2 Tn Ti Tu Tv C Z q0 q1 q2 q3 q4 q5) H := hP
    have hD : va_D A (wX cA xa ka ra na ia ua va ca za pa qa X K_14 R P L P2 L2 Tn Ti Tu Tv C Z q0 q1 q2 q3 q4 q5) := hD
    refine lv_aload hx hb dX7_feed_57 (lv_at hl 0 rfl) ?_
    refine va_get (D := G) (ci := 5) (v := .int (K_14 0 0)) (C := RX5) (T := TX5) (N := 8) hx hb hT ku_5 hown hK hP 4 rfl rfl 0 (by decide) (hT _ kw_13_14) (fun _ h9 => h9) rfl dX7_feed_59 ?_
    obtain ⟨rfl, rfl⟩ := tx_2 h
    exact W.iret hx hb hr (fun t ht hW => ⟨⟨_, (), rfl, rfl, by rw [ht]; exact hP, hD⟩, hS.F ht⟩) hS.2.2 dX7_feed_62
  · replace h := tx_neg c1 h
    refine lv_iconst (v := (-1)) hx hb dX7_feed_23 (by decide) ?_
    obtain ⟨rfl, rfl⟩ := tx_2 h
    exact W.iret hx hb hr (fun t ht hW => ⟨⟨_, (), rfl, rfl, by rw [ht]; exact hP, hD⟩, hS.F ht⟩) hS.2.2 dX7_feed_24
abbrev G_X7_feet (p : Program) (l : Launch) (e : Env) (s : State) (m : MethodId) (below : List Frame) (meth : Method) (c : Code) (G : va_G) (cA : Nat → ClassId) (A : Nat → Prop) (xa : Nat → Nat) (ka : Nat → Nat) (ra : Nat → Nat) (na : Nat → Nat) (ia : Nat → Nat) (ua : Nat → Nat) (va : Nat → Nat) (ca : Nat → Nat) (za : Nat → Nat) (pa : Nat → Nat) (qa : Nat → Nat) (X : Tr) (K : Tr) (R : Tr) (P : Tr) (P2 : Tr) (L2 : Lo) (Tn : Tr) (Ti : Tr) (Tv : Tr) (C : Tr) (Z : Tr) (q0 : Nat) (q1 : Nat) (q3 : Nat) (q4 : Nat) (q5 : Nat) (r0 : Int32) (L' : Lo) (Tu' : Tr) (q2' : Nat) (H : Heap) (locs : List Loc) (g : JFrame) : Prop := W p l e (headSpec (.code yX7_feet cX7_feet 4 (some .int) :: T0) ({ frames := 6, cells := 0, slots := 0, locals := 144 } : Room)).room s m ([.ref (xa 0)] : List Value).toArray below meth c H locs 0 0 (MQ below (tqQi G cA (fun (r : Int32) (_ : Unit) => r = r0) (fun (_ : Unit) => wX cA xa ka ra na ia ua va ca za pa qa X K R P (L') P2 L2 Tn Ti (Tu') Tv C Z q0 q1 (q2') q3 q4 q5) A) ([.ref (xa 0)] : List Value).toArray s 0 0 A) g
set_option maxHeartbeats 4000000 in
set_option maxRecDepth 100000 in
theorem w_X7_feet_J88 {p : Program} {l : Launch} {e : Env} {s : State} {m : MethodId} {below : List Frame} {meth : Method} {c : Code} {G : va_G} {cA : Nat → ClassId} {A : Nat → Prop} {xa : Nat → Nat} {ka : Nat → Nat} {ra : Nat → Nat} {na : Nat → Nat} {ia : Nat → Nat} {ua : Nat → Nat} {va : Nat → Nat} {ca : Nat → Nat} {za : Nat → Nat} {pa : Nat → Nat} {qa : Nat → Nat} {X : Tr} {K : Tr} {R : Tr} {P : Tr} {P2 : Tr} {L2 : Lo} {Tn : Tr} {Ti : Tr} {Tv : Tr} {C : Tr} {Z : Tr} {q0 : Nat} {q1 : Nat} {q3 : Nat} {q4 : Nat} {q5 : Nat} {r0 : Int32} {L' : Lo} {Tu' : Tr} {q2' : Nat} {q2 : Nat} (F : tF p s m ([.ref (xa 0)] : List Value).toArray meth c G cA A RX7 cX7_feet 4 (some .int))  (k14 : Int32 → Int32 → Lo → Tr → Option (Int32 × Lo × Tr × Nat)) (hk14 : ∀ (x1 : Int32) (x2 : Int32) (L : Lo) (Tu : Tr) (H : Heap) (locs : List Loc) (ls : Array Slot), k14 x1 x2 L Tu = some (r0, L', Tu', q2') → va_P G vwCl (wX cA xa ka ra na ia ua va ca za pa qa X K R P L P2 L2 Tn Ti Tu Tv C Z q0 q1 q2 q3 q4 q5) H → va_D A (wX cA xa ka ra na ia ua va ca za pa qa X K R P L P2 L2 Tn Ti Tu Tv C Z q0 q1 q2 q3 q4 q5) → va_S A s.heap H locs → lv_has ls 4 [(0, .ref (xa 0)), (1, .int x1), (2, .int x2)] → G_X7_feet p l e s m below meth c G cA A xa ka ra na ia ua va ca za pa qa X K R P P2 L2 Tn Ti Tv C Z q0 q1 q3 q4 q5 r0 L' Tu' q2' H locs (F0 m 14 ls [])) (x1 : Int32) (x2 : Int32) (L : Lo) (Tu : Tr) (H : Heap) (locs : List Loc) (ls : Array Slot) (h : fJ_X7_feet_J88 k14 pa qa P Tn q0 q2 q4 x1 x2 L Tu = some (r0, L', Tu', q2')) (hP : va_P G vwCl (wX cA xa ka ra na ia ua va ca za pa qa X K R P L P2 L2 Tn Ti Tu Tv C Z q0 q1 q2 q3 q4 q5) H) (hD : va_D A (wX cA xa ka ra na ia ua va ca za pa qa X K R P L P2 L2 Tn Ti Tu Tv C Z q0 q1 q2 q3 q4 q5)) (hS : va_S A s.heap H locs) (hl : lv_has ls 4 [(0, .ref (xa 0)), (1, .int x1), (2, .int x2)]) : G_X7_feet p l e s m below meth c G cA A xa ka ra na ia ua va ca za pa qa X K R P P2 L2 Tn Ti Tv C Z q0 q1 q3 q4 q5 r0 L' Tu' q2' H locs (F0 m 88 ls []) := by
  obtain ⟨hx, hb, hr, hml, hT, hown, hlocks, hK, hN, hA⟩ := id F
  unfold fJ_X7_feet_J88 at h
  refine lv_aload_n hx hb dX7_feet_88 rfl (lv_at hl 0 rfl) ?_
  refine va_get (D := G) (ci := 7) (v := .ref (ua 0)) (C := RX7) (T := TX7) (N := 12) hx hb hT ku_7 hown hK hP 0 rfl rfl 5 (by decide) (hT _ kw_2_3) (fun _ h9 => h9) rfl dX7_feet_89 ?_
  replace h := tx_ck h
  obtain ⟨g20, h⟩ := h
  have eg20 := of_decide_eq_true g20
  subst eg20
  replace h := tx_bd h
  obtain ⟨⟨Tu_21, L_22⟩, hc23, h⟩ := h
  replace h := tx_let (y := Tu_21) rfl h
  replace h := tx_let (y := L_22) rfl h
  refine tw_cv pX_ua hP hD hS hA (va_runV (As := []) (rest := []) ⟨hx, hb, hml, hown, hT⟩ (c_X6_wayOn l G cA H.size ua pa Tu P L  Tu_21 L_22 hc23) (cwV 0 hT (tq_gV kw_47_9 kw_42_4 kw_42_5 kw_1_23 kw_42_6) rfl rfl rfl dkdV_yX6_wayOn_0 ⟨Nat.le_of_ble_eq_true rfl, Nat.le_of_ble_eq_true rfl⟩) ⟨(tw_pre pX_ua hP hD hK hN).1, va_recv hK hP (ci := 6) (q0 := 77) rfl rfl, (tw_pre pX_ua hP hD hK hN).2⟩ rfl rfl hl.1 rfl (lv_room (Nat.le_of_ble_eq_true rfl)) dX7_feet_92 ⟨Nat.le_of_ble_eq_true rfl, Nat.le_of_ble_eq_true rfl⟩) (fun _ H locs z24 hP hD hS => ?_)
  replace hP := tw_P pX_ua.symm hP
  replace hD := tw_D pX_ua.symm hD
  have hP : va_P G vwCl (wX cA xa ka ra na ia ua va ca za pa qa X K R P L_22 P2 L2 Tn Ti Tu_21 Tv C Z q0 q1 (pa 0) q3 q4 q5) H := hP
  have hD : va_D A (wX cA xa ka ra na ia ua va ca za pa qa X K R P L_22 P2 L2 Tn Ti Tu_21 Tv C Z q0 q1 (pa 0) q3 q4 q5) := hD
  replace h := tx_lt h
  obtain ⟨y25, ey25, h⟩ := h
  refine lv_iinc (v := y25) (lv' := [(2, .int y25), (0, .ref (xa 0)), (1, .int x1)]) hx hb dX7_feet_95 hl (k := 2) rfl ey25 (by decide) rfl (fun ls hl => ?_)
  refine lv_goto (tgt := 14) hx hb dX7_feet_98 (by decide) ?_
  exact hk14 x1 y25 L_22 Tu_21 H locs ls h hP hD hS (lv_sub hl [1, 2, 0] rfl)
set_option maxHeartbeats 4000000 in
set_option maxRecDepth 100000 in
theorem w_X7_feet_L46 {p : Program} {l : Launch} {e : Env} {s : State} {m : MethodId} {below : List Frame} {meth : Method} {c : Code} {G : va_G} {cA : Nat → ClassId} {A : Nat → Prop} {xa : Nat → Nat} {ka : Nat → Nat} {ra : Nat → Nat} {na : Nat → Nat} {ia : Nat → Nat} {ua : Nat → Nat} {va : Nat → Nat} {ca : Nat → Nat} {za : Nat → Nat} {pa : Nat → Nat} {qa : Nat → Nat} {X : Tr} {K : Tr} {R : Tr} {P : Tr} {P2 : Tr} {L2 : Lo} {Tn : Tr} {Ti : Tr} {Tv : Tr} {C : Tr} {Z : Tr} {q0 : Nat} {q1 : Nat} {q3 : Nat} {q4 : Nat} {q5 : Nat} {r0 : Int32} {L' : Lo} {Tu' : Tr} {q2' : Nat} {L : Lo} {Tu : Tr} {q2 : Nat} {x2 : Int32} (F : tF p s m ([.ref (xa 0)] : List Value).toArray meth c G cA A RX7 cX7_feet 4 (some .int))  (k14 : Int32 → Int32 → Lo → Tr → Option (Int32 × Lo × Tr × Nat)) (hk14 : ∀ (x1 : Int32) (x2 : Int32) (L : Lo) (Tu : Tr) (H : Heap) (locs : List Loc) (ls : Array Slot), k14 x1 x2 L Tu = some (r0, L', Tu', q2') → va_P G vwCl (wX cA xa ka ra na ia ua va ca za pa qa X K R P L P2 L2 Tn Ti Tu Tv C Z q0 q1 q2 q3 q4 q5) H → va_D A (wX cA xa ka ra na ia ua va ca za pa qa X K R P L P2 L2 Tn Ti Tu Tv C Z q0 q1 q2 q3 q4 q5) → va_S A s.heap H locs → lv_has ls 4 [(0, .ref (xa 0)), (1, .int x1), (2, .int x2)] → G_X7_feet p l e s m below meth c G cA A xa ka ra na ia ua va ca za pa qa X K R P P2 L2 Tn Ti Tv C Z q0 q1 q3 q4 q5 r0 L' Tu' q2' H locs (F0 m 14 ls [])) (N : Nat) : ∀ (x1 : Int32) (x3 : Int32) (H : Heap) (locs : List Loc) (ls : Array Slot), lpF (fun _ _ => none) (fB_X7_feet_L46 k14 pa qa P L Tn Tu q0 q2 q4 x2) N x1 x3 = some (r0, L', Tu', q2') → va_P G vwCl (wX cA xa ka ra na ia ua va ca za pa qa X K R P L P2 L2 Tn Ti Tu Tv C Z q0 q1 q2 q3 q4 q5) H → va_D A (wX cA xa ka ra na ia ua va ca za pa qa X K R P L P2 L2 Tn Ti Tu Tv C Z q0 q1 q2 q3 q4 q5) → va_S A s.heap H locs → lv_has ls 4 [(0, .ref (xa 0)), (1, .int x1), (2, .int x2), (3, .int x3)] → G_X7_feet p l e s m below meth c G cA A xa ka ra na ia ua va ca za pa qa X K R P P2 L2 Tn Ti Tv C Z q0 q1 q3 q4 q5 r0 L' Tu' q2' H locs (F0 m 46 ls []) := by
  obtain ⟨hx, hb, hr, hml, hT, hown, hlocks, hK, hN, hA⟩ := id F
  induction N with
  | zero =>
    intro x1 x3 H locs ls h
    replace h : (none : Option (Int32 × Lo × Tr × Nat)) = some (r0, L', Tu', q2') := h
    cases h
  | succ N hk46 =>
    intro x1 x3 H locs ls h hP hD hS hl
    replace h : fB_X7_feet_L46 k14 pa qa P L Tn Tu q0 q2 q4 x2 (lpF (fun _ _ => none) (fB_X7_feet_L46 k14 pa qa P L Tn Tu q0 q2 q4 x2) N) x1 x3 = some (r0, L', Tu', q2') := h
    generalize hk46e : lpF (fun _ _ => none) (fB_X7_feet_L46 k14 pa qa P L Tn Tu q0 q2 q4 x2) N = k46 at h hk46
    unfold fB_X7_feet_L46 at h
    refine lv_iload_n hx hb dX7_feet_46 rfl (lv_at hl 3 rfl) ?_
    refine lv_aload_n hx hb dX7_feet_47 rfl (lv_at hl 0 rfl) ?_
    refine va_get (D := G) (ci := 7) (v := .ref q4) (C := RX7) (T := TX7) (N := 12) hx hb hT ku_7 hown hK hP 0 rfl rfl 1 (by decide) (hT _ kw_1_20) (fun _ h9 => h9) rfl dX7_feet_48 ?_
    replace h := tx_ck h
    obtain ⟨g18, h⟩ := h
    have eg18 := of_decide_eq_true g18
    subst eg18
    refine va_get (D := G) (ci := 2) (v := .int (P 0 0)) (C := RX2) (T := TX2) (N := 19) hx hb hT ku_2 hown hK hP 9 rfl rfl 0 (by decide) (hT _ kw_32_2) (fun _ h9 => h9) rfl dX7_feet_51 ?_
    refine lv_icmp_ge (tgt := 88) hx hb dX7_feet_54 (by decide) (fun c19 => ?_) (fun c19 => ?_)
    · replace h := tx_pos c19 h
      exact w_X7_feet_J88 F k14 hk14 x1 x2 L Tu H locs ls h hP hD hS (lv_sub hl [0, 1, 2] rfl)
    · replace h := tx_neg c19 h
      refine lv_aload_n hx hb dX7_feet_57 rfl (lv_at hl 0 rfl) ?_
      refine va_get (D := G) (ci := 7) (v := .ref (pa 0)) (C := RX7) (T := TX7) (N := 12) hx hb hT ku_7 hown hK hP 0 rfl rfl 1 (by decide) (hT _ kw_1_20) (fun _ h9 => h9) rfl dX7_feet_58 ?_
      refine va_get (D := G) (ci := 2) (v := .ref (pa 8)) (C := RX2) (T := TX2) (N := 19) hx hb hT ku_2 hown hK hP 9 rfl rfl 7 (by decide) (hT _ kw_31_18) (fun _ h9 => h9) rfl dX7_feet_61 ?_
      refine lv_iload_n hx hb dX7_feet_64 rfl (lv_at hl 3 rfl) ?_
      replace h := tx_ck h
      obtain ⟨g26, h⟩ := h
      refine va_iald (i := x3) hx hb hK hP 10 0 rfl rfl (tx_in g26) dX7_feet_65 ?_
      refine lv_iconst (v := 2) hx hb dX7_feet_66 (by decide) ?_
      refine lv_icmp_ne (tgt := 82) hx hb dX7_feet_67 (by decide) (fun c27 => ?_) (fun c27 => ?_)
      · replace h := tx_neg c27 h
        replace h := tx_lt h
        obtain ⟨y28, ey28, h⟩ := h
        refine lv_iinc (v := y28) (lv' := [(3, .int y28), (0, .ref (xa 0)), (1, .int x1), (2, .int x2)]) hx hb dX7_feet_82 hl (k := 3) rfl ey28 (by decide) rfl (fun ls hl => ?_)
        refine lv_goto (tgt := 46) hx hb dX7_feet_85 (by decide) ?_
        exact hk46 x1 y28 H locs ls h hP hD hS (lv_sub hl [1, 2, 3, 0] rfl)
      · replace h := tx_pos c27 h
        refine lv_iload_n hx hb dX7_feet_70 rfl (lv_at hl 1 rfl) ?_
        refine lv_aload_n hx hb dX7_feet_71 rfl (lv_at hl 0 rfl) ?_
        refine va_get (D := G) (ci := 7) (v := .ref (ua 0)) (C := RX7) (T := TX7) (N := 12) hx hb hT ku_7 hown hK hP 0 rfl rfl 5 (by decide) (hT _ kw_2_3) (fun _ h9 => h9) rfl dX7_feet_72 ?_
        refine va_get (D := G) (ci := 6) (v := .ref (ua 17)) (C := RX6) (T := TX6) (N := 20) hx hb hT ku_6 hown hK hP 77 rfl rfl 16 (by decide) (hT _ kw_31_21) (fun _ h9 => h9) rfl dX7_feet_75 ?_
        refine lv_iload_n hx hb dX7_feet_78 rfl (lv_at hl 3 rfl) ?_
        refine va_iald (i := x3) hx hb hK hP 86 0 rfl rfl (tx_in g26) dX7_feet_79 ?_
        refine lv_iadd hx hb dX7_feet_80 ?_
        refine lv_topi (fun y29 ey29 => ?_)
        replace h := tx_let ey29 h
        refine lv_istore_n (lv' := [(1, .int y29), (0, .ref (xa 0)), (2, .int x2), (3, .int x3)]) hx hb dX7_feet_81 rfl hl (by decide) rfl (fun ls hl => ?_)
        replace h := tx_lt h
        obtain ⟨y30, ey30, h⟩ := h
        refine lv_iinc (v := y30) (lv' := [(3, .int y30), (1, .int y29), (0, .ref (xa 0)), (2, .int x2)]) hx hb dX7_feet_82 hl (k := 3) rfl ey30 (by decide) rfl (fun ls hl => ?_)
        refine lv_goto (tgt := 46) hx hb dX7_feet_85 (by decide) ?_
        exact hk46 y29 y30 H locs ls h hP hD hS (lv_sub hl [2, 1, 3, 0] rfl)
set_option maxHeartbeats 4000000 in
set_option maxRecDepth 100000 in
theorem w_X7_feet_L14 {p : Program} {l : Launch} {e : Env} {s : State} {m : MethodId} {below : List Frame} {meth : Method} {c : Code} {G : va_G} {cA : Nat → ClassId} {A : Nat → Prop} {xa : Nat → Nat} {ka : Nat → Nat} {ra : Nat → Nat} {na : Nat → Nat} {ia : Nat → Nat} {ua : Nat → Nat} {va : Nat → Nat} {ca : Nat → Nat} {za : Nat → Nat} {pa : Nat → Nat} {qa : Nat → Nat} {X : Tr} {K : Tr} {R : Tr} {P : Tr} {P2 : Tr} {L2 : Lo} {Tn : Tr} {Ti : Tr} {Tv : Tr} {C : Tr} {Z : Tr} {q0 : Nat} {q1 : Nat} {q3 : Nat} {q4 : Nat} {q5 : Nat} {r0 : Int32} {L' : Lo} {Tu' : Tr} {q2' : Nat} {q2 : Nat} (F : tF p s m ([.ref (xa 0)] : List Value).toArray meth c G cA A RX7 cX7_feet 4 (some .int))    (N : Nat) : ∀ (x1 : Int32) (x2 : Int32) (L : Lo) (Tu : Tr) (H : Heap) (locs : List Loc) (ls : Array Slot), lpF (fun _ _ _ _ => none) (fB_X7_feet_L14 pa qa P Tn q0 q2 q4) N x1 x2 L Tu = some (r0, L', Tu', q2') → va_P G vwCl (wX cA xa ka ra na ia ua va ca za pa qa X K R P L P2 L2 Tn Ti Tu Tv C Z q0 q1 q2 q3 q4 q5) H → va_D A (wX cA xa ka ra na ia ua va ca za pa qa X K R P L P2 L2 Tn Ti Tu Tv C Z q0 q1 q2 q3 q4 q5) → va_S A s.heap H locs → lv_has ls 4 [(0, .ref (xa 0)), (1, .int x1), (2, .int x2)] → G_X7_feet p l e s m below meth c G cA A xa ka ra na ia ua va ca za pa qa X K R P P2 L2 Tn Ti Tv C Z q0 q1 q3 q4 q5 r0 L' Tu' q2' H locs (F0 m 14 ls []) := by
  obtain ⟨hx, hb, hr, hml, hT, hown, hlocks, hK, hN, hA⟩ := id F
  induction N with
  | zero =>
    intro x1 x2 L Tu H locs ls h
    replace h : (none : Option (Int32 × Lo × Tr × Nat)) = some (r0, L', Tu', q2') := h
    cases h
  | succ N hk14 =>
    intro x1 x2 L Tu H locs ls h hP hD hS hl
    replace h : fB_X7_feet_L14 pa qa P Tn q0 q2 q4 (lpF (fun _ _ _ _ => none) (fB_X7_feet_L14 pa qa P Tn q0 q2 q4) N) x1 x2 L Tu = some (r0, L', Tu', q2') := h
    generalize hk14e : lpF (fun _ _ _ _ => none) (fB_X7_feet_L14 pa qa P Tn q0 q2 q4) N = k14 at h hk14
    unfold fB_X7_feet_L14 at h
    refine lv_iload_n hx hb dX7_feet_14 rfl (lv_at hl 2 rfl) ?_
    refine lv_bipush (v := 20) hx hb dX7_feet_15 (by decide) ?_
    refine lv_icmp_gt (tgt := 101) hx hb dX7_feet_17 (by decide) (fun c6 => ?_) (fun c6 => ?_)
    · replace h := tx_pos c6 h
      refine lv_iload_n hx hb dX7_feet_101 rfl (lv_at hl 1 rfl) ?_
      obtain ⟨rfl, rfl, rfl, rfl⟩ := tx_4 h
      exact W.iret hx hb hr (fun t ht hW => ⟨⟨_, (), rfl, rfl, by rw [ht]; exact hP, hD⟩, hS.F ht⟩) hS.2.2 dX7_feet_102
    · replace h := tx_neg c6 h
      refine lv_aload_n hx hb dX7_feet_20 rfl (lv_at hl 0 rfl) ?_
      refine va_get (D := G) (ci := 7) (v := .ref (ua 0)) (C := RX7) (T := TX7) (N := 12) hx hb hT ku_7 hown hK hP 0 rfl rfl 5 (by decide) (hT _ kw_2_3) (fun _ h9 => h9) rfl dX7_feet_21 ?_
      refine lv_aload_n hx hb dX7_feet_24 rfl (lv_at hl 0 rfl) ?_
      refine va_get (D := G) (ci := 7) (v := .ref q4) (C := RX7) (T := TX7) (N := 12) hx hb hT ku_7 hown hK hP 0 rfl rfl 1 (by decide) (hT _ kw_1_20) (fun _ h9 => h9) rfl dX7_feet_25 ?_
      replace h := tx_ck h
      obtain ⟨g7, h⟩ := h
      have eg7 := of_decide_eq_true g7
      subst eg7
      refine va_get (D := G) (ci := 2) (v := .ref (pa 18)) (C := RX2) (T := TX2) (N := 19) hx hb hT ku_2 hown hK hP 9 rfl rfl 17 (by decide) (hT _ kw_32_23) (fun _ h9 => h9) rfl dX7_feet_28 ?_
      refine lv_iload_n hx hb dX7_feet_31 rfl (lv_at hl 2 rfl) ?_
      replace h := tx_ck h
      obtain ⟨g8, h⟩ := h
      refine va_iald (i := x2) hx hb hK hP 20 0 rfl rfl (tx_in g8) dX7_feet_32 ?_
      replace h := tx_ck h
      obtain ⟨g9, h⟩ := h
      have eg9 := of_decide_eq_true g9
      subst eg9
      replace h := tx_bd h
      obtain ⟨⟨r10, Tu_11, L_12⟩, hc13, h⟩ := h
      replace h := tx_let (y := r10) rfl h
      replace h := tx_let (y := Tu_11) rfl h
      replace h := tx_let (y := L_12) rfl h
      refine tw_ci pX_ua hP hD hS hA (va_runV (As := [.int (P 18 x2.toNatClampNeg)]) (rest := []) ⟨hx, hb, hml, hown, hT⟩ (c_X6_takeDown l G cA H.size ua pa Tu P L (P 18 x2.toNatClampNeg)  r10 Tu_11 L_12 hc13) (cwV 1 hT (tq_gV kw_46_23 kw_40_13 kw_40_14 kw_1_23 kw_40_15) rfl rfl rfl dkdV_yX6_takeDown_1 ⟨Nat.le_of_ble_eq_true rfl, Nat.le_of_ble_eq_true rfl⟩) ⟨(tw_pre pX_ua hP hD hK hN).1, va_recv hK hP (ci := 6) (q0 := 77) rfl rfl, (tw_pre pX_ua hP hD hK hN).2⟩ rfl rfl hl.1 rfl (lv_room (Nat.le_of_ble_eq_true rfl)) dX7_feet_33 ⟨Nat.le_of_ble_eq_true rfl, Nat.le_of_ble_eq_true rfl⟩) (fun _ _ H locs z14 hP hD hS => ?_)
      have z14 := z14.symm
      subst z14
      replace hP := tw_P pX_ua.symm hP
      replace hD := tw_D pX_ua.symm hD
      have hP : va_P G vwCl (wX cA xa ka ra na ia ua va ca za pa qa X K R P L_12 P2 L2 Tn Ti Tu_11 Tv C Z q0 q1 (pa 0) q3 (pa 0) q5) H := hP
      have hD : va_D A (wX cA xa ka ra na ia ua va ca za pa qa X K R P L_12 P2 L2 Tn Ti Tu_11 Tv C Z q0 q1 (pa 0) q3 (pa 0) q5) := hD
      refine lv_pop hx hb dX7_feet_36 rfl ?_
      refine lv_aload_n hx hb dX7_feet_37 rfl (lv_at hl 0 rfl) ?_
      refine va_get (D := G) (ci := 7) (v := .ref (ua 0)) (C := RX7) (T := TX7) (N := 12) hx hb hT ku_7 hown hK hP 0 rfl rfl 5 (by decide) (hT _ kw_2_3) (fun _ h9 => h9) rfl dX7_feet_38 ?_
      replace h := tx_bd h
      obtain ⟨Tu_15, hc16, h⟩ := h
      refine tw_cv pX_ua hP hD hS hA (va_runV (As := []) (rest := []) ⟨hx, hb, hml, hown, hT⟩ (c_X6_getIn l G cA H.size ua pa Tu_11 P L_12  Tu_15 hc16) (cwV 0 hT (tq_gV kw_47_4 kw_41_13 kw_41_14 kw_1_23 kw_41_15) rfl rfl rfl dkdV_yX6_getIn_0 ⟨Nat.le_of_ble_eq_true rfl, Nat.le_of_ble_eq_true rfl⟩) ⟨(tw_pre pX_ua hP hD hK hN).1, va_recv hK hP (ci := 6) (q0 := 77) rfl rfl, (tw_pre pX_ua hP hD hK hN).2⟩ rfl rfl hl.1 rfl (lv_room (Nat.le_of_ble_eq_true rfl)) dX7_feet_41 ⟨Nat.le_of_ble_eq_true rfl, Nat.le_of_ble_eq_true rfl⟩) (fun _ H locs z17 hP hD hS => ?_)
      replace hP := tw_P pX_ua.symm hP
      replace hD := tw_D pX_ua.symm hD
      have hP : va_P G vwCl (wX cA xa ka ra na ia ua va ca za pa qa X K R P L_12 P2 L2 Tn Ti Tu_15 Tv C Z q0 q1 (pa 0) q3 (pa 0) q5) H := hP
      have hD : va_D A (wX cA xa ka ra na ia ua va ca za pa qa X K R P L_12 P2 L2 Tn Ti Tu_15 Tv C Z q0 q1 (pa 0) q3 (pa 0) q5) := hD
      refine lv_iconst (v := 0) hx hb dX7_feet_44 (by decide) ?_
      refine lv_istore_n (lv' := [(3, .int 0), (0, .ref (xa 0)), (1, .int x1), (2, .int x2)]) hx hb dX7_feet_45 rfl hl (by decide) rfl (fun ls hl => ?_)
      exact w_X7_feet_L46 F k14 hk14 2000 x1 0 H locs ls h hP hD hS (lv_sub hl [1, 2, 3, 0] rfl)
set_option maxHeartbeats 4000000 in
set_option maxRecDepth 100000 in
theorem c_X7_feet (l : Launch) (G : va_G) (cA : Nat → ClassId) (sz : Nat) (xa : Nat → Nat) (ka : Nat → Nat) (ra : Nat → Nat) (na : Nat → Nat) (ia : Nat → Nat) (ua : Nat → Nat) (va : Nat → Nat) (ca : Nat → Nat) (za : Nat → Nat) (pa : Nat → Nat) (qa : Nat → Nat) (X : Tr) (K : Tr) (R : Tr) (P : Tr) (L : Lo) (P2 : Tr) (L2 : Lo) (Tn : Tr) (Ti : Tr) (Tu : Tr) (Tv : Tr) (C : Tr) (Z : Tr) (q0 : Nat) (q1 : Nat) (q2 : Nat) (q3 : Nat) (q4 : Nat) (q5 : Nat)  (r0 : Int32) (L' : Lo) (Tu' : Tr) (q2' : Nat) (h : f_X7_feet pa qa P L Tn Tu q0 q2 q4 = some (r0, L', Tu', q2')) : Met l yX7_feet (.code yX7_feet cX7_feet 4 (some .int) :: T0) ({ frames := 6, cells := 0, slots := 0, locals := 144 } : Room) (tqP G cA [.ref (xa 0)] (wX cA xa ka ra na ia ua va ca za pa qa X K R P L P2 L2 Tn Ti Tu Tv C Z q0 q1 q2 q3 q4 q5) sz) (tqQi G cA (fun (r : Int32) (_ : Unit) => r = r0) (fun (_ : Unit) => wX cA xa ka ra na ia ua va ca za pa qa X K R P (L') P2 L2 Tn Ti (Tu') Tv C Z q0 q1 (q2') q3 q4 q5) (va_A (wX cA xa ka ra na ia ua va ca za pa qa X K R P L P2 L2 Tn Ti Tu Tv C Z q0 q1 q2 q3 q4 q5) sz)) 0 0 (va_A (wX cA xa ka ra na ia ua va ca za pa qa X K R P L P2 L2 Tn Ti Tu Tv C Z q0 q1 q2 q3 q4 q5) sz) := by
  refine Met.ofW (cc := cX7_feet) (maxL := 4) (ret := (some .int)) (by decide) rfl ?_
  intro p e s m args below meth c s₁ B hml hv
  obtain ⟨rfl, hsz, hP, hK, hD0, hN⟩ := hv
  have hx := B.exec
  have hb := B.bytes
  have hr := B.returns
  have hts := atoms_spec (ws := .code yX7_feet cX7_feet 4 (some .int) :: T0) B.pre
  have hT : ∀ w ∈ T0, w.before _ s = true := fun w h => hts w (List.mem_cons_of_mem _ h)
  have hown : s.vm.findClass RX7 = some m.cls := findClass_of_methodNamed B.named
  have hlocks := B.notSynchronized
  subst hsz
  have hD := hD0.self (sz := s.heap.size)
  generalize hAe : va_A (wX cA xa ka ra na ia ua va ca za pa qa X K R P L P2 L2 Tn Ti Tu Tv C Z q0 q1 q2 q3 q4 q5) s.heap.size = A at hD ⊢
  have hA : ∀ q : Nat, s.heap.size ≤ q → A q := fun q h => by rw [← hAe]; exact Or.inr h
  have hS : va_S A s.heap s.heap [] := va_S.rf
  have hl := lv_entry ([.ref (xa 0)]) (n := 4) (Nat.le_of_ble_eq_true rfl)
  rw [lg_entry_eq]
  generalize (lg_sl ([.ref (xa 0)]) ++ List.replicate (4 - (lg_sl ([.ref (xa 0)])).length) Slot.unset).toArray = ls at hl ⊢
  have hl : lv_has ls 4 [(0, .ref (xa 0))] := hl
  have F : tF p s m ([.ref (xa 0)] : List Value).toArray meth c G cA A RX7 cX7_feet 4 (some .int) := ⟨hx, hb, hr, hml, hT, hown, hlocks, hK, hN, hA⟩
  obtain ⟨H, hH⟩ : ∃ z, z = s.heap := ⟨_, rfl⟩
  rw [← hH] at hP
  have hS : va_S A s.heap H [] := by rw [hH]; exact hS
  suffices hgo : G_X7_feet p l e s m below meth c G cA A xa ka ra na ia ua va ca za pa qa X K R P P2 L2 Tn Ti Tv C Z q0 q1 q3 q4 q5 r0 L' Tu' q2' H [] (F0 m 0 ls []) by rw [hH] at hgo; exact hgo
  generalize ([] : List Loc) = locs at hS ⊢
  unfold f_X7_feet at h
  refine lv_aload_n hx hb dX7_feet_0 rfl (lv_at hl 0 rfl) ?_
  replace h := tx_bd h
  obtain ⟨⟨Tu_1, q2_2⟩, hc3, h⟩ := h
  replace h := tx_let (y := Tu_1) rfl h
  replace h := tx_let (y := q2_2) rfl h
  refine tz_v (As := []) (rest := []) ⟨hx, hb, hml, hown, hT⟩ hP hD hS hA hK hN (c_X7_startTrial l G cA H.size xa ka ra na ia ua va ca za pa qa X K R P L P2 L2 Tn Ti Tu Tv C Z q0 q1 q2 q3 q4 q5  Tu_1 q2_2 hc3) (tq_gV kw_46_17 kw_46_18 kw_46_19 kw_1_2 kw_46_20) rfl rfl dkdV_yX7_startTrial_0 (Nat.le_of_ble_eq_true rfl) (Nat.le_of_ble_eq_true rfl) (ci := 7) (q0 := 0) rfl rfl rfl hl.1 rfl (Nat.le_of_ble_eq_true rfl) dX7_feet_1 ⟨Nat.le_of_ble_eq_true rfl, Nat.le_of_ble_eq_true rfl⟩ (fun _ H locs z4 hP hD hS => ?_)
  have hP : va_P G vwCl (wX cA xa ka ra na ia ua va ca za pa qa X K R P L P2 L2 Tn Ti Tu_1 Tv C Z q0 q1 q2_2 q3 q4 q5) H := hP
  have hD : va_D A (wX cA xa ka ra na ia ua va ca za pa qa X K R P L P2 L2 Tn Ti Tu_1 Tv C Z q0 q1 q2_2 q3 q4 q5) := hD
  refine lv_iconst (v := 0) hx hb dX7_feet_4 (by decide) ?_
  refine lv_istore_n (lv' := [(1, .int 0), (0, .ref (xa 0))]) hx hb dX7_feet_5 rfl hl (by decide) rfl (fun ls hl => ?_)
  refine lv_aload_n hx hb dX7_feet_6 rfl (lv_at hl 1 rfl) ?_
  refine va_get (D := G) (ci := 7) (v := .ref (na 0)) (C := RX7) (T := TX7) (N := 12) hx hb hT ku_7 hown hK hP 0 rfl rfl 2 (by decide) (hT _ kw_2_0) (fun _ h9 => h9) rfl dX7_feet_7 ?_
  refine va_get (D := G) (ci := 6) (v := .int (Tn 0 0)) (C := RX6) (T := TX6) (N := 20) hx hb hT ku_6 hown hK hP 53 rfl rfl 0 (by decide) (hT _ kw_40_5) (fun _ h9 => h9) rfl dX7_feet_10 ?_
  refine lv_topi (fun y5 ey5 => ?_)
  replace h := tx_let ey5 h
  refine lv_istore_n (lv' := [(2, .int y5), (1, .int 0), (0, .ref (xa 0))]) hx hb dX7_feet_13 rfl hl (by decide) rfl (fun ls hl => ?_)
  exact w_X7_feet_L14 F 2000 0 y5 L Tu_1 H locs ls h hP hD hS (lv_sub hl [2, 1, 0] rfl)
abbrev G_X7_findLeast (p : Program) (l : Launch) (e : Env) (s : State) (m : MethodId) (below : List Frame) (meth : Method) (c : Code) (G : va_G) (cA : Nat → ClassId) (A : Nat → Prop) (xa : Nat → Nat) (ka : Nat → Nat) (ra : Nat → Nat) (na : Nat → Nat) (ia : Nat → Nat) (ua : Nat → Nat) (va : Nat → Nat) (ca : Nat → Nat) (za : Nat → Nat) (pa : Nat → Nat) (qa : Nat → Nat) (X : Tr) (K : Tr) (R : Tr) (P : Tr) (P2 : Tr) (L2 : Lo) (Tn : Tr) (Ti : Tr) (C : Tr) (Z : Tr) (q0 : Nat) (q1 : Nat) (q4 : Nat) (q5 : Nat) (x1 : Int32) (r0 : Int32) (L' : Lo) (Tu' : Tr) (Tv' : Tr) (q2' : Nat) (q3' : Nat) (H : Heap) (locs : List Loc) (g : JFrame) : Prop := W p l e (headSpec (.code yX7_findLeast cX7_findLeast 6 (some .int) :: T0) ({ frames := 6, cells := 0, slots := 0, locals := 153 } : Room)).room s m ([.ref (xa 0), .int x1] : List Value).toArray below meth c H locs 0 0 (MQ below (tqQi G cA (fun (r : Int32) (_ : Unit) => r = r0) (fun (_ : Unit) => wX cA xa ka ra na ia ua va ca za pa qa X K R P (L') P2 L2 Tn Ti (Tu') (Tv') C Z q0 q1 (q2') (q3') q4 q5) A) ([.ref (xa 0), .int x1] : List Value).toArray s 0 0 A) g
set_option maxHeartbeats 4000000 in
set_option maxRecDepth 100000 in
theorem w_X7_findLeast_J138 {p : Program} {l : Launch} {e : Env} {s : State} {m : MethodId} {below : List Frame} {meth : Method} {c : Code} {G : va_G} {cA : Nat → ClassId} {A : Nat → Prop} {xa : Nat → Nat} {ka : Nat → Nat} {ra : Nat → Nat} {na : Nat → Nat} {ia : Nat → Nat} {ua : Nat → Nat} {va : Nat → Nat} {ca : Nat → Nat} {za : Nat → Nat} {pa : Nat → Nat} {qa : Nat → Nat} {X : Tr} {K : Tr} {R : Tr} {P : Tr} {P2 : Tr} {L2 : Lo} {Tn : Tr} {Ti : Tr} {C : Tr} {Z : Tr} {q0 : Nat} {q1 : Nat} {q4 : Nat} {q5 : Nat} {x1₀ : Int32} {r0 : Int32} {L' : Lo} {Tu' : Tr} {Tv' : Tr} {q2' : Nat} {q3' : Nat} {Tv : Tr} {q3 : Nat} {x1 : Int32} {x2 : Int32} (F : tF p s m ([.ref (xa 0), .int x1₀] : List Value).toArray meth c G cA A RX7 cX7_findLeast 6 (some .int))  (k68 : Int32 → Int32 → Lo → Tr → Nat → Option (Int32 × Lo × Tr × Tr × Nat × Nat)) (hk68 : ∀ (x3 : Int32) (x4 : Int32) (L : Lo) (Tu : Tr) (q2 : Nat) (H : Heap) (locs : List Loc) (ls : Array Slot), k68 x3 x4 L Tu q2 = some (r0, L', Tu', Tv', q2', q3') → va_P G vwCl (wX cA xa ka ra na ia ua va ca za pa qa X K R P L P2 L2 Tn Ti Tu Tv C Z q0 q1 q2 q3 q4 q5) H → va_D A (wX cA xa ka ra na ia ua va ca za pa qa X K R P L P2 L2 Tn Ti Tu Tv C Z q0 q1 q2 q3 q4 q5) → va_S A s.heap H locs → lv_has ls 6 [(0, .ref (xa 0)), (1, .int x1), (2, .int x2), (3, .int x3), (4, .int x4)] → G_X7_findLeast p l e s m below meth c G cA A xa ka ra na ia ua va ca za pa qa X K R P P2 L2 Tn Ti C Z q0 q1 q4 q5 x1₀ r0 L' Tu' Tv' q2' q3' H locs (F0 m 68 ls [])) (x3 : Int32) (x4 : Int32) (L : Lo) (Tu : Tr) (q2 : Nat) (H : Heap) (locs : List Loc) (ls : Array Slot) (h : fJ_X7_findLeast_J138 k68 pa qa X P Tn Tv q0 q3 q4 x1 x2 x3 x4 L Tu q2 = some (r0, L', Tu', Tv', q2', q3')) (hP : va_P G vwCl (wX cA xa ka ra na ia ua va ca za pa qa X K R P L P2 L2 Tn Ti Tu Tv C Z q0 q1 q2 q3 q4 q5) H) (hD : va_D A (wX cA xa ka ra na ia ua va ca za pa qa X K R P L P2 L2 Tn Ti Tu Tv C Z q0 q1 q2 q3 q4 q5)) (hS : va_S A s.heap H locs) (hl : lv_has ls 6 [(0, .ref (xa 0)), (1, .int x1), (2, .int x2), (3, .int x3), (4, .int x4)]) : G_X7_findLeast p l e s m below meth c G cA A xa ka ra na ia ua va ca za pa qa X K R P P2 L2 Tn Ti C Z q0 q1 q4 q5 x1₀ r0 L' Tu' Tv' q2' q3' H locs (F0 m 138 ls []) := by
  obtain ⟨hx, hb, hr, hml, hT, hown, hlocks, hK, hN, hA⟩ := id F
  unfold fJ_X7_findLeast_J138 at h
  refine lv_aload_n hx hb dX7_findLeast_138 rfl (lv_at hl 0 rfl) ?_
  refine va_get (D := G) (ci := 7) (v := .ref (ua 0)) (C := RX7) (T := TX7) (N := 12) hx hb hT ku_7 hown hK hP 0 rfl rfl 5 (by decide) (hT _ kw_2_3) (fun _ h9 => h9) rfl dX7_findLeast_139 ?_
  replace h := tx_ck h
  obtain ⟨g25, h⟩ := h
  have eg25 := of_decide_eq_true g25
  subst eg25
  replace h := tx_bd h
  obtain ⟨Tu_26, hc27, h⟩ := h
  refine tw_cv pX_ua hP hD hS hA (va_runV (As := []) (rest := []) ⟨hx, hb, hml, hown, hT⟩ (c_X6_getIn l G cA H.size ua pa Tu P L  Tu_26 hc27) (cwV 0 hT (tq_gV kw_47_4 kw_41_13 kw_41_14 kw_1_23 kw_41_15) rfl rfl rfl dkdV_yX6_getIn_0 ⟨Nat.le_of_ble_eq_true rfl, Nat.le_of_ble_eq_true rfl⟩) ⟨(tw_pre pX_ua hP hD hK hN).1, va_recv hK hP (ci := 6) (q0 := 77) rfl rfl, (tw_pre pX_ua hP hD hK hN).2⟩ rfl rfl hl.1 rfl (lv_room (Nat.le_of_ble_eq_true rfl)) dX7_findLeast_142 ⟨Nat.le_of_ble_eq_true rfl, Nat.le_of_ble_eq_true rfl⟩) (fun _ H locs z28 hP hD hS => ?_)
  replace hP := tw_P pX_ua.symm hP
  replace hD := tw_D pX_ua.symm hD
  have hP : va_P G vwCl (wX cA xa ka ra na ia ua va ca za pa qa X K R P L P2 L2 Tn Ti Tu_26 Tv C Z q0 q1 (pa 0) q3 q4 q5) H := hP
  have hD : va_D A (wX cA xa ka ra na ia ua va ca za pa qa X K R P L P2 L2 Tn Ti Tu_26 Tv C Z q0 q1 (pa 0) q3 q4 q5) := hD
  refine lv_aload_n hx hb dX7_findLeast_145 rfl (lv_at hl 0 rfl) ?_
  refine lv_iload_n hx hb dX7_findLeast_146 rfl (lv_at hl 1 rfl) ?_
  replace h := tx_bd h
  obtain ⟨r29, hc30, h⟩ := h
  refine tz_i (As := [.int x1]) (rest := []) ⟨hx, hb, hml, hown, hT⟩ hP hD hS hA hK hN (c_X7_comingLeft l G cA H.size xa ka ra na ia ua va ca za pa qa X K R P L P2 L2 Tn Ti Tu_26 Tv C Z q0 q1 (pa 0) q3 q4 q5 x1  r29 hc30) (tq_gV kw_47_5 kw_47_6 kw_47_7 kw_1_2 kw_47_8) rfl rfl dkdV_yX7_comingLeft_1 (Nat.le_of_ble_eq_true rfl) (Nat.le_of_ble_eq_true rfl) (ci := 7) (q0 := 0) rfl rfl rfl hl.1 rfl (Nat.le_of_ble_eq_true rfl) dX7_findLeast_147 ⟨Nat.le_of_ble_eq_true rfl, Nat.le_of_ble_eq_true rfl⟩ (fun _ _ H locs z31 hP hD hS => ?_)
  have z31 := z31.symm
  subst z31
  have hP : va_P G vwCl (wX cA xa ka ra na ia ua va ca za pa qa X K R P L P2 L2 Tn Ti Tu_26 Tv C Z q0 q1 (pa 0) q3 q4 q5) H := hP
  have hD : va_D A (wX cA xa ka ra na ia ua va ca za pa qa X K R P L P2 L2 Tn Ti Tu_26 Tv C Z q0 q1 (pa 0) q3 q4 q5) := hD
  refine lv_if_ne (tgt := 208) hx hb dX7_findLeast_150 (by decide) (fun c32 => ?_) (fun c32 => ?_)
  · replace h := tx_neg c32 h
    replace h := tx_lt h
    obtain ⟨y33, ey33, h⟩ := h
    refine lv_iinc (v := y33) (lv' := [(4, .int y33), (0, .ref (xa 0)), (1, .int x1), (2, .int x2), (3, .int x3)]) hx hb dX7_findLeast_208 hl (k := 4) rfl ey33 (by decide) rfl (fun ls hl => ?_)
    refine lv_goto (tgt := 68) hx hb dX7_findLeast_211 (by decide) ?_
    exact hk68 x3 y33 L Tu_26 (pa 0) H locs ls h hP hD hS (lv_sub hl [1, 2, 3, 4, 0] rfl)
  · replace h := tx_pos c32 h
    refine lv_aload_n hx hb dX7_findLeast_153 rfl (lv_at hl 0 rfl) ?_
    refine va_get (D := G) (ci := 7) (v := .ref (ua 0)) (C := RX7) (T := TX7) (N := 12) hx hb hT ku_7 hown hK hP 0 rfl rfl 5 (by decide) (hT _ kw_2_3) (fun _ h9 => h9) rfl dX7_findLeast_154 ?_
    replace h := tx_bd h
    obtain ⟨⟨Tu_34, L_35⟩, hc36, h⟩ := h
    replace h := tx_let (y := Tu_34) rfl h
    replace h := tx_let (y := L_35) rfl h
    refine tw_cv pX_ua hP hD hS hA (va_runV (As := []) (rest := []) ⟨hx, hb, hml, hown, hT⟩ (c_X6_wayOn l G cA H.size ua pa Tu_26 P L  Tu_34 L_35 hc36) (cwV 0 hT (tq_gV kw_47_9 kw_42_4 kw_42_5 kw_1_23 kw_42_6) rfl rfl rfl dkdV_yX6_wayOn_0 ⟨Nat.le_of_ble_eq_true rfl, Nat.le_of_ble_eq_true rfl⟩) ⟨(tw_pre pX_ua hP hD hK hN).1, va_recv hK hP (ci := 6) (q0 := 77) rfl rfl, (tw_pre pX_ua hP hD hK hN).2⟩ rfl rfl hl.1 rfl (lv_room (Nat.le_of_ble_eq_true rfl)) dX7_findLeast_157 ⟨Nat.le_of_ble_eq_true rfl, Nat.le_of_ble_eq_true rfl⟩) (fun _ H locs z37 hP hD hS => ?_)
    replace hP := tw_P pX_ua.symm hP
    replace hD := tw_D pX_ua.symm hD
    have hP : va_P G vwCl (wX cA xa ka ra na ia ua va ca za pa qa X K R P L_35 P2 L2 Tn Ti Tu_34 Tv C Z q0 q1 (pa 0) q3 q4 q5) H := hP
    have hD : va_D A (wX cA xa ka ra na ia ua va ca za pa qa X K R P L_35 P2 L2 Tn Ti Tu_34 Tv C Z q0 q1 (pa 0) q3 q4 q5) := hD
    refine lv_aload_n hx hb dX7_findLeast_160 rfl (lv_at hl 0 rfl) ?_
    refine va_get (D := G) (ci := 7) (v := .ref (ua 0)) (C := RX7) (T := TX7) (N := 12) hx hb hT ku_7 hown hK hP 0 rfl rfl 5 (by decide) (hT _ kw_2_3) (fun _ h9 => h9) rfl dX7_findLeast_161 ?_
    replace h := tx_bd h
    obtain ⟨⟨Tu_38, L_39⟩, hc40, h⟩ := h
    replace h := tx_let (y := Tu_38) rfl h
    replace h := tx_let (y := L_39) rfl h
    refine tw_cv pX_ua hP hD hS hA (va_runV (As := []) (rest := []) ⟨hx, hb, hml, hown, hT⟩ (c_X6_runToEnd l G cA H.size ua pa Tu_34 P L_35  Tu_38 L_39 hc40) (cwV 0 hT (tq_gV kw_47_10 kw_47_11 kw_47_12 kw_1_23 kw_47_13) rfl rfl rfl dkdV_yX6_runToEnd_0 ⟨Nat.le_of_ble_eq_true rfl, Nat.le_of_ble_eq_true rfl⟩) ⟨(tw_pre pX_ua hP hD hK hN).1, va_recv hK hP (ci := 6) (q0 := 77) rfl rfl, (tw_pre pX_ua hP hD hK hN).2⟩ rfl rfl hl.1 rfl (lv_room (Nat.le_of_ble_eq_true rfl)) dX7_findLeast_164 ⟨Nat.le_of_ble_eq_true rfl, Nat.le_of_ble_eq_true rfl⟩) (fun _ H locs z41 hP hD hS => ?_)
    replace hP := tw_P pX_ua.symm hP
    replace hD := tw_D pX_ua.symm hD
    have hP : va_P G vwCl (wX cA xa ka ra na ia ua va ca za pa qa X K R P L_39 P2 L2 Tn Ti Tu_38 Tv C Z q0 q1 (pa 0) q3 q4 q5) H := hP
    have hD : va_D A (wX cA xa ka ra na ia ua va ca za pa qa X K R P L_39 P2 L2 Tn Ti Tu_38 Tv C Z q0 q1 (pa 0) q3 q4 q5) := hD
    refine lv_aload_n hx hb dX7_findLeast_167 rfl (lv_at hl 0 rfl) ?_
    refine va_get (D := G) (ci := 7) (v := .ref (ua 0)) (C := RX7) (T := TX7) (N := 12) hx hb hT ku_7 hown hK hP 0 rfl rfl 5 (by decide) (hT _ kw_2_3) (fun _ h9 => h9) rfl dX7_findLeast_168 ?_
    refine va_get (D := G) (ci := 6) (v := .int (Tu_38 0 1)) (C := RX6) (T := TX6) (N := 20) hx hb hT ku_6 hown hK hP 77 rfl rfl 1 (by decide) (hT _ kw_46_16) (fun _ h9 => h9) rfl dX7_findLeast_171 ?_
    refine lv_aload_n hx hb dX7_findLeast_174 rfl (lv_at hl 0 rfl) ?_
    refine va_get (D := G) (ci := 7) (v := .ref (na 0)) (C := RX7) (T := TX7) (N := 12) hx hb hT ku_7 hown hK hP 0 rfl rfl 2 (by decide) (hT _ kw_2_0) (fun _ h9 => h9) rfl dX7_findLeast_175 ?_
    refine va_get (D := G) (ci := 6) (v := .int (Tn 0 1)) (C := RX6) (T := TX6) (N := 20) hx hb hT ku_6 hown hK hP 53 rfl rfl 1 (by decide) (hT _ kw_46_16) (fun _ h9 => h9) rfl dX7_findLeast_178 ?_
    refine lv_isub hx hb dX7_findLeast_181 ?_
    refine lv_sipush (v := 1024) hx hb dX7_findLeast_182 (by decide) ?_
    refine lv_imul hx hb dX7_findLeast_185 ?_
    refine lv_iload hx hb dX7_findLeast_186 (lv_at hl 4 rfl) ?_
    refine lv_iadd hx hb dX7_findLeast_188 ?_
    refine lv_topi (fun y42 ey42 => ?_)
    replace h := tx_let ey42 h
    refine lv_istore (lv' := [(5, .int y42), (0, .ref (xa 0)), (1, .int x1), (2, .int x2), (3, .int x3), (4, .int x4)]) hx hb dX7_findLeast_189 hl (by decide) rfl (fun ls hl => ?_)
    refine lv_iload_n hx hb dX7_findLeast_191 rfl (lv_at hl 4 rfl) ?_
    refine lv_if_lt (tgt := 201) hx hb dX7_findLeast_192 (by decide) (fun c43 => ?_) (fun c43 => ?_)
    · replace h := tx_pos c43 h
      refine lv_iload hx hb dX7_findLeast_201 (lv_at hl 0 rfl) ?_
      refine lv_goto (tgt := 207) hx hb dX7_findLeast_203 (by decide) ?_
      refine lv_istore_n (lv' := [(3, .int y42), (5, .int y42), (0, .ref (xa 0)), (1, .int x1), (2, .int x2), (4, .int x4)]) hx hb dX7_findLeast_207 rfl hl (by decide) rfl (fun ls hl => ?_)
      replace h := tx_lt h
      obtain ⟨y44, ey44, h⟩ := h
      refine lv_iinc (v := y44) (lv' := [(4, .int y44), (3, .int y42), (5, .int y42), (0, .ref (xa 0)), (1, .int x1), (2, .int x2)]) hx hb dX7_findLeast_208 hl (k := 5) rfl ey44 (by decide) rfl (fun ls hl => ?_)
      refine lv_goto (tgt := 68) hx hb dX7_findLeast_211 (by decide) ?_
      exact hk68 y42 y44 L_39 Tu_38 (pa 0) H locs ls h hP hD hS (lv_sub hl [3, 4, 5, 1, 0] rfl)
    · replace h := tx_neg c43 h
      refine lv_iload hx hb dX7_findLeast_195 (lv_at hl 0 rfl) ?_
      refine lv_iload_n hx hb dX7_findLeast_197 rfl (lv_at hl 4 rfl) ?_
      refine lv_icmp_ge (tgt := 206) hx hb dX7_findLeast_198 (by decide) (fun c45 => ?_) (fun c45 => ?_)
      · replace h := tx_pos c45 h
        refine lv_iload_n hx hb dX7_findLeast_206 rfl (lv_at hl 4 rfl) ?_
        refine lv_istore_n (lv' := [(3, .int x3), (5, .int y42), (0, .ref (xa 0)), (1, .int x1), (2, .int x2), (4, .int x4)]) hx hb dX7_findLeast_207 rfl hl (by decide) rfl (fun ls hl => ?_)
        replace h := tx_lt h
        obtain ⟨y46, ey46, h⟩ := h
        refine lv_iinc (v := y46) (lv' := [(4, .int y46), (3, .int x3), (5, .int y42), (0, .ref (xa 0)), (1, .int x1), (2, .int x2)]) hx hb dX7_findLeast_208 hl (k := 5) rfl ey46 (by decide) rfl (fun ls hl => ?_)
        refine lv_goto (tgt := 68) hx hb dX7_findLeast_211 (by decide) ?_
        exact hk68 x3 y46 L_39 Tu_38 (pa 0) H locs ls h hP hD hS (lv_sub hl [3, 4, 5, 1, 0] rfl)
      · replace h := tx_neg c45 h
        refine lv_iload hx hb dX7_findLeast_201 (lv_at hl 0 rfl) ?_
        refine lv_goto (tgt := 207) hx hb dX7_findLeast_203 (by decide) ?_
        refine lv_istore_n (lv' := [(3, .int y42), (5, .int y42), (0, .ref (xa 0)), (1, .int x1), (2, .int x2), (4, .int x4)]) hx hb dX7_findLeast_207 rfl hl (by decide) rfl (fun ls hl => ?_)
        replace h := tx_lt h
        obtain ⟨y47, ey47, h⟩ := h
        refine lv_iinc (v := y47) (lv' := [(4, .int y47), (3, .int y42), (5, .int y42), (0, .ref (xa 0)), (1, .int x1), (2, .int x2)]) hx hb dX7_findLeast_208 hl (k := 5) rfl ey47 (by decide) rfl (fun ls hl => ?_)
        refine lv_goto (tgt := 68) hx hb dX7_findLeast_211 (by decide) ?_
        exact hk68 y42 y47 L_39 Tu_38 (pa 0) H locs ls h hP hD hS (lv_sub hl [3, 4, 5, 1, 0] rfl)
set_option maxHeartbeats 4000000 in
set_option maxRecDepth 100000 in
theorem w_X7_findLeast_L99 {p : Program} {l : Launch} {e : Env} {s : State} {m : MethodId} {below : List Frame} {meth : Method} {c : Code} {G : va_G} {cA : Nat → ClassId} {A : Nat → Prop} {xa : Nat → Nat} {ka : Nat → Nat} {ra : Nat → Nat} {na : Nat → Nat} {ia : Nat → Nat} {ua : Nat → Nat} {va : Nat → Nat} {ca : Nat → Nat} {za : Nat → Nat} {pa : Nat → Nat} {qa : Nat → Nat} {X : Tr} {K : Tr} {R : Tr} {P : Tr} {P2 : Tr} {L2 : Lo} {Tn : Tr} {Ti : Tr} {C : Tr} {Z : Tr} {q0 : Nat} {q1 : Nat} {q4 : Nat} {q5 : Nat} {x1₀ : Int32} {r0 : Int32} {L' : Lo} {Tu' : Tr} {Tv' : Tr} {q2' : Nat} {q3' : Nat} {L : Lo} {Tv : Tr} {q2 : Nat} {q3 : Nat} {x1 : Int32} {x2 : Int32} {x3 : Int32} {x4 : Int32} (F : tF p s m ([.ref (xa 0), .int x1₀] : List Value).toArray meth c G cA A RX7 cX7_findLeast 6 (some .int))  (k68 : Int32 → Int32 → Lo → Tr → Nat → Option (Int32 × Lo × Tr × Tr × Nat × Nat)) (hk68 : ∀ (x3 : Int32) (x4 : Int32) (L : Lo) (Tu : Tr) (q2 : Nat) (H : Heap) (locs : List Loc) (ls : Array Slot), k68 x3 x4 L Tu q2 = some (r0, L', Tu', Tv', q2', q3') → va_P G vwCl (wX cA xa ka ra na ia ua va ca za pa qa X K R P L P2 L2 Tn Ti Tu Tv C Z q0 q1 q2 q3 q4 q5) H → va_D A (wX cA xa ka ra na ia ua va ca za pa qa X K R P L P2 L2 Tn Ti Tu Tv C Z q0 q1 q2 q3 q4 q5) → va_S A s.heap H locs → lv_has ls 6 [(0, .ref (xa 0)), (1, .int x1), (2, .int x2), (3, .int x3), (4, .int x4)] → G_X7_findLeast p l e s m below meth c G cA A xa ka ra na ia ua va ca za pa qa X K R P P2 L2 Tn Ti C Z q0 q1 q4 q5 x1₀ r0 L' Tu' Tv' q2' q3' H locs (F0 m 68 ls [])) (N : Nat) : ∀ (x5 : Int32) (Tu : Tr) (H : Heap) (locs : List Loc) (ls : Array Slot), lpF (fun _ _ => none) (fB_X7_findLeast_L99 k68 pa qa X P L Tn Tv q0 q2 q3 q4 x1 x2 x3 x4) N x5 Tu = some (r0, L', Tu', Tv', q2', q3') → va_P G vwCl (wX cA xa ka ra na ia ua va ca za pa qa X K R P L P2 L2 Tn Ti Tu Tv C Z q0 q1 q2 q3 q4 q5) H → va_D A (wX cA xa ka ra na ia ua va ca za pa qa X K R P L P2 L2 Tn Ti Tu Tv C Z q0 q1 q2 q3 q4 q5) → va_S A s.heap H locs → lv_has ls 6 [(0, .ref (xa 0)), (1, .int x1), (2, .int x2), (3, .int x3), (4, .int x4), (5, .int x5)] → G_X7_findLeast p l e s m below meth c G cA A xa ka ra na ia ua va ca za pa qa X K R P P2 L2 Tn Ti C Z q0 q1 q4 q5 x1₀ r0 L' Tu' Tv' q2' q3' H locs (F0 m 99 ls []) := by
  obtain ⟨hx, hb, hr, hml, hT, hown, hlocks, hK, hN, hA⟩ := id F
  induction N with
  | zero =>
    intro x5 Tu H locs ls h
    replace h : (none : Option (Int32 × Lo × Tr × Tr × Nat × Nat)) = some (r0, L', Tu', Tv', q2', q3') := h
    cases h
  | succ N hk99 =>
    intro x5 Tu H locs ls h hP hD hS hl
    replace h : fB_X7_findLeast_L99 k68 pa qa X P L Tn Tv q0 q2 q3 q4 x1 x2 x3 x4 (lpF (fun _ _ => none) (fB_X7_findLeast_L99 k68 pa qa X P L Tn Tv q0 q2 q3 q4 x1 x2 x3 x4) N) x5 Tu = some (r0, L', Tu', Tv', q2', q3') := h
    generalize hk99e : lpF (fun _ _ => none) (fB_X7_findLeast_L99 k68 pa qa X P L Tn Tv q0 q2 q3 q4 x1 x2 x3 x4) N = k99 at h hk99
    unfold fB_X7_findLeast_L99 at h
    refine lv_iload hx hb dX7_findLeast_99 (lv_at hl 5 rfl) ?_
    refine lv_iload_n hx hb dX7_findLeast_101 rfl (lv_at hl 1 rfl) ?_
    refine lv_icmp_ge (tgt := 138) hx hb dX7_findLeast_102 (by decide) (fun c24 => ?_) (fun c24 => ?_)
    · replace h := tx_pos c24 h
      exact w_X7_findLeast_J138 F k68 hk68 x3 x4 L Tu q2 H locs ls h hP hD hS (lv_sub hl [0, 1, 2, 3, 4] rfl)
    · replace h := tx_neg c24 h
      refine lv_aload_n hx hb dX7_findLeast_105 rfl (lv_at hl 0 rfl) ?_
      refine va_get (D := G) (ci := 7) (v := .ref (ua 0)) (C := RX7) (T := TX7) (N := 12) hx hb hT ku_7 hown hK hP 0 rfl rfl 5 (by decide) (hT _ kw_2_3) (fun _ h9 => h9) rfl dX7_findLeast_106 ?_
      refine va_get (D := G) (ci := 6) (v := .ref (ua 13)) (C := RX6) (T := TX6) (N := 20) hx hb hT ku_6 hown hK hP 77 rfl rfl 12 (by decide) (hT _ kw_46_15) (fun _ h9 => h9) rfl dX7_findLeast_109 ?_
      refine lv_aload_n hx hb dX7_findLeast_112 rfl (lv_at hl 0 rfl) ?_
      refine va_get (D := G) (ci := 7) (v := .ref (xa 10)) (C := RX7) (T := TX7) (N := 12) hx hb hT ku_7 hown hK hP 0 rfl rfl 9 (by decide) (hT _ kw_2_14) (fun _ h9 => h9) rfl dX7_findLeast_113 ?_
      refine lv_iload hx hb dX7_findLeast_116 (lv_at hl 5 rfl) ?_
      replace h := tx_ck h
      obtain ⟨g48, h⟩ := h
      refine va_iald (i := x5) hx hb hK hP 1 0 rfl rfl (tx_in g48) dX7_findLeast_118 ?_
      refine lv_aload_n hx hb dX7_findLeast_119 rfl (lv_at hl 0 rfl) ?_
      refine lv_iload hx hb dX7_findLeast_120 (lv_at hl 4 rfl) ?_
      refine lv_iload_n hx hb dX7_findLeast_122 rfl (lv_at hl 1 rfl) ?_
      refine lv_iconst (v := 1) hx hb dX7_findLeast_123 (by decide) ?_
      refine lv_isub hx hb dX7_findLeast_124 ?_
      refine lv_iload hx hb dX7_findLeast_125 (lv_at hl 5 rfl) ?_
      refine lv_isub hx hb dX7_findLeast_127 ?_
      replace h := tx_bd h
      obtain ⟨r49, hc50, h⟩ := h
      refine tz_i (As := [.int x4, .int ((x1 - 1) - x5)]) (rest := [.int (X 10 x5.toNatClampNeg), .ref (ua 13)]) ⟨hx, hb, hml, hown, hT⟩ hP hD hS hA hK hN (c_X7_digit l G cA H.size xa ka ra na ia ua va ca za pa qa X K R P L P2 L2 Tn Ti Tu Tv C Z q0 q1 q2 q3 q4 q5 x4 ((x1 - 1) - x5)  r49 hc50) (tq_gV kw_47_0 kw_47_1 kw_47_2 kw_1_2 kw_47_3) rfl rfl dkdV_yX7_digit_2 (Nat.le_of_ble_eq_true rfl) (Nat.le_of_ble_eq_true rfl) (ci := 7) (q0 := 0) rfl rfl rfl hl.1 rfl (Nat.le_of_ble_eq_true rfl) dX7_findLeast_128 ⟨Nat.le_of_ble_eq_true rfl, Nat.le_of_ble_eq_true rfl⟩ (fun _ _ H locs z51 hP hD hS => ?_)
      have z51 := z51.symm
      subst z51
      have hP : va_P G vwCl (wX cA xa ka ra na ia ua va ca za pa qa X K R P L P2 L2 Tn Ti Tu Tv C Z q0 q1 q2 q3 q4 q5) H := hP
      have hD : va_D A (wX cA xa ka ra na ia ua va ca za pa qa X K R P L P2 L2 Tn Ti Tu Tv C Z q0 q1 q2 q3 q4 q5) := hD
      replace h := tx_ck h
      obtain ⟨g52, h⟩ := h
      refine va_iast (i := (X 10 x5.toNatClampNeg)) hx hb hK hP hD hS 82 0 rfl rfl (tx_in g52) dX7_findLeast_131 (fun H locs hP hD hS => ?_)
      replace h := tx_lt h
      obtain ⟨Tu_53, eTu_53, h⟩ := h
      rw [sX_ua_a12, eTu_53] at hP hD
      replace h := tx_lt h
      obtain ⟨y54, ey54, h⟩ := h
      refine lv_iinc (v := y54) (lv' := [(5, .int y54), (0, .ref (xa 0)), (1, .int x1), (2, .int x2), (3, .int x3), (4, .int x4)]) hx hb dX7_findLeast_132 hl (k := 5) rfl ey54 (by decide) rfl (fun ls hl => ?_)
      refine lv_goto (tgt := 99) hx hb dX7_findLeast_135 (by decide) ?_
      exact hk99 y54 Tu_53 H locs ls h hP hD hS (lv_sub hl [1, 2, 3, 4, 5, 0] rfl)
set_option maxHeartbeats 4000000 in
set_option maxRecDepth 100000 in
theorem w_X7_findLeast_J85 {p : Program} {l : Launch} {e : Env} {s : State} {m : MethodId} {below : List Frame} {meth : Method} {c : Code} {G : va_G} {cA : Nat → ClassId} {A : Nat → Prop} {xa : Nat → Nat} {ka : Nat → Nat} {ra : Nat → Nat} {na : Nat → Nat} {ia : Nat → Nat} {ua : Nat → Nat} {va : Nat → Nat} {ca : Nat → Nat} {za : Nat → Nat} {pa : Nat → Nat} {qa : Nat → Nat} {X : Tr} {K : Tr} {R : Tr} {P : Tr} {P2 : Tr} {L2 : Lo} {Tn : Tr} {Ti : Tr} {C : Tr} {Z : Tr} {q0 : Nat} {q1 : Nat} {q4 : Nat} {q5 : Nat} {x1₀ : Int32} {r0 : Int32} {L' : Lo} {Tu' : Tr} {Tv' : Tr} {q2' : Nat} {q3' : Nat} {Tv : Tr} {q3 : Nat} {x1 : Int32} {x2 : Int32} (F : tF p s m ([.ref (xa 0), .int x1₀] : List Value).toArray meth c G cA A RX7 cX7_findLeast 6 (some .int))  (k68 : Int32 → Int32 → Lo → Tr → Nat → Option (Int32 × Lo × Tr × Tr × Nat × Nat)) (hk68 : ∀ (x3 : Int32) (x4 : Int32) (L : Lo) (Tu : Tr) (q2 : Nat) (H : Heap) (locs : List Loc) (ls : Array Slot), k68 x3 x4 L Tu q2 = some (r0, L', Tu', Tv', q2', q3') → va_P G vwCl (wX cA xa ka ra na ia ua va ca za pa qa X K R P L P2 L2 Tn Ti Tu Tv C Z q0 q1 q2 q3 q4 q5) H → va_D A (wX cA xa ka ra na ia ua va ca za pa qa X K R P L P2 L2 Tn Ti Tu Tv C Z q0 q1 q2 q3 q4 q5) → va_S A s.heap H locs → lv_has ls 6 [(0, .ref (xa 0)), (1, .int x1), (2, .int x2), (3, .int x3), (4, .int x4)] → G_X7_findLeast p l e s m below meth c G cA A xa ka ra na ia ua va ca za pa qa X K R P P2 L2 Tn Ti C Z q0 q1 q4 q5 x1₀ r0 L' Tu' Tv' q2' q3' H locs (F0 m 68 ls [])) (x3 : Int32) (x4 : Int32) (L : Lo) (Tu : Tr) (q2 : Nat) (H : Heap) (locs : List Loc) (ls : Array Slot) (h : fJ_X7_findLeast_J85 k68 pa qa X P Tn Tv q0 q3 q4 x1 x2 x3 x4 L Tu q2 = some (r0, L', Tu', Tv', q2', q3')) (hP : va_P G vwCl (wX cA xa ka ra na ia ua va ca za pa qa X K R P L P2 L2 Tn Ti Tu Tv C Z q0 q1 q2 q3 q4 q5) H) (hD : va_D A (wX cA xa ka ra na ia ua va ca za pa qa X K R P L P2 L2 Tn Ti Tu Tv C Z q0 q1 q2 q3 q4 q5)) (hS : va_S A s.heap H locs) (hl : lv_has ls 6 [(0, .ref (xa 0)), (1, .int x1), (2, .int x2), (3, .int x3), (4, .int x4)]) : G_X7_findLeast p l e s m below meth c G cA A xa ka ra na ia ua va ca za pa qa X K R P P2 L2 Tn Ti C Z q0 q1 q4 q5 x1₀ r0 L' Tu' Tv' q2' q3' H locs (F0 m 85 ls []) := by
  obtain ⟨hx, hb, hr, hml, hT, hown, hlocks, hK, hN, hA⟩ := id F
  unfold fJ_X7_findLeast_J85 at h
  refine lv_aload_n hx hb dX7_findLeast_85 rfl (lv_at hl 0 rfl) ?_
  refine va_get (D := G) (ci := 7) (v := .ref (ua 0)) (C := RX7) (T := TX7) (N := 12) hx hb hT ku_7 hown hK hP 0 rfl rfl 5 (by decide) (hT _ kw_2_3) (fun _ h9 => h9) rfl dX7_findLeast_86 ?_
  refine lv_aload_n hx hb dX7_findLeast_89 rfl (lv_at hl 0 rfl) ?_
  refine va_get (D := G) (ci := 7) (v := .ref (va 0)) (C := RX7) (T := TX7) (N := 12) hx hb hT ku_7 hown hK hP 0 rfl rfl 6 (by decide) (hT _ kw_2_4) (fun _ h9 => h9) rfl dX7_findLeast_90 ?_
  replace h := tx_bd h
  obtain ⟨⟨Tu_20, q2_21⟩, hc22, h⟩ := h
  replace h := tx_let (y := Tu_20) rfl h
  replace h := tx_let (y := q2_21) rfl h
  refine tw_cv pX_ua_va hP hD hS hA (va_runV (As := [.ref (va 0)]) (rest := []) ⟨hx, hb, hml, hown, hT⟩ (c_X6_copy l G cA H.size ua va Tu Tv q2 q3  Tu_20 q2_21 hc22) (cwV 1 hT (tq_gV kw_38_6 kw_38_7 kw_38_8 kw_1_23 kw_38_9) rfl rfl rfl dkdV_yX6_copy_1 ⟨Nat.le_of_ble_eq_true rfl, Nat.le_of_ble_eq_true rfl⟩) ⟨(tw_pre pX_ua_va hP hD hK hN).1, va_recv hK hP (ci := 6) (q0 := 77) rfl rfl, (tw_pre pX_ua_va hP hD hK hN).2⟩ rfl rfl hl.1 rfl (lv_room (Nat.le_of_ble_eq_true rfl)) dX7_findLeast_93 ⟨Nat.le_of_ble_eq_true rfl, Nat.le_of_ble_eq_true rfl⟩) (fun _ H locs z23 hP hD hS => ?_)
  replace hP := tw_P pX_ua_va.symm hP
  replace hD := tw_D pX_ua_va.symm hD
  have hP : va_P G vwCl (wX cA xa ka ra na ia ua va ca za pa qa X K R P L P2 L2 Tn Ti Tu_20 Tv C Z q0 q1 q2_21 q3 q4 q5) H := hP
  have hD : va_D A (wX cA xa ka ra na ia ua va ca za pa qa X K R P L P2 L2 Tn Ti Tu_20 Tv C Z q0 q1 q2_21 q3 q4 q5) := hD
  refine lv_iconst (v := 0) hx hb dX7_findLeast_96 (by decide) ?_
  refine lv_istore (lv' := [(5, .int 0), (0, .ref (xa 0)), (1, .int x1), (2, .int x2), (3, .int x3), (4, .int x4)]) hx hb dX7_findLeast_97 hl (by decide) rfl (fun ls hl => ?_)
  exact w_X7_findLeast_L99 F k68 hk68 2000 0 Tu_20 H locs ls h hP hD hS (lv_sub hl [1, 2, 3, 4, 5, 0] rfl)
set_option maxHeartbeats 4000000 in
set_option maxRecDepth 100000 in
theorem w_X7_findLeast_L68 {p : Program} {l : Launch} {e : Env} {s : State} {m : MethodId} {below : List Frame} {meth : Method} {c : Code} {G : va_G} {cA : Nat → ClassId} {A : Nat → Prop} {xa : Nat → Nat} {ka : Nat → Nat} {ra : Nat → Nat} {na : Nat → Nat} {ia : Nat → Nat} {ua : Nat → Nat} {va : Nat → Nat} {ca : Nat → Nat} {za : Nat → Nat} {pa : Nat → Nat} {qa : Nat → Nat} {X : Tr} {K : Tr} {R : Tr} {P : Tr} {P2 : Tr} {L2 : Lo} {Tn : Tr} {Ti : Tr} {C : Tr} {Z : Tr} {q0 : Nat} {q1 : Nat} {q4 : Nat} {q5 : Nat} {x1₀ : Int32} {r0 : Int32} {L' : Lo} {Tu' : Tr} {Tv' : Tr} {q2' : Nat} {q3' : Nat} {Tv : Tr} {q3 : Nat} {x1 : Int32} {x2 : Int32} (F : tF p s m ([.ref (xa 0), .int x1₀] : List Value).toArray meth c G cA A RX7 cX7_findLeast 6 (some .int))    (N : Nat) : ∀ (x3 : Int32) (x4 : Int32) (L : Lo) (Tu : Tr) (q2 : Nat) (H : Heap) (locs : List Loc) (ls : Array Slot), lpF (fun _ _ _ _ _ => none) (fB_X7_findLeast_L68 pa qa X P Tn Tv q0 q3 q4 x1 x2) N x3 x4 L Tu q2 = some (r0, L', Tu', Tv', q2', q3') → va_P G vwCl (wX cA xa ka ra na ia ua va ca za pa qa X K R P L P2 L2 Tn Ti Tu Tv C Z q0 q1 q2 q3 q4 q5) H → va_D A (wX cA xa ka ra na ia ua va ca za pa qa X K R P L P2 L2 Tn Ti Tu Tv C Z q0 q1 q2 q3 q4 q5) → va_S A s.heap H locs → lv_has ls 6 [(0, .ref (xa 0)), (1, .int x1), (2, .int x2), (3, .int x3), (4, .int x4)] → G_X7_findLeast p l e s m below meth c G cA A xa ka ra na ia ua va ca za pa qa X K R P P2 L2 Tn Ti C Z q0 q1 q4 q5 x1₀ r0 L' Tu' Tv' q2' q3' H locs (F0 m 68 ls []) := by
  obtain ⟨hx, hb, hr, hml, hT, hown, hlocks, hK, hN, hA⟩ := id F
  induction N with
  | zero =>
    intro x3 x4 L Tu q2 H locs ls h
    replace h : (none : Option (Int32 × Lo × Tr × Tr × Nat × Nat)) = some (r0, L', Tu', Tv', q2', q3') := h
    cases h
  | succ N hk68 =>
    intro x3 x4 L Tu q2 H locs ls h hP hD hS hl
    replace h : fB_X7_findLeast_L68 pa qa X P Tn Tv q0 q3 q4 x1 x2 (lpF (fun _ _ _ _ _ => none) (fB_X7_findLeast_L68 pa qa X P Tn Tv q0 q3 q4 x1 x2) N) x3 x4 L Tu q2 = some (r0, L', Tu', Tv', q2', q3') := h
    generalize hk68e : lpF (fun _ _ _ _ _ => none) (fB_X7_findLeast_L68 pa qa X P Tn Tv q0 q3 q4 x1 x2) N = k68 at h hk68
    unfold fB_X7_findLeast_L68 at h
    refine lv_iload hx hb dX7_findLeast_68 (lv_at hl 4 rfl) ?_
    refine lv_iload_n hx hb dX7_findLeast_70 rfl (lv_at hl 2 rfl) ?_
    refine lv_icmp_ge (tgt := 214) hx hb dX7_findLeast_71 (by decide) (fun c18 => ?_) (fun c18 => ?_)
    · replace h := tx_pos c18 h
      refine lv_iload_n hx hb dX7_findLeast_214 rfl (lv_at hl 3 rfl) ?_
      obtain ⟨rfl, rfl, rfl, rfl, rfl, rfl⟩ := tx_6 h
      exact W.iret hx hb hr (fun t ht hW => ⟨⟨_, (), rfl, rfl, by rw [ht]; exact hP, hD⟩, hS.F ht⟩) hS.2.2 dX7_findLeast_215
    · replace h := tx_neg c18 h
      refine lv_iload_n hx hb dX7_findLeast_74 rfl (lv_at hl 3 rfl) ?_
      refine lv_if_lt (tgt := 85) hx hb dX7_findLeast_75 (by decide) (fun c19 => ?_) (fun c19 => ?_)
      · replace h := tx_pos c19 h
        exact w_X7_findLeast_J85 F k68 hk68 x3 x4 L Tu q2 H locs ls h hP hD hS (lv_sub hl [0, 1, 2, 3, 4] rfl)
      · replace h := tx_neg c19 h
        refine lv_iload_n hx hb dX7_findLeast_78 rfl (lv_at hl 3 rfl) ?_
        refine lv_sipush (v := 1024) hx hb dX7_findLeast_79 (by decide) ?_
        refine lv_icmp_lt (tgt := 214) hx hb dX7_findLeast_82 (by decide) (fun c55 => ?_) (fun c55 => ?_)
        · replace h := tx_pos c55 h
          refine lv_iload_n hx hb dX7_findLeast_214 rfl (lv_at hl 3 rfl) ?_
          obtain ⟨rfl, rfl, rfl, rfl, rfl, rfl⟩ := tx_6 h
          exact W.iret hx hb hr (fun t ht hW => ⟨⟨_, (), rfl, rfl, by rw [ht]; exact hP, hD⟩, hS.F ht⟩) hS.2.2 dX7_findLeast_215
        · replace h := tx_neg c55 h
          exact w_X7_findLeast_J85 F k68 hk68 x3 x4 L Tu q2 H locs ls h hP hD hS (lv_sub hl [0, 1, 2, 3, 4] rfl)
set_option maxHeartbeats 4000000 in
set_option maxRecDepth 100000 in
theorem w_X7_findLeast_J25 {p : Program} {l : Launch} {e : Env} {s : State} {m : MethodId} {below : List Frame} {meth : Method} {c : Code} {G : va_G} {cA : Nat → ClassId} {A : Nat → Prop} {xa : Nat → Nat} {ka : Nat → Nat} {ra : Nat → Nat} {na : Nat → Nat} {ia : Nat → Nat} {ua : Nat → Nat} {va : Nat → Nat} {ca : Nat → Nat} {za : Nat → Nat} {pa : Nat → Nat} {qa : Nat → Nat} {X : Tr} {K : Tr} {R : Tr} {P : Tr} {P2 : Tr} {L2 : Lo} {Tn : Tr} {Ti : Tr} {C : Tr} {Z : Tr} {q0 : Nat} {q1 : Nat} {q4 : Nat} {q5 : Nat} {x1₀ : Int32} {r0 : Int32} {L' : Lo} {Tu' : Tr} {Tv' : Tr} {q2' : Nat} {q3' : Nat} (F : tF p s m ([.ref (xa 0), .int x1₀] : List Value).toArray meth c G cA A RX7 cX7_findLeast 6 (some .int))    (x1 : Int32) (x2 : Int32) (L : Lo) (Tu : Tr) (Tv : Tr) (q2 : Nat) (q3 : Nat) (H : Heap) (locs : List Loc) (ls : Array Slot) (h : fJ_X7_findLeast_J25 pa qa X P Tn q0 q4 x1 x2 L Tu Tv q2 q3 = some (r0, L', Tu', Tv', q2', q3')) (hP : va_P G vwCl (wX cA xa ka ra na ia ua va ca za pa qa X K R P L P2 L2 Tn Ti Tu Tv C Z q0 q1 q2 q3 q4 q5) H) (hD : va_D A (wX cA xa ka ra na ia ua va ca za pa qa X K R P L P2 L2 Tn Ti Tu Tv C Z q0 q1 q2 q3 q4 q5)) (hS : va_S A s.heap H locs) (hl : lv_has ls 6 [(0, .ref (xa 0)), (1, .int x1), (2, .int x2)]) : G_X7_findLeast p l e s m below meth c G cA A xa ka ra na ia ua va ca za pa qa X K R P P2 L2 Tn Ti C Z q0 q1 q4 q5 x1₀ r0 L' Tu' Tv' q2' q3' H locs (F0 m 25 ls []) := by
  obtain ⟨hx, hb, hr, hml, hT, hown, hlocks, hK, hN, hA⟩ := id F
  unfold fJ_X7_findLeast_J25 at h
  refine lv_aload_n hx hb dX7_findLeast_25 rfl (lv_at hl 0 rfl) ?_
  replace h := tx_bd h
  obtain ⟨⟨Tu_2, q2_3⟩, hc4, h⟩ := h
  replace h := tx_let (y := Tu_2) rfl h
  replace h := tx_let (y := q2_3) rfl h
  refine tz_v (As := []) (rest := []) ⟨hx, hb, hml, hown, hT⟩ hP hD hS hA hK hN (c_X7_startTrial l G cA H.size xa ka ra na ia ua va ca za pa qa X K R P L P2 L2 Tn Ti Tu Tv C Z q0 q1 q2 q3 q4 q5  Tu_2 q2_3 hc4) (tq_gV kw_46_17 kw_46_18 kw_46_19 kw_1_2 kw_46_20) rfl rfl dkdV_yX7_startTrial_0 (Nat.le_of_ble_eq_true rfl) (Nat.le_of_ble_eq_true rfl) (ci := 7) (q0 := 0) rfl rfl rfl hl.1 rfl (Nat.le_of_ble_eq_true rfl) dX7_findLeast_26 ⟨Nat.le_of_ble_eq_true rfl, Nat.le_of_ble_eq_true rfl⟩ (fun _ H locs z5 hP hD hS => ?_)
  have hP : va_P G vwCl (wX cA xa ka ra na ia ua va ca za pa qa X K R P L P2 L2 Tn Ti Tu_2 Tv C Z q0 q1 q2_3 q3 q4 q5) H := hP
  have hD : va_D A (wX cA xa ka ra na ia ua va ca za pa qa X K R P L P2 L2 Tn Ti Tu_2 Tv C Z q0 q1 q2_3 q3 q4 q5) := hD
  refine lv_aload_n hx hb dX7_findLeast_29 rfl (lv_at hl 0 rfl) ?_
  refine va_get (D := G) (ci := 7) (v := .ref (ua 0)) (C := RX7) (T := TX7) (N := 12) hx hb hT ku_7 hown hK hP 0 rfl rfl 5 (by decide) (hT _ kw_2_3) (fun _ h9 => h9) rfl dX7_findLeast_30 ?_
  refine lv_aload_n hx hb dX7_findLeast_33 rfl (lv_at hl 0 rfl) ?_
  refine va_get (D := G) (ci := 7) (v := .ref q4) (C := RX7) (T := TX7) (N := 12) hx hb hT ku_7 hown hK hP 0 rfl rfl 1 (by decide) (hT _ kw_1_20) (fun _ h9 => h9) rfl dX7_findLeast_34 ?_
  replace h := tx_ck h
  obtain ⟨g6, h⟩ := h
  have eg6 := of_decide_eq_true g6
  subst eg6
  refine va_get (D := G) (ci := 2) (v := .ref (pa 18)) (C := RX2) (T := TX2) (N := 19) hx hb hT ku_2 hown hK hP 9 rfl rfl 17 (by decide) (hT _ kw_32_23) (fun _ h9 => h9) rfl dX7_findLeast_37 ?_
  refine lv_aload_n hx hb dX7_findLeast_40 rfl (lv_at hl 0 rfl) ?_
  refine va_get (D := G) (ci := 7) (v := .ref (na 0)) (C := RX7) (T := TX7) (N := 12) hx hb hT ku_7 hown hK hP 0 rfl rfl 2 (by decide) (hT _ kw_2_0) (fun _ h9 => h9) rfl dX7_findLeast_41 ?_
  refine va_get (D := G) (ci := 6) (v := .int (Tn 0 0)) (C := RX6) (T := TX6) (N := 20) hx hb hT ku_6 hown hK hP 53 rfl rfl 0 (by decide) (hT _ kw_40_5) (fun _ h9 => h9) rfl dX7_findLeast_44 ?_
  replace h := tx_ck h
  obtain ⟨g7, h⟩ := h
  refine va_iald (i := (Tn 0 0)) hx hb hK hP 20 0 rfl rfl (tx_in g7) dX7_findLeast_47 ?_
  replace h := tx_ck h
  obtain ⟨g8, h⟩ := h
  have eg8 := of_decide_eq_true g8
  subst eg8
  replace h := tx_bd h
  obtain ⟨⟨r9, Tu_10, L_11⟩, hc12, h⟩ := h
  replace h := tx_let (y := r9) rfl h
  replace h := tx_let (y := Tu_10) rfl h
  replace h := tx_let (y := L_11) rfl h
  refine tw_ci pX_ua hP hD hS hA (va_runV (As := [.int (P 18 (Tn 0 0).toNatClampNeg)]) (rest := []) ⟨hx, hb, hml, hown, hT⟩ (c_X6_takeDown l G cA H.size ua pa Tu_2 P L (P 18 (Tn 0 0).toNatClampNeg)  r9 Tu_10 L_11 hc12) (cwV 1 hT (tq_gV kw_46_23 kw_40_13 kw_40_14 kw_1_23 kw_40_15) rfl rfl rfl dkdV_yX6_takeDown_1 ⟨Nat.le_of_ble_eq_true rfl, Nat.le_of_ble_eq_true rfl⟩) ⟨(tw_pre pX_ua hP hD hK hN).1, va_recv hK hP (ci := 6) (q0 := 77) rfl rfl, (tw_pre pX_ua hP hD hK hN).2⟩ rfl rfl hl.1 rfl (lv_room (Nat.le_of_ble_eq_true rfl)) dX7_findLeast_48 ⟨Nat.le_of_ble_eq_true rfl, Nat.le_of_ble_eq_true rfl⟩) (fun _ _ H locs z13 hP hD hS => ?_)
  have z13 := z13.symm
  subst z13
  replace hP := tw_P pX_ua.symm hP
  replace hD := tw_D pX_ua.symm hD
  have hP : va_P G vwCl (wX cA xa ka ra na ia ua va ca za pa qa X K R P L_11 P2 L2 Tn Ti Tu_10 Tv C Z q0 q1 (pa 0) q3 (pa 0) q5) H := hP
  have hD : va_D A (wX cA xa ka ra na ia ua va ca za pa qa X K R P L_11 P2 L2 Tn Ti Tu_10 Tv C Z q0 q1 (pa 0) q3 (pa 0) q5) := hD
  refine lv_pop hx hb dX7_findLeast_51 rfl ?_
  refine lv_aload_n hx hb dX7_findLeast_52 rfl (lv_at hl 0 rfl) ?_
  refine va_get (D := G) (ci := 7) (v := .ref (va 0)) (C := RX7) (T := TX7) (N := 12) hx hb hT ku_7 hown hK hP 0 rfl rfl 6 (by decide) (hT _ kw_2_4) (fun _ h9 => h9) rfl dX7_findLeast_53 ?_
  refine lv_aload_n hx hb dX7_findLeast_56 rfl (lv_at hl 0 rfl) ?_
  refine va_get (D := G) (ci := 7) (v := .ref (ua 0)) (C := RX7) (T := TX7) (N := 12) hx hb hT ku_7 hown hK hP 0 rfl rfl 5 (by decide) (hT _ kw_2_3) (fun _ h9 => h9) rfl dX7_findLeast_57 ?_
  replace h := tx_bd h
  obtain ⟨⟨Tv_14, q3_15⟩, hc16, h⟩ := h
  replace h := tx_let (y := Tv_14) rfl h
  replace h := tx_let (y := q3_15) rfl h
  refine tw_cv pX_va_ua hP hD hS hA (va_runV (As := [.ref (ua 0)]) (rest := []) ⟨hx, hb, hml, hown, hT⟩ (c_X6_copy l G cA H.size va ua Tv Tu_10 q3 (pa 0)  Tv_14 q3_15 hc16) (cwV 1 hT (tq_gV kw_38_6 kw_38_7 kw_38_8 kw_1_23 kw_38_9) rfl rfl rfl dkdV_yX6_copy_1 ⟨Nat.le_of_ble_eq_true rfl, Nat.le_of_ble_eq_true rfl⟩) ⟨(tw_pre pX_va_ua hP hD hK hN).1, va_recv hK hP (ci := 6) (q0 := 89) rfl rfl, (tw_pre pX_va_ua hP hD hK hN).2⟩ rfl rfl hl.1 rfl (lv_room (Nat.le_of_ble_eq_true rfl)) dX7_findLeast_60 ⟨Nat.le_of_ble_eq_true rfl, Nat.le_of_ble_eq_true rfl⟩) (fun _ H locs z17 hP hD hS => ?_)
  replace hP := tw_P pX_va_ua.symm hP
  replace hD := tw_D pX_va_ua.symm hD
  have hP : va_P G vwCl (wX cA xa ka ra na ia ua va ca za pa qa X K R P L_11 P2 L2 Tn Ti Tu_10 Tv_14 C Z q0 q1 (pa 0) q3_15 (pa 0) q5) H := hP
  have hD : va_D A (wX cA xa ka ra na ia ua va ca za pa qa X K R P L_11 P2 L2 Tn Ti Tu_10 Tv_14 C Z q0 q1 (pa 0) q3_15 (pa 0) q5) := hD
  refine lv_iconst (v := (-1)) hx hb dX7_findLeast_63 (by decide) ?_
  refine lv_istore_n (lv' := [(3, .int (-1)), (0, .ref (xa 0)), (1, .int x1), (2, .int x2)]) hx hb dX7_findLeast_64 rfl hl (by decide) rfl (fun ls hl => ?_)
  refine lv_iconst (v := 0) hx hb dX7_findLeast_65 (by decide) ?_
  refine lv_istore (lv' := [(4, .int 0), (3, .int (-1)), (0, .ref (xa 0)), (1, .int x1), (2, .int x2)]) hx hb dX7_findLeast_66 hl (by decide) rfl (fun ls hl => ?_)
  exact w_X7_findLeast_L68 F 2000 (-1) 0 L_11 Tu_10 (pa 0) H locs ls h hP hD hS (lv_sub hl [2, 3, 4, 1, 0] rfl)
set_option maxHeartbeats 4000000 in
set_option maxRecDepth 100000 in
theorem w_X7_findLeast_L4 {p : Program} {l : Launch} {e : Env} {s : State} {m : MethodId} {below : List Frame} {meth : Method} {c : Code} {G : va_G} {cA : Nat → ClassId} {A : Nat → Prop} {xa : Nat → Nat} {ka : Nat → Nat} {ra : Nat → Nat} {na : Nat → Nat} {ia : Nat → Nat} {ua : Nat → Nat} {va : Nat → Nat} {ca : Nat → Nat} {za : Nat → Nat} {pa : Nat → Nat} {qa : Nat → Nat} {X : Tr} {K : Tr} {R : Tr} {P : Tr} {P2 : Tr} {L2 : Lo} {Tn : Tr} {Ti : Tr} {C : Tr} {Z : Tr} {q0 : Nat} {q1 : Nat} {q4 : Nat} {q5 : Nat} {x1₀ : Int32} {r0 : Int32} {L' : Lo} {Tu' : Tr} {Tv' : Tr} {q2' : Nat} {q3' : Nat} {L : Lo} {Tu : Tr} {Tv : Tr} {q2 : Nat} {q3 : Nat} {x1 : Int32} (F : tF p s m ([.ref (xa 0), .int x1₀] : List Value).toArray meth c G cA A RX7 cX7_findLeast 6 (some .int))    (N : Nat) : ∀ (x2 : Int32) (x3 : Int32) (H : Heap) (locs : List Loc) (ls : Array Slot), lpF (fun _ _ => none) (fB_X7_findLeast_L4 pa qa X P L Tn Tu Tv q0 q2 q3 q4 x1) N x2 x3 = some (r0, L', Tu', Tv', q2', q3') → va_P G vwCl (wX cA xa ka ra na ia ua va ca za pa qa X K R P L P2 L2 Tn Ti Tu Tv C Z q0 q1 q2 q3 q4 q5) H → va_D A (wX cA xa ka ra na ia ua va ca za pa qa X K R P L P2 L2 Tn Ti Tu Tv C Z q0 q1 q2 q3 q4 q5) → va_S A s.heap H locs → lv_has ls 6 [(0, .ref (xa 0)), (1, .int x1), (2, .int x2), (3, .int x3)] → G_X7_findLeast p l e s m below meth c G cA A xa ka ra na ia ua va ca za pa qa X K R P P2 L2 Tn Ti C Z q0 q1 q4 q5 x1₀ r0 L' Tu' Tv' q2' q3' H locs (F0 m 4 ls []) := by
  obtain ⟨hx, hb, hr, hml, hT, hown, hlocks, hK, hN, hA⟩ := id F
  induction N with
  | zero =>
    intro x2 x3 H locs ls h
    replace h : (none : Option (Int32 × Lo × Tr × Tr × Nat × Nat)) = some (r0, L', Tu', Tv', q2', q3') := h
    cases h
  | succ N hk4 =>
    intro x2 x3 H locs ls h hP hD hS hl
    replace h : fB_X7_findLeast_L4 pa qa X P L Tn Tu Tv q0 q2 q3 q4 x1 (lpF (fun _ _ => none) (fB_X7_findLeast_L4 pa qa X P L Tn Tu Tv q0 q2 q3 q4 x1) N) x2 x3 = some (r0, L', Tu', Tv', q2', q3') := h
    generalize hk4e : lpF (fun _ _ => none) (fB_X7_findLeast_L4 pa qa X P L Tn Tu Tv q0 q2 q3 q4 x1) N = k4 at h hk4
    unfold fB_X7_findLeast_L4 at h
    refine lv_iload_n hx hb dX7_findLeast_4 rfl (lv_at hl 3 rfl) ?_
    refine lv_iload_n hx hb dX7_findLeast_5 rfl (lv_at hl 1 rfl) ?_
    refine lv_icmp_ge (tgt := 25) hx hb dX7_findLeast_6 (by decide) (fun c1 => ?_) (fun c1 => ?_)
    · replace h := tx_pos c1 h
      exact w_X7_findLeast_J25 F x1 x2 L Tu Tv q2 q3 H locs ls h hP hD hS (lv_sub hl [0, 1, 2] rfl)
    · replace h := tx_neg c1 h
      refine lv_iload_n hx hb dX7_findLeast_9 rfl (lv_at hl 2 rfl) ?_
      refine lv_aload_n hx hb dX7_findLeast_10 rfl (lv_at hl 0 rfl) ?_
      refine va_get (D := G) (ci := 7) (v := .ref q4) (C := RX7) (T := TX7) (N := 12) hx hb hT ku_7 hown hK hP 0 rfl rfl 1 (by decide) (hT _ kw_1_20) (fun _ h9 => h9) rfl dX7_findLeast_11 ?_
      replace h := tx_ck h
      obtain ⟨g56, h⟩ := h
      have eg56 := of_decide_eq_true g56
      subst eg56
      refine va_get (D := G) (ci := 2) (v := .int (P 0 0)) (C := RX2) (T := TX2) (N := 19) hx hb hT ku_2 hown hK hP 9 rfl rfl 0 (by decide) (hT _ kw_32_2) (fun _ h9 => h9) rfl dX7_findLeast_14 ?_
      refine lv_imul hx hb dX7_findLeast_17 ?_
      refine lv_topi (fun y57 ey57 => ?_)
      replace h := tx_let ey57 h
      refine lv_istore_n (lv' := [(2, .int y57), (0, .ref (xa 0)), (1, .int x1), (3, .int x3)]) hx hb dX7_findLeast_18 rfl hl (by decide) rfl (fun ls hl => ?_)
      replace h := tx_lt h
      obtain ⟨y58, ey58, h⟩ := h
      refine lv_iinc (v := y58) (lv' := [(3, .int y58), (2, .int y57), (0, .ref (xa 0)), (1, .int x1)]) hx hb dX7_findLeast_19 hl (k := 3) rfl ey58 (by decide) rfl (fun ls hl => ?_)
      refine lv_goto (tgt := 4) hx hb dX7_findLeast_22 (by decide) ?_
      exact hk4 y57 y58 H locs ls h hP hD hS (lv_sub hl [2, 3, 1, 0] rfl)
set_option maxHeartbeats 4000000 in
set_option maxRecDepth 100000 in
theorem c_X7_findLeast (l : Launch) (G : va_G) (cA : Nat → ClassId) (sz : Nat) (xa : Nat → Nat) (ka : Nat → Nat) (ra : Nat → Nat) (na : Nat → Nat) (ia : Nat → Nat) (ua : Nat → Nat) (va : Nat → Nat) (ca : Nat → Nat) (za : Nat → Nat) (pa : Nat → Nat) (qa : Nat → Nat) (X : Tr) (K : Tr) (R : Tr) (P : Tr) (L : Lo) (P2 : Tr) (L2 : Lo) (Tn : Tr) (Ti : Tr) (Tu : Tr) (Tv : Tr) (C : Tr) (Z : Tr) (q0 : Nat) (q1 : Nat) (q2 : Nat) (q3 : Nat) (q4 : Nat) (q5 : Nat) (x1 : Int32)  (r0 : Int32) (L' : Lo) (Tu' : Tr) (Tv' : Tr) (q2' : Nat) (q3' : Nat) (h : f_X7_findLeast pa qa X P L Tn Tu Tv q0 q2 q3 q4 x1 = some (r0, L', Tu', Tv', q2', q3')) : Met l yX7_findLeast (.code yX7_findLeast cX7_findLeast 6 (some .int) :: T0) ({ frames := 6, cells := 0, slots := 0, locals := 153 } : Room) (tqP G cA [.ref (xa 0), .int x1] (wX cA xa ka ra na ia ua va ca za pa qa X K R P L P2 L2 Tn Ti Tu Tv C Z q0 q1 q2 q3 q4 q5) sz) (tqQi G cA (fun (r : Int32) (_ : Unit) => r = r0) (fun (_ : Unit) => wX cA xa ka ra na ia ua va ca za pa qa X K R P (L') P2 L2 Tn Ti (Tu') (Tv') C Z q0 q1 (q2') (q3') q4 q5) (va_A (wX cA xa ka ra na ia ua va ca za pa qa X K R P L P2 L2 Tn Ti Tu Tv C Z q0 q1 q2 q3 q4 q5) sz)) 0 0 (va_A (wX cA xa ka ra na ia ua va ca za pa qa X K R P L P2 L2 Tn Ti Tu Tv C Z q0 q1 q2 q3 q4 q5) sz) := by
  refine Met.ofW (cc := cX7_findLeast) (maxL := 6) (ret := (some .int)) (by decide) rfl ?_
  intro p e s m args below meth c s₁ B hml hv
  obtain ⟨rfl, hsz, hP, hK, hD0, hN⟩ := hv
  have hx := B.exec
  have hb := B.bytes
  have hr := B.returns
  have hts := atoms_spec (ws := .code yX7_findLeast cX7_findLeast 6 (some .int) :: T0) B.pre
  have hT : ∀ w ∈ T0, w.before _ s = true := fun w h => hts w (List.mem_cons_of_mem _ h)
  have hown : s.vm.findClass RX7 = some m.cls := findClass_of_methodNamed B.named
  have hlocks := B.notSynchronized
  subst hsz
  have hD := hD0.self (sz := s.heap.size)
  generalize hAe : va_A (wX cA xa ka ra na ia ua va ca za pa qa X K R P L P2 L2 Tn Ti Tu Tv C Z q0 q1 q2 q3 q4 q5) s.heap.size = A at hD ⊢
  have hA : ∀ q : Nat, s.heap.size ≤ q → A q := fun q h => by rw [← hAe]; exact Or.inr h
  have hS : va_S A s.heap s.heap [] := va_S.rf
  have hl := lv_entry ([.ref (xa 0), .int x1]) (n := 6) (Nat.le_of_ble_eq_true rfl)
  rw [lg_entry_eq]
  generalize (lg_sl ([.ref (xa 0), .int x1]) ++ List.replicate (6 - (lg_sl ([.ref (xa 0), .int x1])).length) Slot.unset).toArray = ls at hl ⊢
  have hl : lv_has ls 6 [(0, .ref (xa 0)), (1, .int x1)] := hl
  have F : tF p s m ([.ref (xa 0), .int x1] : List Value).toArray meth c G cA A RX7 cX7_findLeast 6 (some .int) := ⟨hx, hb, hr, hml, hT, hown, hlocks, hK, hN, hA⟩
  obtain ⟨H, hH⟩ : ∃ z, z = s.heap := ⟨_, rfl⟩
  rw [← hH] at hP
  have hS : va_S A s.heap H [] := by rw [hH]; exact hS
  suffices hgo : G_X7_findLeast p l e s m below meth c G cA A xa ka ra na ia ua va ca za pa qa X K R P P2 L2 Tn Ti C Z q0 q1 q4 q5 x1 r0 L' Tu' Tv' q2' q3' H [] (F0 m 0 ls []) by rw [hH] at hgo; exact hgo
  generalize ([] : List Loc) = locs at hS ⊢
  unfold f_X7_findLeast at h
  refine lv_iconst (v := 1) hx hb dX7_findLeast_0 (by decide) ?_
  refine lv_istore_n (lv' := [(2, .int 1), (0, .ref (xa 0)), (1, .int x1)]) hx hb dX7_findLeast_1 rfl hl (by decide) rfl (fun ls hl => ?_)
  refine lv_iconst (v := 0) hx hb dX7_findLeast_2 (by decide) ?_
  refine lv_istore_n (lv' := [(3, .int 0), (2, .int 1), (0, .ref (xa 0)), (1, .int x1)]) hx hb dX7_findLeast_3 rfl hl (by decide) rfl (fun ls hl => ?_)
  exact w_X7_findLeast_L4 F 2000 1 0 H locs ls h hP hD hS (lv_sub hl [2, 3, 1, 0] rfl)
abbrev G_X7_findMine (p : Program) (l : Launch) (e : Env) (s : State) (m : MethodId) (below : List Frame) (meth : Method) (c : Code) (G : va_G) (cA : Nat → ClassId) (A : Nat → Prop) (xa : Nat → Nat) (ka : Nat → Nat) (ra : Nat → Nat) (na : Nat → Nat) (ia : Nat → Nat) (ua : Nat → Nat) (va : Nat → Nat) (ca : Nat → Nat) (za : Nat → Nat) (pa : Nat → Nat) (qa : Nat → Nat) (X : Tr) (K : Tr) (R : Tr) (P : Tr) (P2 : Tr) (L2 : Lo) (Tn : Tr) (Ti : Tr) (Tv : Tr) (C : Tr) (Z : Tr) (q0 : Nat) (q1 : Nat) (q3 : Nat) (q4 : Nat) (q5 : Nat) (x1 : Int32) (x2 : Int32) (r0 : Int32) (L' : Lo) (Tu' : Tr) (q2' : Nat) (H : Heap) (locs : List Loc) (g : JFrame) : Prop := W p l e (headSpec (.code yX7_findMine cX7_findMine 7 (some .int) :: T0) ({ frames := 6, cells := 0, slots := 0, locals := 153 } : Room)).room s m ([.ref (xa 0), .int x1, .int x2] : List Value).toArray below meth c H locs 0 0 (MQ below (tqQi G cA (fun (r : Int32) (_ : Unit) => r = r0) (fun (_ : Unit) => wX cA xa ka ra na ia ua va ca za pa qa X K R P (L') P2 L2 Tn Ti (Tu') Tv C Z q0 q1 (q2') q3 q4 q5) A) ([.ref (xa 0), .int x1, .int x2] : List Value).toArray s 0 0 A) g
set_option maxHeartbeats 4000000 in
set_option maxRecDepth 100000 in
theorem w_X7_findMine_J128 {p : Program} {l : Launch} {e : Env} {s : State} {m : MethodId} {below : List Frame} {meth : Method} {c : Code} {G : va_G} {cA : Nat → ClassId} {A : Nat → Prop} {xa : Nat → Nat} {ka : Nat → Nat} {ra : Nat → Nat} {na : Nat → Nat} {ia : Nat → Nat} {ua : Nat → Nat} {va : Nat → Nat} {ca : Nat → Nat} {za : Nat → Nat} {pa : Nat → Nat} {qa : Nat → Nat} {X : Tr} {K : Tr} {R : Tr} {P : Tr} {P2 : Tr} {L2 : Lo} {Tn : Tr} {Ti : Tr} {Tv : Tr} {C : Tr} {Z : Tr} {q0 : Nat} {q1 : Nat} {q3 : Nat} {q4 : Nat} {q5 : Nat} {x1₀ : Int32} {x2₀ : Int32} {r0 : Int32} {L' : Lo} {Tu' : Tr} {q2' : Nat} {x1 : Int32} {x2 : Int32} (F : tF p s m ([.ref (xa 0), .int x1₀, .int x2₀] : List Value).toArray meth c G cA A RX7 cX7_findMine 7 (some .int))  (k5 : Int32 → Int32 → Lo → Tr → Nat → Option (Int32 × Lo × Tr × Nat)) (hk5 : ∀ (x3 : Int32) (x4 : Int32) (L : Lo) (Tu : Tr) (q2 : Nat) (H : Heap) (locs : List Loc) (ls : Array Slot), k5 x3 x4 L Tu q2 = some (r0, L', Tu', q2') → va_P G vwCl (wX cA xa ka ra na ia ua va ca za pa qa X K R P L P2 L2 Tn Ti Tu Tv C Z q0 q1 q2 q3 q4 q5) H → va_D A (wX cA xa ka ra na ia ua va ca za pa qa X K R P L P2 L2 Tn Ti Tu Tv C Z q0 q1 q2 q3 q4 q5) → va_S A s.heap H locs → lv_has ls 7 [(0, .ref (xa 0)), (1, .int x1), (2, .int x2), (3, .int x3), (4, .int x4)] → G_X7_findMine p l e s m below meth c G cA A xa ka ra na ia ua va ca za pa qa X K R P P2 L2 Tn Ti Tv C Z q0 q1 q3 q4 q5 x1₀ x2₀ r0 L' Tu' q2' H locs (F0 m 5 ls [])) (x3 : Int32) (x4 : Int32) (s0 : Int32) (L : Lo) (Tu : Tr) (q2 : Nat) (H : Heap) (locs : List Loc) (ls : Array Slot) (h : fJ_X7_findMine_J128 k5 pa qa P Tn q0 q4 x1 x2 x3 x4 s0 L Tu q2 = some (r0, L', Tu', q2')) (hP : va_P G vwCl (wX cA xa ka ra na ia ua va ca za pa qa X K R P L P2 L2 Tn Ti Tu Tv C Z q0 q1 q2 q3 q4 q5) H) (hD : va_D A (wX cA xa ka ra na ia ua va ca za pa qa X K R P L P2 L2 Tn Ti Tu Tv C Z q0 q1 q2 q3 q4 q5)) (hS : va_S A s.heap H locs) (hl : lv_has ls 7 [(0, .ref (xa 0)), (1, .int x1), (2, .int x2), (3, .int x3), (4, .int x4)]) : G_X7_findMine p l e s m below meth c G cA A xa ka ra na ia ua va ca za pa qa X K R P P2 L2 Tn Ti Tv C Z q0 q1 q3 q4 q5 x1₀ x2₀ r0 L' Tu' q2' H locs (F0 m 128 ls [.int s0]) := by
  obtain ⟨hx, hb, hr, hml, hT, hown, hlocks, hK, hN, hA⟩ := id F
  unfold fJ_X7_findMine_J128 at h
  refine lv_istore (lv' := [(5, .int s0), (0, .ref (xa 0)), (1, .int x1), (2, .int x2), (3, .int x3), (4, .int x4)]) hx hb dX7_findMine_128 hl (by decide) rfl (fun ls hl => ?_)
  refine lv_iload hx hb dX7_findMine_130 (lv_at hl 0 rfl) ?_
  refine lv_iconst (v := 5) hx hb dX7_findMine_132 (by decide) ?_
  refine lv_imul hx hb dX7_findMine_133 ?_
  refine lv_iload hx hb dX7_findMine_134 (lv_at hl 5 rfl) ?_
  refine lv_iadd hx hb dX7_findMine_136 ?_
  refine lv_topi (fun y31 ey31 => ?_)
  replace h := tx_let ey31 h
  refine lv_istore (lv' := [(6, .int y31), (5, .int s0), (0, .ref (xa 0)), (1, .int x1), (2, .int x2), (3, .int x3), (4, .int x4)]) hx hb dX7_findMine_137 hl (by decide) rfl (fun ls hl => ?_)
  refine lv_iload_n hx hb dX7_findMine_139 rfl (lv_at hl 5 rfl) ?_
  refine lv_if_lt (tgt := 149) hx hb dX7_findMine_140 (by decide) (fun c32 => ?_) (fun c32 => ?_)
  · replace h := tx_pos c32 h
    refine lv_iload hx hb dX7_findMine_149 (lv_at hl 0 rfl) ?_
    refine lv_goto (tgt := 155) hx hb dX7_findMine_151 (by decide) ?_
    refine lv_istore_n (lv' := [(3, .int y31), (6, .int y31), (5, .int s0), (0, .ref (xa 0)), (1, .int x1), (2, .int x2), (4, .int x4)]) hx hb dX7_findMine_155 rfl hl (by decide) rfl (fun ls hl => ?_)
    replace h := tx_lt h
    obtain ⟨y33, ey33, h⟩ := h
    refine lv_iinc (v := y33) (lv' := [(4, .int y33), (3, .int y31), (6, .int y31), (5, .int s0), (0, .ref (xa 0)), (1, .int x1), (2, .int x2)]) hx hb dX7_findMine_156 hl (k := 6) rfl ey33 (by decide) rfl (fun ls hl => ?_)
    refine lv_goto (tgt := 5) hx hb dX7_findMine_159 (by decide) ?_
    exact hk5 y31 y33 L Tu q2 H locs ls h hP hD hS (lv_sub hl [4, 5, 6, 1, 0] rfl)
  · replace h := tx_neg c32 h
    refine lv_iload hx hb dX7_findMine_143 (lv_at hl 0 rfl) ?_
    refine lv_iload_n hx hb dX7_findMine_145 rfl (lv_at hl 5 rfl) ?_
    refine lv_icmp_ge (tgt := 154) hx hb dX7_findMine_146 (by decide) (fun c34 => ?_) (fun c34 => ?_)
    · replace h := tx_pos c34 h
      refine lv_iload_n hx hb dX7_findMine_154 rfl (lv_at hl 5 rfl) ?_
      refine lv_istore_n (lv' := [(3, .int x3), (6, .int y31), (5, .int s0), (0, .ref (xa 0)), (1, .int x1), (2, .int x2), (4, .int x4)]) hx hb dX7_findMine_155 rfl hl (by decide) rfl (fun ls hl => ?_)
      replace h := tx_lt h
      obtain ⟨y35, ey35, h⟩ := h
      refine lv_iinc (v := y35) (lv' := [(4, .int y35), (3, .int x3), (6, .int y31), (5, .int s0), (0, .ref (xa 0)), (1, .int x1), (2, .int x2)]) hx hb dX7_findMine_156 hl (k := 6) rfl ey35 (by decide) rfl (fun ls hl => ?_)
      refine lv_goto (tgt := 5) hx hb dX7_findMine_159 (by decide) ?_
      exact hk5 x3 y35 L Tu q2 H locs ls h hP hD hS (lv_sub hl [4, 5, 6, 1, 0] rfl)
    · replace h := tx_neg c34 h
      refine lv_iload hx hb dX7_findMine_149 (lv_at hl 0 rfl) ?_
      refine lv_goto (tgt := 155) hx hb dX7_findMine_151 (by decide) ?_
      refine lv_istore_n (lv' := [(3, .int y31), (6, .int y31), (5, .int s0), (0, .ref (xa 0)), (1, .int x1), (2, .int x2), (4, .int x4)]) hx hb dX7_findMine_155 rfl hl (by decide) rfl (fun ls hl => ?_)
      replace h := tx_lt h
      obtain ⟨y36, ey36, h⟩ := h
      refine lv_iinc (v := y36) (lv' := [(4, .int y36), (3, .int y31), (6, .int y31), (5, .int s0), (0, .ref (xa 0)), (1, .int x1), (2, .int x2)]) hx hb dX7_findMine_156 hl (k := 6) rfl ey36 (by decide) rfl (fun ls hl => ?_)
      refine lv_goto (tgt := 5) hx hb dX7_findMine_159 (by decide) ?_
      exact hk5 y31 y36 L Tu q2 H locs ls h hP hD hS (lv_sub hl [4, 5, 6, 1, 0] rfl)
set_option maxHeartbeats 4000000 in
set_option maxRecDepth 100000 in
theorem w_X7_findMine_L5 {p : Program} {l : Launch} {e : Env} {s : State} {m : MethodId} {below : List Frame} {meth : Method} {c : Code} {G : va_G} {cA : Nat → ClassId} {A : Nat → Prop} {xa : Nat → Nat} {ka : Nat → Nat} {ra : Nat → Nat} {na : Nat → Nat} {ia : Nat → Nat} {ua : Nat → Nat} {va : Nat → Nat} {ca : Nat → Nat} {za : Nat → Nat} {pa : Nat → Nat} {qa : Nat → Nat} {X : Tr} {K : Tr} {R : Tr} {P : Tr} {P2 : Tr} {L2 : Lo} {Tn : Tr} {Ti : Tr} {Tv : Tr} {C : Tr} {Z : Tr} {q0 : Nat} {q1 : Nat} {q3 : Nat} {q4 : Nat} {q5 : Nat} {x1₀ : Int32} {x2₀ : Int32} {r0 : Int32} {L' : Lo} {Tu' : Tr} {q2' : Nat} {x1 : Int32} {x2 : Int32} (F : tF p s m ([.ref (xa 0), .int x1₀, .int x2₀] : List Value).toArray meth c G cA A RX7 cX7_findMine 7 (some .int))    (N : Nat) : ∀ (x3 : Int32) (x4 : Int32) (L : Lo) (Tu : Tr) (q2 : Nat) (H : Heap) (locs : List Loc) (ls : Array Slot), lpF (fun _ _ _ _ _ => none) (fB_X7_findMine_L5 pa qa P Tn q0 q4 x1 x2) N x3 x4 L Tu q2 = some (r0, L', Tu', q2') → va_P G vwCl (wX cA xa ka ra na ia ua va ca za pa qa X K R P L P2 L2 Tn Ti Tu Tv C Z q0 q1 q2 q3 q4 q5) H → va_D A (wX cA xa ka ra na ia ua va ca za pa qa X K R P L P2 L2 Tn Ti Tu Tv C Z q0 q1 q2 q3 q4 q5) → va_S A s.heap H locs → lv_has ls 7 [(0, .ref (xa 0)), (1, .int x1), (2, .int x2), (3, .int x3), (4, .int x4)] → G_X7_findMine p l e s m below meth c G cA A xa ka ra na ia ua va ca za pa qa X K R P P2 L2 Tn Ti Tv C Z q0 q1 q3 q4 q5 x1₀ x2₀ r0 L' Tu' q2' H locs (F0 m 5 ls []) := by
  obtain ⟨hx, hb, hr, hml, hT, hown, hlocks, hK, hN, hA⟩ := id F
  induction N with
  | zero =>
    intro x3 x4 L Tu q2 H locs ls h
    replace h : (none : Option (Int32 × Lo × Tr × Nat)) = some (r0, L', Tu', q2') := h
    cases h
  | succ N hk5 =>
    intro x3 x4 L Tu q2 H locs ls h hP hD hS hl
    replace h : fB_X7_findMine_L5 pa qa P Tn q0 q4 x1 x2 (lpF (fun _ _ _ _ _ => none) (fB_X7_findMine_L5 pa qa P Tn q0 q4 x1 x2) N) x3 x4 L Tu q2 = some (r0, L', Tu', q2') := h
    generalize hk5e : lpF (fun _ _ _ _ _ => none) (fB_X7_findMine_L5 pa qa P Tn q0 q4 x1 x2) N = k5 at h hk5
    unfold fB_X7_findMine_L5 at h
    refine lv_iload hx hb dX7_findMine_5 (lv_at hl 4 rfl) ?_
    refine lv_aload_n hx hb dX7_findMine_7 rfl (lv_at hl 0 rfl) ?_
    refine va_get (D := G) (ci := 7) (v := .ref q4) (C := RX7) (T := TX7) (N := 12) hx hb hT ku_7 hown hK hP 0 rfl rfl 1 (by decide) (hT _ kw_1_20) (fun _ h9 => h9) rfl dX7_findMine_8 ?_
    replace h := tx_ck h
    obtain ⟨g1, h⟩ := h
    have eg1 := of_decide_eq_true g1
    subst eg1
    refine va_get (D := G) (ci := 2) (v := .int (P 0 0)) (C := RX2) (T := TX2) (N := 19) hx hb hT ku_2 hown hK hP 9 rfl rfl 0 (by decide) (hT _ kw_32_2) (fun _ h9 => h9) rfl dX7_findMine_11 ?_
    refine lv_icmp_ge (tgt := 162) hx hb dX7_findMine_14 (by decide) (fun c2 => ?_) (fun c2 => ?_)
    · replace h := tx_pos c2 h
      refine lv_iload_n hx hb dX7_findMine_162 rfl (lv_at hl 3 rfl) ?_
      obtain ⟨rfl, rfl, rfl, rfl⟩ := tx_4 h
      exact W.iret hx hb hr (fun t ht hW => ⟨⟨_, (), rfl, rfl, by rw [ht]; exact hP, hD⟩, hS.F ht⟩) hS.2.2 dX7_findMine_163
    · replace h := tx_neg c2 h
      refine lv_aload_n hx hb dX7_findMine_17 rfl (lv_at hl 0 rfl) ?_
      replace h := tx_bd h
      obtain ⟨⟨Tu_3, q2_4⟩, hc5, h⟩ := h
      replace h := tx_let (y := Tu_3) rfl h
      replace h := tx_let (y := q2_4) rfl h
      refine tz_v (As := []) (rest := []) ⟨hx, hb, hml, hown, hT⟩ hP hD hS hA hK hN (c_X7_startTrial l G cA H.size xa ka ra na ia ua va ca za pa qa X K R P L P2 L2 Tn Ti Tu Tv C Z q0 q1 q2 q3 (pa 0) q5  Tu_3 q2_4 hc5) (tq_gV kw_46_17 kw_46_18 kw_46_19 kw_1_2 kw_46_20) rfl rfl dkdV_yX7_startTrial_0 (Nat.le_of_ble_eq_true rfl) (Nat.le_of_ble_eq_true rfl) (ci := 7) (q0 := 0) rfl rfl rfl hl.1 rfl (Nat.le_of_ble_eq_true rfl) dX7_findMine_18 ⟨Nat.le_of_ble_eq_true rfl, Nat.le_of_ble_eq_true rfl⟩ (fun _ H locs z6 hP hD hS => ?_)
      have hP : va_P G vwCl (wX cA xa ka ra na ia ua va ca za pa qa X K R P L P2 L2 Tn Ti Tu_3 Tv C Z q0 q1 q2_4 q3 (pa 0) q5) H := hP
      have hD : va_D A (wX cA xa ka ra na ia ua va ca za pa qa X K R P L P2 L2 Tn Ti Tu_3 Tv C Z q0 q1 q2_4 q3 (pa 0) q5) := hD
      refine lv_aload_n hx hb dX7_findMine_21 rfl (lv_at hl 0 rfl) ?_
      refine va_get (D := G) (ci := 7) (v := .ref (ua 0)) (C := RX7) (T := TX7) (N := 12) hx hb hT ku_7 hown hK hP 0 rfl rfl 5 (by decide) (hT _ kw_2_3) (fun _ h9 => h9) rfl dX7_findMine_22 ?_
      refine va_get (D := G) (ci := 6) (v := .ref (ua 13)) (C := RX6) (T := TX6) (N := 20) hx hb hT ku_6 hown hK hP 77 rfl rfl 12 (by decide) (hT _ kw_46_15) (fun _ h9 => h9) rfl dX7_findMine_25 ?_
      refine lv_iload_n hx hb dX7_findMine_28 rfl (lv_at hl 1 rfl) ?_
      refine lv_iload hx hb dX7_findMine_29 (lv_at hl 4 rfl) ?_
      replace h := tx_ck h
      obtain ⟨g7, h⟩ := h
      refine va_iast (i := x1) hx hb hK hP hD hS 82 0 rfl rfl (tx_in g7) dX7_findMine_31 (fun H locs hP hD hS => ?_)
      replace h := tx_lt h
      obtain ⟨Tu_8, eTu_8, h⟩ := h
      rw [sX_ua_a12, eTu_8] at hP hD
      refine lv_aload_n hx hb dX7_findMine_32 rfl (lv_at hl 0 rfl) ?_
      refine va_get (D := G) (ci := 7) (v := .ref (ua 0)) (C := RX7) (T := TX7) (N := 12) hx hb hT ku_7 hown hK hP 0 rfl rfl 5 (by decide) (hT _ kw_2_3) (fun _ h9 => h9) rfl dX7_findMine_33 ?_
      refine lv_aload_n hx hb dX7_findMine_36 rfl (lv_at hl 0 rfl) ?_
      refine va_get (D := G) (ci := 7) (v := .ref (pa 0)) (C := RX7) (T := TX7) (N := 12) hx hb hT ku_7 hown hK hP 0 rfl rfl 1 (by decide) (hT _ kw_1_20) (fun _ h9 => h9) rfl dX7_findMine_37 ?_
      refine va_get (D := G) (ci := 2) (v := .ref (pa 18)) (C := RX2) (T := TX2) (N := 19) hx hb hT ku_2 hown hK hP 9 rfl rfl 17 (by decide) (hT _ kw_32_23) (fun _ h9 => h9) rfl dX7_findMine_40 ?_
      refine lv_aload_n hx hb dX7_findMine_43 rfl (lv_at hl 0 rfl) ?_
      refine va_get (D := G) (ci := 7) (v := .ref (na 0)) (C := RX7) (T := TX7) (N := 12) hx hb hT ku_7 hown hK hP 0 rfl rfl 2 (by decide) (hT _ kw_2_0) (fun _ h9 => h9) rfl dX7_findMine_44 ?_
      refine va_get (D := G) (ci := 6) (v := .int (Tn 0 0)) (C := RX6) (T := TX6) (N := 20) hx hb hT ku_6 hown hK hP 53 rfl rfl 0 (by decide) (hT _ kw_40_5) (fun _ h9 => h9) rfl dX7_findMine_47 ?_
      replace h := tx_ck h
      obtain ⟨g9, h⟩ := h
      refine va_iald (i := (Tn 0 0)) hx hb hK hP 20 0 rfl rfl (tx_in g9) dX7_findMine_50 ?_
      replace h := tx_ck h
      obtain ⟨g10, h⟩ := h
      have eg10 := of_decide_eq_true g10
      subst eg10
      replace h := tx_bd h
      obtain ⟨⟨r11, Tu_12, L_13⟩, hc14, h⟩ := h
      replace h := tx_let (y := r11) rfl h
      replace h := tx_let (y := Tu_12) rfl h
      replace h := tx_let (y := L_13) rfl h
      refine tw_ci pX_ua hP hD hS hA (va_runV (As := [.int (P 18 (Tn 0 0).toNatClampNeg)]) (rest := []) ⟨hx, hb, hml, hown, hT⟩ (c_X6_takeDown l G cA H.size ua pa Tu_8 P L (P 18 (Tn 0 0).toNatClampNeg)  r11 Tu_12 L_13 hc14) (cwV 1 hT (tq_gV kw_46_23 kw_40_13 kw_40_14 kw_1_23 kw_40_15) rfl rfl rfl dkdV_yX6_takeDown_1 ⟨Nat.le_of_ble_eq_true rfl, Nat.le_of_ble_eq_true rfl⟩) ⟨(tw_pre pX_ua hP hD hK hN).1, va_recv hK hP (ci := 6) (q0 := 77) rfl rfl, (tw_pre pX_ua hP hD hK hN).2⟩ rfl rfl hl.1 rfl (lv_room (Nat.le_of_ble_eq_true rfl)) dX7_findMine_51 ⟨Nat.le_of_ble_eq_true rfl, Nat.le_of_ble_eq_true rfl⟩) (fun _ _ H locs z15 hP hD hS => ?_)
      have z15 := z15.symm
      subst z15
      replace hP := tw_P pX_ua.symm hP
      replace hD := tw_D pX_ua.symm hD
      have hP : va_P G vwCl (wX cA xa ka ra na ia ua va ca za pa qa X K R P L_13 P2 L2 Tn Ti Tu_12 Tv C Z q0 q1 (pa 0) q3 (pa 0) q5) H := hP
      have hD : va_D A (wX cA xa ka ra na ia ua va ca za pa qa X K R P L_13 P2 L2 Tn Ti Tu_12 Tv C Z q0 q1 (pa 0) q3 (pa 0) q5) := hD
      refine lv_pop hx hb dX7_findMine_54 rfl ?_
      refine lv_aload_n hx hb dX7_findMine_55 rfl (lv_at hl 0 rfl) ?_
      refine va_get (D := G) (ci := 7) (v := .ref (ua 0)) (C := RX7) (T := TX7) (N := 12) hx hb hT ku_7 hown hK hP 0 rfl rfl 5 (by decide) (hT _ kw_2_3) (fun _ h9 => h9) rfl dX7_findMine_56 ?_
      replace h := tx_bd h
      obtain ⟨Tu_16, hc17, h⟩ := h
      refine tw_cv pX_ua hP hD hS hA (va_runV (As := []) (rest := []) ⟨hx, hb, hml, hown, hT⟩ (c_X6_getIn l G cA H.size ua pa Tu_12 P L_13  Tu_16 hc17) (cwV 0 hT (tq_gV kw_47_4 kw_41_13 kw_41_14 kw_1_23 kw_41_15) rfl rfl rfl dkdV_yX6_getIn_0 ⟨Nat.le_of_ble_eq_true rfl, Nat.le_of_ble_eq_true rfl⟩) ⟨(tw_pre pX_ua hP hD hK hN).1, va_recv hK hP (ci := 6) (q0 := 77) rfl rfl, (tw_pre pX_ua hP hD hK hN).2⟩ rfl rfl hl.1 rfl (lv_room (Nat.le_of_ble_eq_true rfl)) dX7_findMine_59 ⟨Nat.le_of_ble_eq_true rfl, Nat.le_of_ble_eq_true rfl⟩) (fun _ H locs z18 hP hD hS => ?_)
      replace hP := tw_P pX_ua.symm hP
      replace hD := tw_D pX_ua.symm hD
      have hP : va_P G vwCl (wX cA xa ka ra na ia ua va ca za pa qa X K R P L_13 P2 L2 Tn Ti Tu_16 Tv C Z q0 q1 (pa 0) q3 (pa 0) q5) H := hP
      have hD : va_D A (wX cA xa ka ra na ia ua va ca za pa qa X K R P L_13 P2 L2 Tn Ti Tu_16 Tv C Z q0 q1 (pa 0) q3 (pa 0) q5) := hD
      refine lv_aload_n hx hb dX7_findMine_62 rfl (lv_at hl 0 rfl) ?_
      refine va_get (D := G) (ci := 7) (v := .ref (ua 0)) (C := RX7) (T := TX7) (N := 12) hx hb hT ku_7 hown hK hP 0 rfl rfl 5 (by decide) (hT _ kw_2_3) (fun _ h9 => h9) rfl dX7_findMine_63 ?_
      refine va_get (D := G) (ci := 6) (v := .ref (ua 14)) (C := RX6) (T := TX6) (N := 20) hx hb hT ku_6 hown hK hP 77 rfl rfl 13 (by decide) (hT _ kw_30_3) (fun _ h9 => h9) rfl dX7_findMine_66 ?_
      refine lv_iload_n hx hb dX7_findMine_69 rfl (lv_at hl 1 rfl) ?_
      refine va_iald (i := x1) hx hb hK hP 83 0 rfl rfl (tx_in g7) dX7_findMine_70 ?_
      refine lv_iconst (v := 1) hx hb dX7_findMine_71 (by decide) ?_
      refine lv_icmp_ne (tgt := 156) hx hb dX7_findMine_72 (by decide) (fun c19 => ?_) (fun c19 => ?_)
      · replace h := tx_neg c19 h
        replace h := tx_lt h
        obtain ⟨y20, ey20, h⟩ := h
        refine lv_iinc (v := y20) (lv' := [(4, .int y20), (0, .ref (xa 0)), (1, .int x1), (2, .int x2), (3, .int x3)]) hx hb dX7_findMine_156 hl (k := 4) rfl ey20 (by decide) rfl (fun ls hl => ?_)
        refine lv_goto (tgt := 5) hx hb dX7_findMine_159 (by decide) ?_
        exact hk5 x3 y20 L_13 Tu_16 (pa 0) H locs ls h hP hD hS (lv_sub hl [1, 2, 3, 4, 0] rfl)
      · replace h := tx_pos c19 h
        refine lv_aload_n hx hb dX7_findMine_75 rfl (lv_at hl 0 rfl) ?_
        refine va_get (D := G) (ci := 7) (v := .ref (ua 0)) (C := RX7) (T := TX7) (N := 12) hx hb hT ku_7 hown hK hP 0 rfl rfl 5 (by decide) (hT _ kw_2_3) (fun _ h9 => h9) rfl dX7_findMine_76 ?_
        replace h := tx_bd h
        obtain ⟨⟨Tu_21, L_22⟩, hc23, h⟩ := h
        replace h := tx_let (y := Tu_21) rfl h
        replace h := tx_let (y := L_22) rfl h
        refine tw_cv pX_ua hP hD hS hA (va_runV (As := []) (rest := []) ⟨hx, hb, hml, hown, hT⟩ (c_X6_wayOn l G cA H.size ua pa Tu_16 P L_13  Tu_21 L_22 hc23) (cwV 0 hT (tq_gV kw_47_9 kw_42_4 kw_42_5 kw_1_23 kw_42_6) rfl rfl rfl dkdV_yX6_wayOn_0 ⟨Nat.le_of_ble_eq_true rfl, Nat.le_of_ble_eq_true rfl⟩) ⟨(tw_pre pX_ua hP hD hK hN).1, va_recv hK hP (ci := 6) (q0 := 77) rfl rfl, (tw_pre pX_ua hP hD hK hN).2⟩ rfl rfl hl.1 rfl (lv_room (Nat.le_of_ble_eq_true rfl)) dX7_findMine_79 ⟨Nat.le_of_ble_eq_true rfl, Nat.le_of_ble_eq_true rfl⟩) (fun _ H locs z24 hP hD hS => ?_)
        replace hP := tw_P pX_ua.symm hP
        replace hD := tw_D pX_ua.symm hD
        have hP : va_P G vwCl (wX cA xa ka ra na ia ua va ca za pa qa X K R P L_22 P2 L2 Tn Ti Tu_21 Tv C Z q0 q1 (pa 0) q3 (pa 0) q5) H := hP
        have hD : va_D A (wX cA xa ka ra na ia ua va ca za pa qa X K R P L_22 P2 L2 Tn Ti Tu_21 Tv C Z q0 q1 (pa 0) q3 (pa 0) q5) := hD
        refine lv_aload_n hx hb dX7_findMine_82 rfl (lv_at hl 0 rfl) ?_
        refine va_get (D := G) (ci := 7) (v := .ref (ua 0)) (C := RX7) (T := TX7) (N := 12) hx hb hT ku_7 hown hK hP 0 rfl rfl 5 (by decide) (hT _ kw_2_3) (fun _ h9 => h9) rfl dX7_findMine_83 ?_
        replace h := tx_bd h
        obtain ⟨⟨Tu_25, L_26⟩, hc27, h⟩ := h
        replace h := tx_let (y := Tu_25) rfl h
        replace h := tx_let (y := L_26) rfl h
        refine tw_cv pX_ua hP hD hS hA (va_runV (As := []) (rest := []) ⟨hx, hb, hml, hown, hT⟩ (c_X6_runToEnd l G cA H.size ua pa Tu_21 P L_22  Tu_25 L_26 hc27) (cwV 0 hT (tq_gV kw_47_10 kw_47_11 kw_47_12 kw_1_23 kw_47_13) rfl rfl rfl dkdV_yX6_runToEnd_0 ⟨Nat.le_of_ble_eq_true rfl, Nat.le_of_ble_eq_true rfl⟩) ⟨(tw_pre pX_ua hP hD hK hN).1, va_recv hK hP (ci := 6) (q0 := 77) rfl rfl, (tw_pre pX_ua hP hD hK hN).2⟩ rfl rfl hl.1 rfl (lv_room (Nat.le_of_ble_eq_true rfl)) dX7_findMine_86 ⟨Nat.le_of_ble_eq_true rfl, Nat.le_of_ble_eq_true rfl⟩) (fun _ H locs z28 hP hD hS => ?_)
        replace hP := tw_P pX_ua.symm hP
        replace hD := tw_D pX_ua.symm hD
        have hP : va_P G vwCl (wX cA xa ka ra na ia ua va ca za pa qa X K R P L_26 P2 L2 Tn Ti Tu_25 Tv C Z q0 q1 (pa 0) q3 (pa 0) q5) H := hP
        have hD : va_D A (wX cA xa ka ra na ia ua va ca za pa qa X K R P L_26 P2 L2 Tn Ti Tu_25 Tv C Z q0 q1 (pa 0) q3 (pa 0) q5) := hD
        refine lv_iload_n hx hb dX7_findMine_89 rfl (lv_at hl 2 rfl) ?_
        refine lv_if_eq (tgt := 111) hx hb dX7_findMine_90 (by decide) (fun c29 => ?_) (fun c29 => ?_)
        · replace h := tx_pos c29 h
          refine lv_aload_n hx hb dX7_findMine_111 rfl (lv_at hl 0 rfl) ?_
          refine va_get (D := G) (ci := 7) (v := .ref (ua 0)) (C := RX7) (T := TX7) (N := 12) hx hb hT ku_7 hown hK hP 0 rfl rfl 5 (by decide) (hT _ kw_2_3) (fun _ h9 => h9) rfl dX7_findMine_112 ?_
          refine va_get (D := G) (ci := 6) (v := .ref (ua 12)) (C := RX6) (T := TX6) (N := 20) hx hb hT ku_6 hown hK hP 77 rfl rfl 11 (by decide) (hT _ kw_29_2) (fun _ h9 => h9) rfl dX7_findMine_115 ?_
          refine lv_aload_n hx hb dX7_findMine_118 rfl (lv_at hl 0 rfl) ?_
          refine va_get (D := G) (ci := 7) (v := .ref (pa 0)) (C := RX7) (T := TX7) (N := 12) hx hb hT ku_7 hown hK hP 0 rfl rfl 1 (by decide) (hT _ kw_1_20) (fun _ h9 => h9) rfl dX7_findMine_119 ?_
          refine va_get (D := G) (ci := 2) (v := .ref (pa 14)) (C := RX2) (T := TX2) (N := 19) hx hb hT ku_2 hown hK hP 9 rfl rfl 13 (by decide) (hT _ kw_30_0) (fun _ h9 => h9) rfl dX7_findMine_122 ?_
          refine lv_iload_n hx hb dX7_findMine_125 rfl (lv_at hl 1 rfl) ?_
          refine va_iald (i := x1) hx hb hK hP 16 0 rfl rfl (tx_in g7) dX7_findMine_126 ?_
          replace h := tx_ck h
          obtain ⟨g30, h⟩ := h
          refine va_iald (i := (P 14 x1.toNatClampNeg)) hx hb hK hP 81 0 rfl rfl (tx_in g30) dX7_findMine_127 ?_
          exact w_X7_findMine_J128 F k5 hk5 x3 x4 (Tu_25 12 (P 14 x1.toNatClampNeg).toNatClampNeg) L_26 Tu_25 (pa 0) H locs ls h hP hD hS (lv_sub hl [0, 1, 2, 3, 4] rfl)
        · replace h := tx_neg c29 h
          refine lv_aload_n hx hb dX7_findMine_93 rfl (lv_at hl 0 rfl) ?_
          refine va_get (D := G) (ci := 7) (v := .ref (ua 0)) (C := RX7) (T := TX7) (N := 12) hx hb hT ku_7 hown hK hP 0 rfl rfl 5 (by decide) (hT _ kw_2_3) (fun _ h9 => h9) rfl dX7_findMine_94 ?_
          refine va_get (D := G) (ci := 6) (v := .int (Tu_25 0 1)) (C := RX6) (T := TX6) (N := 20) hx hb hT ku_6 hown hK hP 77 rfl rfl 1 (by decide) (hT _ kw_46_16) (fun _ h9 => h9) rfl dX7_findMine_97 ?_
          refine lv_aload_n hx hb dX7_findMine_100 rfl (lv_at hl 0 rfl) ?_
          refine va_get (D := G) (ci := 7) (v := .ref (na 0)) (C := RX7) (T := TX7) (N := 12) hx hb hT ku_7 hown hK hP 0 rfl rfl 2 (by decide) (hT _ kw_2_0) (fun _ h9 => h9) rfl dX7_findMine_101 ?_
          refine va_get (D := G) (ci := 6) (v := .int (Tn 0 1)) (C := RX6) (T := TX6) (N := 20) hx hb hT ku_6 hown hK hP 53 rfl rfl 1 (by decide) (hT _ kw_46_16) (fun _ h9 => h9) rfl dX7_findMine_104 ?_
          refine lv_isub hx hb dX7_findMine_107 ?_
          refine lv_goto (tgt := 128) hx hb dX7_findMine_108 (by decide) ?_
          exact w_X7_findMine_J128 F k5 hk5 x3 x4 ((Tu_25 0 1) - (Tn 0 1)) L_26 Tu_25 (pa 0) H locs ls h hP hD hS (lv_sub hl [0, 1, 2, 3, 4] rfl)
set_option maxHeartbeats 4000000 in
set_option maxRecDepth 100000 in
theorem c_X7_findMine (l : Launch) (G : va_G) (cA : Nat → ClassId) (sz : Nat) (xa : Nat → Nat) (ka : Nat → Nat) (ra : Nat → Nat) (na : Nat → Nat) (ia : Nat → Nat) (ua : Nat → Nat) (va : Nat → Nat) (ca : Nat → Nat) (za : Nat → Nat) (pa : Nat → Nat) (qa : Nat → Nat) (X : Tr) (K : Tr) (R : Tr) (P : Tr) (L : Lo) (P2 : Tr) (L2 : Lo) (Tn : Tr) (Ti : Tr) (Tu : Tr) (Tv : Tr) (C : Tr) (Z : Tr) (q0 : Nat) (q1 : Nat) (q2 : Nat) (q3 : Nat) (q4 : Nat) (q5 : Nat) (x1 : Int32) (x2 : Int32)  (r0 : Int32) (L' : Lo) (Tu' : Tr) (q2' : Nat) (h : f_X7_findMine pa qa P L Tn Tu q0 q2 q4 x1 x2 = some (r0, L', Tu', q2')) : Met l yX7_findMine (.code yX7_findMine cX7_findMine 7 (some .int) :: T0) ({ frames := 6, cells := 0, slots := 0, locals := 153 } : Room) (tqP G cA [.ref (xa 0), .int x1, .int x2] (wX cA xa ka ra na ia ua va ca za pa qa X K R P L P2 L2 Tn Ti Tu Tv C Z q0 q1 q2 q3 q4 q5) sz) (tqQi G cA (fun (r : Int32) (_ : Unit) => r = r0) (fun (_ : Unit) => wX cA xa ka ra na ia ua va ca za pa qa X K R P (L') P2 L2 Tn Ti (Tu') Tv C Z q0 q1 (q2') q3 q4 q5) (va_A (wX cA xa ka ra na ia ua va ca za pa qa X K R P L P2 L2 Tn Ti Tu Tv C Z q0 q1 q2 q3 q4 q5) sz)) 0 0 (va_A (wX cA xa ka ra na ia ua va ca za pa qa X K R P L P2 L2 Tn Ti Tu Tv C Z q0 q1 q2 q3 q4 q5) sz) := by
  refine Met.ofW (cc := cX7_findMine) (maxL := 7) (ret := (some .int)) (by decide) rfl ?_
  intro p e s m args below meth c s₁ B hml hv
  obtain ⟨rfl, hsz, hP, hK, hD0, hN⟩ := hv
  have hx := B.exec
  have hb := B.bytes
  have hr := B.returns
  have hts := atoms_spec (ws := .code yX7_findMine cX7_findMine 7 (some .int) :: T0) B.pre
  have hT : ∀ w ∈ T0, w.before _ s = true := fun w h => hts w (List.mem_cons_of_mem _ h)
  have hown : s.vm.findClass RX7 = some m.cls := findClass_of_methodNamed B.named
  have hlocks := B.notSynchronized
  subst hsz
  have hD := hD0.self (sz := s.heap.size)
  generalize hAe : va_A (wX cA xa ka ra na ia ua va ca za pa qa X K R P L P2 L2 Tn Ti Tu Tv C Z q0 q1 q2 q3 q4 q5) s.heap.size = A at hD ⊢
  have hA : ∀ q : Nat, s.heap.size ≤ q → A q := fun q h => by rw [← hAe]; exact Or.inr h
  have hS : va_S A s.heap s.heap [] := va_S.rf
  have hl := lv_entry ([.ref (xa 0), .int x1, .int x2]) (n := 7) (Nat.le_of_ble_eq_true rfl)
  rw [lg_entry_eq]
  generalize (lg_sl ([.ref (xa 0), .int x1, .int x2]) ++ List.replicate (7 - (lg_sl ([.ref (xa 0), .int x1, .int x2])).length) Slot.unset).toArray = ls at hl ⊢
  have hl : lv_has ls 7 [(0, .ref (xa 0)), (1, .int x1), (2, .int x2)] := hl
  have F : tF p s m ([.ref (xa 0), .int x1, .int x2] : List Value).toArray meth c G cA A RX7 cX7_findMine 7 (some .int) := ⟨hx, hb, hr, hml, hT, hown, hlocks, hK, hN, hA⟩
  obtain ⟨H, hH⟩ : ∃ z, z = s.heap := ⟨_, rfl⟩
  rw [← hH] at hP
  have hS : va_S A s.heap H [] := by rw [hH]; exact hS
  suffices hgo : G_X7_findMine p l e s m below meth c G cA A xa ka ra na ia ua va ca za pa qa X K R P P2 L2 Tn Ti Tv C Z q0 q1 q3 q4 q5 x1 x2 r0 L' Tu' q2' H [] (F0 m 0 ls []) by rw [hH] at hgo; exact hgo
  generalize ([] : List Loc) = locs at hS ⊢
  unfold f_X7_findMine at h
  refine lv_iconst (v := (-1)) hx hb dX7_findMine_0 (by decide) ?_
  refine lv_istore_n (lv' := [(3, .int (-1)), (0, .ref (xa 0)), (1, .int x1), (2, .int x2)]) hx hb dX7_findMine_1 rfl hl (by decide) rfl (fun ls hl => ?_)
  refine lv_iconst (v := 0) hx hb dX7_findMine_2 (by decide) ?_
  refine lv_istore (lv' := [(4, .int 0), (3, .int (-1)), (0, .ref (xa 0)), (1, .int x1), (2, .int x2)]) hx hb dX7_findMine_3 hl (by decide) rfl (fun ls hl => ?_)
  exact w_X7_findMine_L5 F 2000 (-1) 0 L Tu q2 H locs ls h hP hD hS (lv_sub hl [2, 3, 4, 1, 0] rfl)
abbrev G_X7_go (p : Program) (l : Launch) (e : Env) (s : State) (m : MethodId) (below : List Frame) (meth : Method) (c : Code) (G : va_G) (cA : Nat → ClassId) (A : Nat → Prop) (xa : Nat → Nat) (ka : Nat → Nat) (ra : Nat → Nat) (na : Nat → Nat) (ia : Nat → Nat) (ua : Nat → Nat) (va : Nat → Nat) (ca : Nat → Nat) (za : Nat → Nat) (pa : Nat → Nat) (qa : Nat → Nat) (X : Tr) (K : Tr) (R : Tr) (P : Tr) (P2 : Tr) (L2 : Lo) (Ti : Tr) (Tu : Tr) (Tv : Tr) (Z : Tr) (q0 : Nat) (q1 : Nat) (q2 : Nat) (q3 : Nat) (q4 : Nat) (q5 : Nat) (x1 : Int32) (r0 : Int32) (L' : Lo) (Tn' : Tr) (C' : Tr) (H : Heap) (locs : List Loc) (g : JFrame) : Prop := W p l e (headSpec (.code yX7_go cX7_go 3 (some .int) :: T0) ({ frames := 7, cells := 0, slots := 0, locals := 164 } : Room)).room s m ([.ref (xa 0), .int x1] : List Value).toArray below meth c H locs 0 0 (MQ below (tqQi G cA (fun (r : Int32) (_ : Unit) => r = r0) (fun (_ : Unit) => wX cA xa ka ra na ia ua va ca za pa qa X K R P (L') P2 L2 (Tn') Ti Tu Tv (C') Z q0 q1 q2 q3 q4 q5) A) ([.ref (xa 0), .int x1] : List Value).toArray s 0 0 A) g
set_option maxHeartbeats 4000000 in
set_option maxRecDepth 100000 in
theorem w_X7_go_J54 {p : Program} {l : Launch} {e : Env} {s : State} {m : MethodId} {below : List Frame} {meth : Method} {c : Code} {G : va_G} {cA : Nat → ClassId} {A : Nat → Prop} {xa : Nat → Nat} {ka : Nat → Nat} {ra : Nat → Nat} {na : Nat → Nat} {ia : Nat → Nat} {ua : Nat → Nat} {va : Nat → Nat} {ca : Nat → Nat} {za : Nat → Nat} {pa : Nat → Nat} {qa : Nat → Nat} {X : Tr} {K : Tr} {R : Tr} {P : Tr} {P2 : Tr} {L2 : Lo} {Ti : Tr} {Tu : Tr} {Tv : Tr} {Z : Tr} {q0 : Nat} {q1 : Nat} {q2 : Nat} {q3 : Nat} {q4 : Nat} {q5 : Nat} {x1₀ : Int32} {r0 : Int32} {L' : Lo} {Tn' : Tr} {C' : Tr} (F : tF p s m ([.ref (xa 0), .int x1₀] : List Value).toArray meth c G cA A RX7 cX7_go 3 (some .int))    (x1 : Int32) (L : Lo) (Tn : Tr) (C : Tr) (H : Heap) (locs : List Loc) (ls : Array Slot) (h : fJ_X7_go_J54 pa qa P q0 x1 L Tn C = some (r0, L', Tn', C')) (hP : va_P G vwCl (wX cA xa ka ra na ia ua va ca za pa qa X K R P L P2 L2 Tn Ti Tu Tv C Z q0 q1 q2 q3 q4 q5) H) (hD : va_D A (wX cA xa ka ra na ia ua va ca za pa qa X K R P L P2 L2 Tn Ti Tu Tv C Z q0 q1 q2 q3 q4 q5)) (hS : va_S A s.heap H locs) (hl : lv_has ls 3 [(0, .ref (xa 0)), (1, .int x1)]) : G_X7_go p l e s m below meth c G cA A xa ka ra na ia ua va ca za pa qa X K R P P2 L2 Ti Tu Tv Z q0 q1 q2 q3 q4 q5 x1₀ r0 L' Tn' C' H locs (F0 m 54 ls []) := by
  obtain ⟨hx, hb, hr, hml, hT, hown, hlocks, hK, hN, hA⟩ := id F
  unfold fJ_X7_go_J54 at h
  refine lv_iload_n hx hb dX7_go_54 rfl (lv_at hl 1 rfl) ?_
  refine lv_if_le (tgt := 66) hx hb dX7_go_55 (by decide) (fun c6 => ?_) (fun c6 => ?_)
  · replace h := tx_pos c6 h
    refine lv_aload_n hx hb dX7_go_66 rfl (lv_at hl 0 rfl) ?_
    refine va_get (D := G) (ci := 7) (v := .ref (na 0)) (C := RX7) (T := TX7) (N := 12) hx hb hT ku_7 hown hK hP 0 rfl rfl 2 (by decide) (hT _ kw_2_0) (fun _ h9 => h9) rfl dX7_go_67 ?_
    refine va_get (D := G) (ci := 6) (v := .int (Tn 0 0)) (C := RX6) (T := TX6) (N := 20) hx hb hT ku_6 hown hK hP 53 rfl rfl 0 (by decide) (hT _ kw_40_5) (fun _ h9 => h9) rfl dX7_go_70 ?_
    obtain ⟨rfl, rfl, rfl, rfl⟩ := tx_4 h
    exact W.iret hx hb hr (fun t ht hW => ⟨⟨_, (), rfl, rfl, by rw [ht]; exact hP, hD⟩, hS.F ht⟩) hS.2.2 dX7_go_73
  · replace h := tx_neg c6 h
    refine lv_aload_n hx hb dX7_go_58 rfl (lv_at hl 0 rfl) ?_
    refine va_get (D := G) (ci := 7) (v := .ref (ca 0)) (C := RX7) (T := TX7) (N := 12) hx hb hT ku_7 hown hK hP 0 rfl rfl 7 (by decide) (hT _ kw_2_8) (fun _ h9 => h9) rfl dX7_go_59 ?_
    refine lv_iconst (v := 0) hx hb dX7_go_62 (by decide) ?_
    refine va_put (D := G) (ci := 0) (v := .int 0) (ty := .int) (C := RX0) (T := TX0) (N := 3) hx hb hT ku_0 tyX0 tyX0_ok nmX0 hown hK hP hD hS 101 rfl rfl 0 (by decide) (hT _ kw_14_7) (fun _ h9 => h9) rfl (by decide +kernel) rfl rfl (Nat.le_of_ble_eq_true rfl) dX7_go_63 (fun H locs hP hD hS => ?_)
    replace h := tx_lt h
    obtain ⟨C_7, eC_7, h⟩ := h
    rw [sX_ca_f0, eC_7] at hP hD
    refine lv_aload_n hx hb dX7_go_66 rfl (lv_at hl 0 rfl) ?_
    refine va_get (D := G) (ci := 7) (v := .ref (na 0)) (C := RX7) (T := TX7) (N := 12) hx hb hT ku_7 hown hK hP 0 rfl rfl 2 (by decide) (hT _ kw_2_0) (fun _ h9 => h9) rfl dX7_go_67 ?_
    refine va_get (D := G) (ci := 6) (v := .int (Tn 0 0)) (C := RX6) (T := TX6) (N := 20) hx hb hT ku_6 hown hK hP 53 rfl rfl 0 (by decide) (hT _ kw_40_5) (fun _ h9 => h9) rfl dX7_go_70 ?_
    obtain ⟨rfl, rfl, rfl, rfl⟩ := tx_4 h
    exact W.iret hx hb hr (fun t ht hW => ⟨⟨_, (), rfl, rfl, by rw [ht]; exact hP, hD⟩, hS.F ht⟩) hS.2.2 dX7_go_73
set_option maxHeartbeats 4000000 in
set_option maxRecDepth 100000 in
theorem w_X7_go_L36 {p : Program} {l : Launch} {e : Env} {s : State} {m : MethodId} {below : List Frame} {meth : Method} {c : Code} {G : va_G} {cA : Nat → ClassId} {A : Nat → Prop} {xa : Nat → Nat} {ka : Nat → Nat} {ra : Nat → Nat} {na : Nat → Nat} {ia : Nat → Nat} {ua : Nat → Nat} {va : Nat → Nat} {ca : Nat → Nat} {za : Nat → Nat} {pa : Nat → Nat} {qa : Nat → Nat} {X : Tr} {K : Tr} {R : Tr} {P : Tr} {P2 : Tr} {L2 : Lo} {Ti : Tr} {Tu : Tr} {Tv : Tr} {Z : Tr} {q0 : Nat} {q1 : Nat} {q2 : Nat} {q3 : Nat} {q4 : Nat} {q5 : Nat} {x1₀ : Int32} {r0 : Int32} {L' : Lo} {Tn' : Tr} {C' : Tr} {C : Tr} {x1 : Int32} (F : tF p s m ([.ref (xa 0), .int x1₀] : List Value).toArray meth c G cA A RX7 cX7_go 3 (some .int))    (N : Nat) : ∀ (x2 : Int32) (L : Lo) (Tn : Tr) (H : Heap) (locs : List Loc) (ls : Array Slot), lpF (fun _ _ _ => none) (fB_X7_go_L36 pa qa P C q0 x1) N x2 L Tn = some (r0, L', Tn', C') → va_P G vwCl (wX cA xa ka ra na ia ua va ca za pa qa X K R P L P2 L2 Tn Ti Tu Tv C Z q0 q1 q2 q3 q4 q5) H → va_D A (wX cA xa ka ra na ia ua va ca za pa qa X K R P L P2 L2 Tn Ti Tu Tv C Z q0 q1 q2 q3 q4 q5) → va_S A s.heap H locs → lv_has ls 3 [(0, .ref (xa 0)), (1, .int x1), (2, .int x2)] → G_X7_go p l e s m below meth c G cA A xa ka ra na ia ua va ca za pa qa X K R P P2 L2 Ti Tu Tv Z q0 q1 q2 q3 q4 q5 x1₀ r0 L' Tn' C' H locs (F0 m 36 ls []) := by
  obtain ⟨hx, hb, hr, hml, hT, hown, hlocks, hK, hN, hA⟩ := id F
  induction N with
  | zero =>
    intro x2 L Tn H locs ls h
    replace h : (none : Option (Int32 × Lo × Tr × Tr)) = some (r0, L', Tn', C') := h
    cases h
  | succ N hk36 =>
    intro x2 L Tn H locs ls h hP hD hS hl
    replace h : fB_X7_go_L36 pa qa P C q0 x1 (lpF (fun _ _ _ => none) (fB_X7_go_L36 pa qa P C q0 x1) N) x2 L Tn = some (r0, L', Tn', C') := h
    generalize hk36e : lpF (fun _ _ _ => none) (fB_X7_go_L36 pa qa P C q0 x1) N = k36 at h hk36
    unfold fB_X7_go_L36 at h
    refine lv_iload_n hx hb dX7_go_36 rfl (lv_at hl 2 rfl) ?_
    refine lv_iload_n hx hb dX7_go_37 rfl (lv_at hl 1 rfl) ?_
    refine lv_icmp_ge (tgt := 54) hx hb dX7_go_38 (by decide) (fun c5 => ?_) (fun c5 => ?_)
    · replace h := tx_pos c5 h
      exact w_X7_go_J54 F x1 L Tn C H locs ls h hP hD hS (lv_sub hl [0, 1] rfl)
    · replace h := tx_neg c5 h
      refine lv_aload_n hx hb dX7_go_41 rfl (lv_at hl 0 rfl) ?_
      refine va_get (D := G) (ci := 7) (v := .ref (na 0)) (C := RX7) (T := TX7) (N := 12) hx hb hT ku_7 hown hK hP 0 rfl rfl 2 (by decide) (hT _ kw_2_0) (fun _ h9 => h9) rfl dX7_go_42 ?_
      replace h := tx_ck h
      obtain ⟨g8, h⟩ := h
      have eg8 := of_decide_eq_true g8
      subst eg8
      replace h := tx_bd h
      obtain ⟨⟨Tn_9, L_10⟩, hc11, h⟩ := h
      replace h := tx_let (y := Tn_9) rfl h
      replace h := tx_let (y := L_10) rfl h
      refine tw_cv pX_na hP hD hS hA (va_runV (As := []) (rest := []) ⟨hx, hb, hml, hown, hT⟩ (c_X6_passStop l G cA H.size na pa Tn P L  Tn_9 L_10 hc11) (cwV 0 hT (tq_gV kw_40_7 kw_40_8 kw_40_9 kw_1_23 kw_40_10) rfl rfl rfl dkdV_yX6_passStop_0 ⟨Nat.le_of_ble_eq_true rfl, Nat.le_of_ble_eq_true rfl⟩) ⟨(tw_pre pX_na hP hD hK hN).1, va_recv hK hP (ci := 6) (q0 := 53) rfl rfl, (tw_pre pX_na hP hD hK hN).2⟩ rfl rfl hl.1 rfl (lv_room (Nat.le_of_ble_eq_true rfl)) dX7_go_45 ⟨Nat.le_of_ble_eq_true rfl, Nat.le_of_ble_eq_true rfl⟩) (fun _ H locs z12 hP hD hS => ?_)
      replace hP := tw_P pX_na.symm hP
      replace hD := tw_D pX_na.symm hD
      have hP : va_P G vwCl (wX cA xa ka ra na ia ua va ca za pa qa X K R P L_10 P2 L2 Tn_9 Ti Tu Tv C Z (pa 0) q1 q2 q3 q4 q5) H := hP
      have hD : va_D A (wX cA xa ka ra na ia ua va ca za pa qa X K R P L_10 P2 L2 Tn_9 Ti Tu Tv C Z (pa 0) q1 q2 q3 q4 q5) := hD
      replace h := tx_lt h
      obtain ⟨y13, ey13, h⟩ := h
      refine lv_iinc (v := y13) (lv' := [(2, .int y13), (0, .ref (xa 0)), (1, .int x1)]) hx hb dX7_go_48 hl (k := 2) rfl ey13 (by decide) rfl (fun ls hl => ?_)
      refine lv_goto (tgt := 36) hx hb dX7_go_51 (by decide) ?_
      exact hk36 y13 L_10 Tn_9 H locs ls h hP hD hS (lv_sub hl [1, 2, 0] rfl)
set_option maxHeartbeats 4000000 in
set_option maxRecDepth 100000 in
theorem c_X7_go (l : Launch) (G : va_G) (cA : Nat → ClassId) (sz : Nat) (xa : Nat → Nat) (ka : Nat → Nat) (ra : Nat → Nat) (na : Nat → Nat) (ia : Nat → Nat) (ua : Nat → Nat) (va : Nat → Nat) (ca : Nat → Nat) (za : Nat → Nat) (pa : Nat → Nat) (qa : Nat → Nat) (X : Tr) (K : Tr) (R : Tr) (P : Tr) (L : Lo) (P2 : Tr) (L2 : Lo) (Tn : Tr) (Ti : Tr) (Tu : Tr) (Tv : Tr) (C : Tr) (Z : Tr) (q0 : Nat) (q1 : Nat) (q2 : Nat) (q3 : Nat) (q4 : Nat) (q5 : Nat) (x1 : Int32)  (r0 : Int32) (L' : Lo) (Tn' : Tr) (C' : Tr) (h : f_X7_go pa qa P L Tn C q0 x1 = some (r0, L', Tn', C')) : Met l yX7_go (.code yX7_go cX7_go 3 (some .int) :: T0) ({ frames := 7, cells := 0, slots := 0, locals := 164 } : Room) (tqP G cA [.ref (xa 0), .int x1] (wX cA xa ka ra na ia ua va ca za pa qa X K R P L P2 L2 Tn Ti Tu Tv C Z q0 q1 q2 q3 q4 q5) sz) (tqQi G cA (fun (r : Int32) (_ : Unit) => r = r0) (fun (_ : Unit) => wX cA xa ka ra na ia ua va ca za pa qa X K R P (L') P2 L2 (Tn') Ti Tu Tv (C') Z q0 q1 q2 q3 q4 q5) (va_A (wX cA xa ka ra na ia ua va ca za pa qa X K R P L P2 L2 Tn Ti Tu Tv C Z q0 q1 q2 q3 q4 q5) sz)) 0 0 (va_A (wX cA xa ka ra na ia ua va ca za pa qa X K R P L P2 L2 Tn Ti Tu Tv C Z q0 q1 q2 q3 q4 q5) sz) := by
  refine Met.ofW (cc := cX7_go) (maxL := 3) (ret := (some .int)) (by decide) rfl ?_
  intro p e s m args below meth c s₁ B hml hv
  obtain ⟨rfl, hsz, hP, hK, hD0, hN⟩ := hv
  have hx := B.exec
  have hb := B.bytes
  have hr := B.returns
  have hts := atoms_spec (ws := .code yX7_go cX7_go 3 (some .int) :: T0) B.pre
  have hT : ∀ w ∈ T0, w.before _ s = true := fun w h => hts w (List.mem_cons_of_mem _ h)
  have hown : s.vm.findClass RX7 = some m.cls := findClass_of_methodNamed B.named
  have hlocks := B.notSynchronized
  subst hsz
  have hD := hD0.self (sz := s.heap.size)
  generalize hAe : va_A (wX cA xa ka ra na ia ua va ca za pa qa X K R P L P2 L2 Tn Ti Tu Tv C Z q0 q1 q2 q3 q4 q5) s.heap.size = A at hD ⊢
  have hA : ∀ q : Nat, s.heap.size ≤ q → A q := fun q h => by rw [← hAe]; exact Or.inr h
  have hS : va_S A s.heap s.heap [] := va_S.rf
  have hl := lv_entry ([.ref (xa 0), .int x1]) (n := 3) (Nat.le_of_ble_eq_true rfl)
  rw [lg_entry_eq]
  generalize (lg_sl ([.ref (xa 0), .int x1]) ++ List.replicate (3 - (lg_sl ([.ref (xa 0), .int x1])).length) Slot.unset).toArray = ls at hl ⊢
  have hl : lv_has ls 3 [(0, .ref (xa 0)), (1, .int x1)] := hl
  have F : tF p s m ([.ref (xa 0), .int x1] : List Value).toArray meth c G cA A RX7 cX7_go 3 (some .int) := ⟨hx, hb, hr, hml, hT, hown, hlocks, hK, hN, hA⟩
  obtain ⟨H, hH⟩ : ∃ z, z = s.heap := ⟨_, rfl⟩
  rw [← hH] at hP
  have hS : va_S A s.heap H [] := by rw [hH]; exact hS
  suffices hgo : G_X7_go p l e s m below meth c G cA A xa ka ra na ia ua va ca za pa qa X K R P P2 L2 Ti Tu Tv Z q0 q1 q2 q3 q4 q5 x1 r0 L' Tn' C' H [] (F0 m 0 ls []) by rw [hH] at hgo; exact hgo
  generalize ([] : List Loc) = locs at hS ⊢
  unfold f_X7_go at h
  refine lv_iload_n hx hb dX7_go_0 rfl (lv_at hl 1 rfl) ?_
  refine lv_if_lt (tgt := 24) hx hb dX7_go_1 (by decide) (fun c1 => ?_) (fun c1 => ?_)
  · replace h := tx_pos c1 h
    refine lv_iconst (v := (-1)) hx hb dX7_go_24 (by decide) ?_
    obtain ⟨rfl, rfl, rfl, rfl⟩ := tx_4 h
    exact W.iret hx hb hr (fun t ht hW => ⟨⟨_, (), rfl, rfl, by rw [ht]; exact hP, hD⟩, hS.F ht⟩) hS.2.2 dX7_go_25
  · replace h := tx_neg c1 h
    refine lv_iload_n hx hb dX7_go_4 rfl (lv_at hl 1 rfl) ?_
    refine lv_bipush (v := 21) hx hb dX7_go_5 (by decide) ?_
    refine lv_icmp_gt (tgt := 24) hx hb dX7_go_7 (by decide) (fun c2 => ?_) (fun c2 => ?_)
    · replace h := tx_pos c2 h
      refine lv_iconst (v := (-1)) hx hb dX7_go_24 (by decide) ?_
      obtain ⟨rfl, rfl, rfl, rfl⟩ := tx_4 h
      exact W.iret hx hb hr (fun t ht hW => ⟨⟨_, (), rfl, rfl, by rw [ht]; exact hP, hD⟩, hS.F ht⟩) hS.2.2 dX7_go_25
    · replace h := tx_neg c2 h
      refine lv_aload_n hx hb dX7_go_10 rfl (lv_at hl 0 rfl) ?_
      refine va_get (D := G) (ci := 7) (v := .ref (na 0)) (C := RX7) (T := TX7) (N := 12) hx hb hT ku_7 hown hK hP 0 rfl rfl 2 (by decide) (hT _ kw_2_0) (fun _ h9 => h9) rfl dX7_go_11 ?_
      refine va_get (D := G) (ci := 6) (v := .int (Tn 0 0)) (C := RX6) (T := TX6) (N := 20) hx hb hT ku_6 hown hK hP 53 rfl rfl 0 (by decide) (hT _ kw_40_5) (fun _ h9 => h9) rfl dX7_go_14 ?_
      refine lv_iload_n hx hb dX7_go_17 rfl (lv_at hl 1 rfl) ?_
      refine lv_iadd hx hb dX7_go_18 ?_
      refine lv_bipush (v := 21) hx hb dX7_go_19 (by decide) ?_
      refine lv_icmp_le (tgt := 26) hx hb dX7_go_21 (by decide) (fun c3 => ?_) (fun c3 => ?_)
      · replace h := tx_pos c3 h
        refine lv_aload_n hx hb dX7_go_26 rfl (lv_at hl 0 rfl) ?_
        refine va_get (D := G) (ci := 7) (v := .ref (na 0)) (C := RX7) (T := TX7) (N := 12) hx hb hT ku_7 hown hK hP 0 rfl rfl 2 (by decide) (hT _ kw_2_0) (fun _ h9 => h9) rfl dX7_go_27 ?_
        refine lv_iconst (v := 1) hx hb dX7_go_30 (by decide) ?_
        refine va_put (D := G) (ci := 6) (v := .int 1) (ty := .boolean) (C := RX6) (T := TX6) (N := 20) hx hb hT ku_6 tyX6 tyX6_ok nmX6 hown hK hP hD hS 53 rfl rfl 5 (by decide) (hT _ kw_40_6) (fun _ h9 => h9) rfl (by decide +kernel) rfl rfl (Nat.le_of_ble_eq_true rfl) dX7_go_31 (fun H locs hP hD hS => ?_)
        replace h := tx_lt h
        obtain ⟨Tn_4, eTn_4, h⟩ := h
        rw [sX_na_f5, eTn_4] at hP hD
        refine lv_iconst (v := 0) hx hb dX7_go_34 (by decide) ?_
        refine lv_istore_n (lv' := [(2, .int 0), (0, .ref (xa 0)), (1, .int x1)]) hx hb dX7_go_35 rfl hl (by decide) rfl (fun ls hl => ?_)
        exact w_X7_go_L36 F 2000 0 L Tn_4 H locs ls h hP hD hS (lv_sub hl [1, 2, 0] rfl)
      · replace h := tx_neg c3 h
        refine lv_iconst (v := (-1)) hx hb dX7_go_24 (by decide) ?_
        obtain ⟨rfl, rfl, rfl, rfl⟩ := tx_4 h
        exact W.iret hx hb hr (fun t ht hW => ⟨⟨_, (), rfl, rfl, by rw [ht]; exact hP, hD⟩, hS.F ht⟩) hS.2.2 dX7_go_25
abbrev G_X7_isPerson (p : Program) (l : Launch) (e : Env) (s : State) (m : MethodId) (below : List Frame) (meth : Method) (c : Code) (G : va_G) (cA : Nat → ClassId) (A : Nat → Prop) (xa : Nat → Nat) (ka : Nat → Nat) (ra : Nat → Nat) (na : Nat → Nat) (ia : Nat → Nat) (ua : Nat → Nat) (va : Nat → Nat) (ca : Nat → Nat) (za : Nat → Nat) (pa : Nat → Nat) (qa : Nat → Nat) (X : Tr) (K : Tr) (R : Tr) (P : Tr) (L : Lo) (P2 : Tr) (L2 : Lo) (Tn : Tr) (Ti : Tr) (Tu : Tr) (Tv : Tr) (C : Tr) (Z : Tr) (q0 : Nat) (q1 : Nat) (q2 : Nat) (q3 : Nat) (q4 : Nat) (q5 : Nat) (x1 : Int32) (r0 : Int32) (H : Heap) (locs : List Loc) (g : JFrame) : Prop := W p l e (headSpec (.code yX7_isPerson cX7_isPerson 2 (some .boolean) :: T0) ({ frames := 0, cells := 0, slots := 0, locals := 0 } : Room)).room s m ([.ref (xa 0), .int x1] : List Value).toArray below meth c H locs 0 0 (MQ below (tqQi G cA (fun (r : Int32) (_ : Unit) => r = r0) (fun (_ : Unit) => wX cA xa ka ra na ia ua va ca za pa qa X K R P L P2 L2 Tn Ti Tu Tv C Z q0 q1 q2 q3 q4 q5) A) ([.ref (xa 0), .int x1] : List Value).toArray s 0 0 A) g
set_option maxHeartbeats 4000000 in
set_option maxRecDepth 100000 in
theorem c_X7_isPerson (l : Launch) (G : va_G) (cA : Nat → ClassId) (sz : Nat) (xa : Nat → Nat) (ka : Nat → Nat) (ra : Nat → Nat) (na : Nat → Nat) (ia : Nat → Nat) (ua : Nat → Nat) (va : Nat → Nat) (ca : Nat → Nat) (za : Nat → Nat) (pa : Nat → Nat) (qa : Nat → Nat) (X : Tr) (K : Tr) (R : Tr) (P : Tr) (L : Lo) (P2 : Tr) (L2 : Lo) (Tn : Tr) (Ti : Tr) (Tu : Tr) (Tv : Tr) (C : Tr) (Z : Tr) (q0 : Nat) (q1 : Nat) (q2 : Nat) (q3 : Nat) (q4 : Nat) (q5 : Nat) (x1 : Int32)  (r0 : Int32) (h : f_X7_isPerson pa qa P q4 x1 = some r0) : Met l yX7_isPerson (.code yX7_isPerson cX7_isPerson 2 (some .boolean) :: T0) ({ frames := 0, cells := 0, slots := 0, locals := 0 } : Room) (tqP G cA [.ref (xa 0), .int x1] (wX cA xa ka ra na ia ua va ca za pa qa X K R P L P2 L2 Tn Ti Tu Tv C Z q0 q1 q2 q3 q4 q5) sz) (tqQi G cA (fun (r : Int32) (_ : Unit) => r = r0) (fun (_ : Unit) => wX cA xa ka ra na ia ua va ca za pa qa X K R P L P2 L2 Tn Ti Tu Tv C Z q0 q1 q2 q3 q4 q5) (va_A (wX cA xa ka ra na ia ua va ca za pa qa X K R P L P2 L2 Tn Ti Tu Tv C Z q0 q1 q2 q3 q4 q5) sz)) 0 0 (va_A (wX cA xa ka ra na ia ua va ca za pa qa X K R P L P2 L2 Tn Ti Tu Tv C Z q0 q1 q2 q3 q4 q5) sz) := by
  refine Met.ofW (cc := cX7_isPerson) (maxL := 2) (ret := (some .boolean)) (by decide) rfl ?_
  intro p e s m args below meth c s₁ B hml hv
  obtain ⟨rfl, hsz, hP, hK, hD0, hN⟩ := hv
  have hx := B.exec
  have hb := B.bytes
  have hr := B.returns
  have hts := atoms_spec (ws := .code yX7_isPerson cX7_isPerson 2 (some .boolean) :: T0) B.pre
  have hT : ∀ w ∈ T0, w.before _ s = true := fun w h => hts w (List.mem_cons_of_mem _ h)
  have hown : s.vm.findClass RX7 = some m.cls := findClass_of_methodNamed B.named
  have hlocks := B.notSynchronized
  subst hsz
  have hD := hD0.self (sz := s.heap.size)
  generalize hAe : va_A (wX cA xa ka ra na ia ua va ca za pa qa X K R P L P2 L2 Tn Ti Tu Tv C Z q0 q1 q2 q3 q4 q5) s.heap.size = A at hD ⊢
  have hA : ∀ q : Nat, s.heap.size ≤ q → A q := fun q h => by rw [← hAe]; exact Or.inr h
  have hS : va_S A s.heap s.heap [] := va_S.rf
  have hl := lv_entry ([.ref (xa 0), .int x1]) (n := 2) (Nat.le_of_ble_eq_true rfl)
  rw [lg_entry_eq]
  generalize (lg_sl ([.ref (xa 0), .int x1]) ++ List.replicate (2 - (lg_sl ([.ref (xa 0), .int x1])).length) Slot.unset).toArray = ls at hl ⊢
  have hl : lv_has ls 2 [(0, .ref (xa 0)), (1, .int x1)] := hl
  have F : tF p s m ([.ref (xa 0), .int x1] : List Value).toArray meth c G cA A RX7 cX7_isPerson 2 (some .boolean) := ⟨hx, hb, hr, hml, hT, hown, hlocks, hK, hN, hA⟩
  obtain ⟨H, hH⟩ : ∃ z, z = s.heap := ⟨_, rfl⟩
  rw [← hH] at hP
  have hS : va_S A s.heap H [] := by rw [hH]; exact hS
  suffices hgo : G_X7_isPerson p l e s m below meth c G cA A xa ka ra na ia ua va ca za pa qa X K R P L P2 L2 Tn Ti Tu Tv C Z q0 q1 q2 q3 q4 q5 x1 r0 H [] (F0 m 0 ls []) by rw [hH] at hgo; exact hgo
  generalize ([] : List Loc) = locs at hS ⊢
  unfold f_X7_isPerson at h
  refine lv_iload_n hx hb dX7_isPerson_0 rfl (lv_at hl 1 rfl) ?_
  refine lv_if_lt (tgt := 19) hx hb dX7_isPerson_1 (by decide) (fun c1 => ?_) (fun c1 => ?_)
  · replace h := tx_pos c1 h
    refine lv_iconst (v := 0) hx hb dX7_isPerson_19 (by decide) ?_
    obtain rfl := tx_1 h
    exact W.zret (ty := .boolean) hx hb hr rfl (fun t ht hW => ⟨⟨_, (), rfl, rfl, by rw [ht]; exact hP, hD⟩, hS.F ht⟩) hS.2.2 dX7_isPerson_20
  · replace h := tx_neg c1 h
    refine lv_iload_n hx hb dX7_isPerson_4 rfl (lv_at hl 1 rfl) ?_
    refine lv_aload_n hx hb dX7_isPerson_5 rfl (lv_at hl 0 rfl) ?_
    refine va_get (D := G) (ci := 7) (v := .ref q4) (C := RX7) (T := TX7) (N := 12) hx hb hT ku_7 hown hK hP 0 rfl rfl 1 (by decide) (hT _ kw_1_20) (fun _ h9 => h9) rfl dX7_isPerson_6 ?_
    replace h := tx_ck h
    obtain ⟨g2, h⟩ := h
    have eg2 := of_decide_eq_true g2
    subst eg2
    refine va_get (D := G) (ci := 2) (v := .int (P 0 1)) (C := RX2) (T := TX2) (N := 19) hx hb hT ku_2 hown hK hP 9 rfl rfl 1 (by decide) (hT _ kw_29_7) (fun _ h9 => h9) rfl dX7_isPerson_9 ?_
    refine lv_icmp_ge (tgt := 19) hx hb dX7_isPerson_12 (by decide) (fun c3 => ?_) (fun c3 => ?_)
    · replace h := tx_pos c3 h
      refine lv_iconst (v := 0) hx hb dX7_isPerson_19 (by decide) ?_
      obtain rfl := tx_1 h
      exact W.zret (ty := .boolean) hx hb hr rfl (fun t ht hW => ⟨⟨_, (), rfl, rfl, by rw [ht]; exact hP, hD⟩, hS.F ht⟩) hS.2.2 dX7_isPerson_20
    · replace h := tx_neg c3 h
      refine lv_iconst (v := 1) hx hb dX7_isPerson_15 (by decide) ?_
      refine lv_goto (tgt := 20) hx hb dX7_isPerson_16 (by decide) ?_
      obtain rfl := tx_1 h
      exact W.zret (ty := .boolean) hx hb hr rfl (fun t ht hW => ⟨⟨_, (), rfl, rfl, by rw [ht]; exact hP, hD⟩, hS.F ht⟩) hS.2.2 dX7_isPerson_20
abbrev G_X4_judge_x (p : Program) (l : Launch) (e : Env) (s : State) (m : MethodId) (below : List Frame) (meth : Method) (c : Code) (G : va_G) (cA : Nat → ClassId) (A : Nat → Prop) (xa : Nat → Nat) (ka : Nat → Nat) (ra : Nat → Nat) (na : Nat → Nat) (ia : Nat → Nat) (ua : Nat → Nat) (va : Nat → Nat) (ca : Nat → Nat) (za : Nat → Nat) (pa : Nat → Nat) (qa : Nat → Nat) (X : Tr) (K : Tr) (R : Tr) (P : Tr) (L : Lo) (P2 : Tr) (L2 : Lo) (Tn : Tr) (Ti : Tr) (Tu : Tr) (Tv : Tr) (C : Tr) (q0 : Nat) (q1 : Nat) (q2 : Nat) (q3 : Nat) (q4 : Nat) (q5 : Nat) (Z' : Tr) (H : Heap) (locs : List Loc) (g : JFrame) : Prop := W p l e (headSpec (.code yX4_judge cX4_judge 3 none :: T0) ({ frames := 1, cells := 0, slots := 0, locals := 20 } : Room)).room s m ([.ref (za 0)] : List Value).toArray below meth c H locs 0 0 (MQ below (tqQv G cA (fun (_ : Unit) => True) (fun (_ : Unit) => wX cA xa ka ra na ia ua va ca za pa qa X K R P L P2 L2 Tn Ti Tu Tv C (Z') q0 q1 q2 q3 q4 q5) A) ([.ref (za 0)] : List Value).toArray s 0 0 A) g
set_option maxHeartbeats 4000000 in
set_option maxRecDepth 100000 in
theorem w_X4_judge_x_L39 {p : Program} {l : Launch} {e : Env} {s : State} {m : MethodId} {below : List Frame} {meth : Method} {c : Code} {G : va_G} {cA : Nat → ClassId} {A : Nat → Prop} {xa : Nat → Nat} {ka : Nat → Nat} {ra : Nat → Nat} {na : Nat → Nat} {ia : Nat → Nat} {ua : Nat → Nat} {va : Nat → Nat} {ca : Nat → Nat} {za : Nat → Nat} {pa : Nat → Nat} {qa : Nat → Nat} {X : Tr} {K : Tr} {R : Tr} {P : Tr} {L : Lo} {P2 : Tr} {L2 : Lo} {Tn : Tr} {Ti : Tr} {Tu : Tr} {Tv : Tr} {C : Tr} {q0 : Nat} {q1 : Nat} {q2 : Nat} {q3 : Nat} {q4 : Nat} {q5 : Nat} {Z' : Tr} (F : tF p s m ([.ref (za 0)] : List Value).toArray meth c G cA A RX4 cX4_judge 3 none)    (N : Nat) : ∀ (x2 : Int32) (Z : Tr) (H : Heap) (locs : List Loc) (ls : Array Slot), lpF (fun _ _ => none) (fB_X4_judge_x_L39 pa qa) N x2 Z = some Z' → va_P G vwCl (wX cA xa ka ra na ia ua va ca za pa qa X K R P L P2 L2 Tn Ti Tu Tv C Z q0 q1 q2 q3 q4 q5) H → va_D A (wX cA xa ka ra na ia ua va ca za pa qa X K R P L P2 L2 Tn Ti Tu Tv C Z q0 q1 q2 q3 q4 q5) → va_S A s.heap H locs → lv_has ls 3 [(0, .ref (za 0)), (2, .int x2)] → G_X4_judge_x p l e s m below meth c G cA A xa ka ra na ia ua va ca za pa qa X K R P L P2 L2 Tn Ti Tu Tv C q0 q1 q2 q3 q4 q5 Z' H locs (F0 m 39 ls []) := by
  obtain ⟨hx, hb, hr, hml, hT, hown, hlocks, hK, hN, hA⟩ := id F
  induction N with
  | zero =>
    intro x2 Z H locs ls h
    replace h : (none : Option (Tr)) = some Z' := h
    cases h
  | succ N hk39 =>
    intro x2 Z H locs ls h hP hD hS hl
    replace h : fB_X4_judge_x_L39 pa qa (lpF (fun _ _ => none) (fB_X4_judge_x_L39 pa qa) N) x2 Z = some Z' := h
    generalize hk39e : lpF (fun _ _ => none) (fB_X4_judge_x_L39 pa qa) N = k39 at h hk39
    unfold fB_X4_judge_x_L39 at h
    refine lv_iload_n hx hb dX4_judge_39 rfl (lv_at hl 1 rfl) ?_
    refine lv_if_lt (tgt := 80) hx hb dX4_judge_40 (by decide) (fun c6 => ?_) (fun c6 => ?_)
    · replace h := tx_pos c6 h
      obtain rfl := tx_1 h
      exact W.vret hx hb hr (fun t ht hW => ⟨⟨(), rfl, trivial, by rw [ht]; exact hP, hD⟩, hS.F ht⟩) hS.2.2 dX4_judge_80
    · replace h := tx_neg c6 h
      refine lv_aload_n hx hb dX4_judge_43 rfl (lv_at hl 0 rfl) ?_
      refine va_get (D := G) (ci := 4) (v := .ref (za 7)) (C := RX4) (T := TX4) (N := 7) hx hb hT ku_4 hown hK hP 103 rfl rfl 6 (by decide) (hT _ kw_9_5) (fun _ h9 => h9) rfl dX4_judge_44 ?_
      refine lv_iload_n hx hb dX4_judge_47 rfl (lv_at hl 1 rfl) ?_
      replace h := tx_ck h
      obtain ⟨g7, h⟩ := h
      refine va_zald (i := x2) hx hb hK hP 108 1 rfl rfl (tx_in g7) dX4_judge_48 ?_
      refine lv_if_eq (tgt := 74) hx hb dX4_judge_49 (by decide) (fun c8 => ?_) (fun c8 => ?_)
      · replace h := tx_pos c8 h
        replace h := tx_lt h
        obtain ⟨y9, ey9, h⟩ := h
        refine lv_iinc (v := y9) (lv' := [(2, .int y9), (0, .ref (za 0))]) hx hb dX4_judge_74 hl (k := 1) rfl ey9 (by decide) rfl (fun ls hl => ?_)
        refine lv_goto (tgt := 39) hx hb dX4_judge_77 (by decide) ?_
        exact hk39 y9 Z H locs ls h hP hD hS (lv_sub hl [1, 0] rfl)
      · replace h := tx_neg c8 h
        refine lv_aload_n hx hb dX4_judge_52 rfl (lv_at hl 0 rfl) ?_
        refine va_get (D := G) (ci := 4) (v := .ref (za 3)) (C := RX4) (T := TX4) (N := 7) hx hb hT ku_4 hown hK hP 103 rfl rfl 2 (by decide) (hT _ kw_9_0) (fun _ h9 => h9) rfl dX4_judge_53 ?_
        refine lv_iload_n hx hb dX4_judge_56 rfl (lv_at hl 1 rfl) ?_
        refine va_iald (i := x2) hx hb hK hP 104 0 rfl rfl (tx_in g7) dX4_judge_57 ?_
        refine lv_iconst (v := (-1)) hx hb dX4_judge_58 (by decide) ?_
        refine lv_icmp_ne (tgt := 74) hx hb dX4_judge_59 (by decide) (fun c10 => ?_) (fun c10 => ?_)
        · replace h := tx_neg c10 h
          replace h := tx_lt h
          obtain ⟨y11, ey11, h⟩ := h
          refine lv_iinc (v := y11) (lv' := [(2, .int y11), (0, .ref (za 0))]) hx hb dX4_judge_74 hl (k := 1) rfl ey11 (by decide) rfl (fun ls hl => ?_)
          refine lv_goto (tgt := 39) hx hb dX4_judge_77 (by decide) ?_
          exact hk39 y11 Z H locs ls h hP hD hS (lv_sub hl [1, 0] rfl)
        · replace h := tx_pos c10 h
          refine lv_aload_n hx hb dX4_judge_62 rfl (lv_at hl 0 rfl) ?_
          refine va_get (D := G) (ci := 4) (v := .ref (za 7)) (C := RX4) (T := TX4) (N := 7) hx hb hT ku_4 hown hK hP 103 rfl rfl 6 (by decide) (hT _ kw_9_5) (fun _ h9 => h9) rfl dX4_judge_63 ?_
          refine lv_aload_n hx hb dX4_judge_66 rfl (lv_at hl 0 rfl) ?_
          refine va_get (D := G) (ci := 4) (v := .ref (za 4)) (C := RX4) (T := TX4) (N := 7) hx hb hT ku_4 hown hK hP 103 rfl rfl 3 (by decide) (hT _ kw_9_1) (fun _ h9 => h9) rfl dX4_judge_67 ?_
          refine lv_iload_n hx hb dX4_judge_70 rfl (lv_at hl 1 rfl) ?_
          refine va_iald (i := x2) hx hb hK hP 105 0 rfl rfl (tx_in g7) dX4_judge_71 ?_
          refine lv_iconst (v := 0) hx hb dX4_judge_72 (by decide) ?_
          replace h := tx_ck h
          obtain ⟨g12, h⟩ := h
          refine va_zast (i := (Z 4 x2.toNatClampNeg)) hx hb hK hP hD hS 108 1 rfl rfl (tx_in g12) dX4_judge_73 (fun H locs hP hD hS => ?_)
          replace h := tx_lt h
          obtain ⟨Z_13, eZ_13, h⟩ := h
          rw [sX_za_a6, eZ_13] at hP hD
          replace h := tx_lt h
          obtain ⟨y14, ey14, h⟩ := h
          refine lv_iinc (v := y14) (lv' := [(2, .int y14), (0, .ref (za 0))]) hx hb dX4_judge_74 hl (k := 1) rfl ey14 (by decide) rfl (fun ls hl => ?_)
          refine lv_goto (tgt := 39) hx hb dX4_judge_77 (by decide) ?_
          exact hk39 y14 Z_13 H locs ls h hP hD hS (lv_sub hl [1, 0] rfl)
set_option maxHeartbeats 4000000 in
set_option maxRecDepth 100000 in
theorem w_X4_judge_x_J28 {p : Program} {l : Launch} {e : Env} {s : State} {m : MethodId} {below : List Frame} {meth : Method} {c : Code} {G : va_G} {cA : Nat → ClassId} {A : Nat → Prop} {xa : Nat → Nat} {ka : Nat → Nat} {ra : Nat → Nat} {na : Nat → Nat} {ia : Nat → Nat} {ua : Nat → Nat} {va : Nat → Nat} {ca : Nat → Nat} {za : Nat → Nat} {pa : Nat → Nat} {qa : Nat → Nat} {X : Tr} {K : Tr} {R : Tr} {P : Tr} {L : Lo} {P2 : Tr} {L2 : Lo} {Tn : Tr} {Ti : Tr} {Tu : Tr} {Tv : Tr} {C : Tr} {q0 : Nat} {q1 : Nat} {q2 : Nat} {q3 : Nat} {q4 : Nat} {q5 : Nat} {Z' : Tr} {x1 : Int32} (F : tF p s m ([.ref (za 0)] : List Value).toArray meth c G cA A RX4 cX4_judge 3 none)  (k7 : Int32 → Tr → Option (Tr)) (hk7 : ∀ (x2 : Int32) (Z : Tr) (H : Heap) (locs : List Loc) (ls : Array Slot), k7 x2 Z = some Z' → va_P G vwCl (wX cA xa ka ra na ia ua va ca za pa qa X K R P L P2 L2 Tn Ti Tu Tv C Z q0 q1 q2 q3 q4 q5) H → va_D A (wX cA xa ka ra na ia ua va ca za pa qa X K R P L P2 L2 Tn Ti Tu Tv C Z q0 q1 q2 q3 q4 q5) → va_S A s.heap H locs → lv_has ls 3 [(0, .ref (za 0)), (1, .int x1), (2, .int x2)] → G_X4_judge_x p l e s m below meth c G cA A xa ka ra na ia ua va ca za pa qa X K R P L P2 L2 Tn Ti Tu Tv C q0 q1 q2 q3 q4 q5 Z' H locs (F0 m 7 ls [])) (x2 : Int32) (s0 : Int32) (s1 : Int32) (Z : Tr) (H : Heap) (locs : List Loc) (ls : Array Slot) (h : fJ_X4_judge_x_J28 k7 pa qa x1 x2 s0 s1 Z = some Z') (hP : va_P G vwCl (wX cA xa ka ra na ia ua va ca za pa qa X K R P L P2 L2 Tn Ti Tu Tv C Z q0 q1 q2 q3 q4 q5) H) (hD : va_D A (wX cA xa ka ra na ia ua va ca za pa qa X K R P L P2 L2 Tn Ti Tu Tv C Z q0 q1 q2 q3 q4 q5)) (hS : va_S A s.heap H locs) (hl : lv_has ls 3 [(0, .ref (za 0)), (1, .int x1), (2, .int x2)]) : G_X4_judge_x p l e s m below meth c G cA A xa ka ra na ia ua va ca za pa qa X K R P L P2 L2 Tn Ti Tu Tv C q0 q1 q2 q3 q4 q5 Z' H locs (F0 m 28 ls [.int s0, .int s1, .ref (za 7)]) := by
  obtain ⟨hx, hb, hr, hml, hT, hown, hlocks, hK, hN, hA⟩ := id F
  unfold fJ_X4_judge_x_J28 at h
  replace h := tx_ck h
  obtain ⟨g16, h⟩ := h
  refine va_zast (i := s1) hx hb hK hP hD hS 108 1 rfl rfl (tx_in g16) dX4_judge_28 (fun H locs hP hD hS => ?_)
  replace h := tx_lt h
  obtain ⟨Z_17, eZ_17, h⟩ := h
  rw [sX_za_a6, eZ_17] at hP hD
  replace h := tx_lt h
  obtain ⟨y18, ey18, h⟩ := h
  refine lv_iinc (v := y18) (lv' := [(2, .int y18), (0, .ref (za 0)), (1, .int x1)]) hx hb dX4_judge_29 hl (k := 2) rfl ey18 (by decide) rfl (fun ls hl => ?_)
  refine lv_goto (tgt := 7) hx hb dX4_judge_32 (by decide) ?_
  exact hk7 y18 Z_17 H locs ls h hP hD hS (lv_sub hl [1, 2, 0] rfl)
set_option maxHeartbeats 4000000 in
set_option maxRecDepth 100000 in
theorem w_X4_judge_x_L7 {p : Program} {l : Launch} {e : Env} {s : State} {m : MethodId} {below : List Frame} {meth : Method} {c : Code} {G : va_G} {cA : Nat → ClassId} {A : Nat → Prop} {xa : Nat → Nat} {ka : Nat → Nat} {ra : Nat → Nat} {na : Nat → Nat} {ia : Nat → Nat} {ua : Nat → Nat} {va : Nat → Nat} {ca : Nat → Nat} {za : Nat → Nat} {pa : Nat → Nat} {qa : Nat → Nat} {X : Tr} {K : Tr} {R : Tr} {P : Tr} {L : Lo} {P2 : Tr} {L2 : Lo} {Tn : Tr} {Ti : Tr} {Tu : Tr} {Tv : Tr} {C : Tr} {q0 : Nat} {q1 : Nat} {q2 : Nat} {q3 : Nat} {q4 : Nat} {q5 : Nat} {Z' : Tr} {x1 : Int32} (F : tF p s m ([.ref (za 0)] : List Value).toArray meth c G cA A RX4 cX4_judge 3 none)    (N : Nat) : ∀ (x2 : Int32) (Z : Tr) (H : Heap) (locs : List Loc) (ls : Array Slot), lpF (fun _ _ => none) (fB_X4_judge_x_L7 pa qa x1) N x2 Z = some Z' → va_P G vwCl (wX cA xa ka ra na ia ua va ca za pa qa X K R P L P2 L2 Tn Ti Tu Tv C Z q0 q1 q2 q3 q4 q5) H → va_D A (wX cA xa ka ra na ia ua va ca za pa qa X K R P L P2 L2 Tn Ti Tu Tv C Z q0 q1 q2 q3 q4 q5) → va_S A s.heap H locs → lv_has ls 3 [(0, .ref (za 0)), (1, .int x1), (2, .int x2)] → G_X4_judge_x p l e s m below meth c G cA A xa ka ra na ia ua va ca za pa qa X K R P L P2 L2 Tn Ti Tu Tv C q0 q1 q2 q3 q4 q5 Z' H locs (F0 m 7 ls []) := by
  obtain ⟨hx, hb, hr, hml, hT, hown, hlocks, hK, hN, hA⟩ := id F
  induction N with
  | zero =>
    intro x2 Z H locs ls h
    replace h : (none : Option (Tr)) = some Z' := h
    cases h
  | succ N hk7 =>
    intro x2 Z H locs ls h hP hD hS hl
    replace h : fB_X4_judge_x_L7 pa qa x1 (lpF (fun _ _ => none) (fB_X4_judge_x_L7 pa qa x1) N) x2 Z = some Z' := h
    generalize hk7e : lpF (fun _ _ => none) (fB_X4_judge_x_L7 pa qa x1) N = k7 at h hk7
    unfold fB_X4_judge_x_L7 at h
    refine lv_iload_n hx hb dX4_judge_7 rfl (lv_at hl 2 rfl) ?_
    refine lv_bipush (v := 24) hx hb dX4_judge_8 (by decide) ?_
    refine lv_icmp_ge (tgt := 35) hx hb dX4_judge_10 (by decide) (fun c4 => ?_) (fun c4 => ?_)
    · replace h := tx_pos c4 h
      refine lv_iload_n hx hb dX4_judge_35 rfl (lv_at hl 1 rfl) ?_
      refine lv_iconst (v := 1) hx hb dX4_judge_36 (by decide) ?_
      refine lv_isub hx hb dX4_judge_37 ?_
      refine lv_topi (fun y5 ey5 => ?_)
      replace h := tx_let ey5 h
      refine lv_istore_n (lv' := [(2, .int y5), (0, .ref (za 0)), (1, .int x1)]) hx hb dX4_judge_38 rfl hl (by decide) rfl (fun ls hl => ?_)
      exact w_X4_judge_x_L39 F 2000 y5 Z H locs ls h hP hD hS (lv_sub hl [1, 0] rfl)
    · replace h := tx_neg c4 h
      refine lv_aload_n hx hb dX4_judge_13 rfl (lv_at hl 0 rfl) ?_
      refine va_get (D := G) (ci := 4) (v := .ref (za 7)) (C := RX4) (T := TX4) (N := 7) hx hb hT ku_4 hown hK hP 103 rfl rfl 6 (by decide) (hT _ kw_9_5) (fun _ h9 => h9) rfl dX4_judge_14 ?_
      refine lv_iload_n hx hb dX4_judge_17 rfl (lv_at hl 2 rfl) ?_
      refine lv_iload_n hx hb dX4_judge_18 rfl (lv_at hl 2 rfl) ?_
      refine lv_iload_n hx hb dX4_judge_19 rfl (lv_at hl 1 rfl) ?_
      refine lv_icmp_ge (tgt := 27) hx hb dX4_judge_20 (by decide) (fun c15 => ?_) (fun c15 => ?_)
      · replace h := tx_pos c15 h
        refine lv_iconst (v := 0) hx hb dX4_judge_27 (by decide) ?_
        exact w_X4_judge_x_J28 F k7 hk7 x2 0 x2 Z H locs ls h hP hD hS (lv_sub hl [0, 1, 2] rfl)
      · replace h := tx_neg c15 h
        refine lv_iconst (v := 1) hx hb dX4_judge_23 (by decide) ?_
        refine lv_goto (tgt := 28) hx hb dX4_judge_24 (by decide) ?_
        exact w_X4_judge_x_J28 F k7 hk7 x2 1 x2 Z H locs ls h hP hD hS (lv_sub hl [0, 1, 2] rfl)
set_option maxHeartbeats 4000000 in
set_option maxRecDepth 100000 in
theorem c_X4_judge_x (l : Launch) (G : va_G) (cA : Nat → ClassId) (sz : Nat) (xa : Nat → Nat) (ka : Nat → Nat) (ra : Nat → Nat) (na : Nat → Nat) (ia : Nat → Nat) (ua : Nat → Nat) (va : Nat → Nat) (ca : Nat → Nat) (za : Nat → Nat) (pa : Nat → Nat) (qa : Nat → Nat) (X : Tr) (K : Tr) (R : Tr) (P : Tr) (L : Lo) (P2 : Tr) (L2 : Lo) (Tn : Tr) (Ti : Tr) (Tu : Tr) (Tv : Tr) (C : Tr) (Z : Tr) (q0 : Nat) (q1 : Nat) (q2 : Nat) (q3 : Nat) (q4 : Nat) (q5 : Nat)  (Z' : Tr) (h : f_X4_judge_x pa qa Z = some Z') : Met l yX4_judge (.code yX4_judge cX4_judge 3 none :: T0) ({ frames := 1, cells := 0, slots := 0, locals := 20 } : Room) (tqP G cA [.ref (za 0)] (wX cA xa ka ra na ia ua va ca za pa qa X K R P L P2 L2 Tn Ti Tu Tv C Z q0 q1 q2 q3 q4 q5) sz) (tqQv G cA (fun (_ : Unit) => True) (fun (_ : Unit) => wX cA xa ka ra na ia ua va ca za pa qa X K R P L P2 L2 Tn Ti Tu Tv C (Z') q0 q1 q2 q3 q4 q5) (va_A (wX cA xa ka ra na ia ua va ca za pa qa X K R P L P2 L2 Tn Ti Tu Tv C Z q0 q1 q2 q3 q4 q5) sz)) 0 0 (va_A (wX cA xa ka ra na ia ua va ca za pa qa X K R P L P2 L2 Tn Ti Tu Tv C Z q0 q1 q2 q3 q4 q5) sz) := by
  refine Met.ofW (cc := cX4_judge) (maxL := 3) (ret := none) (by decide) rfl ?_
  intro p e s m args below meth c s₁ B hml hv
  obtain ⟨rfl, hsz, hP, hK, hD0, hN⟩ := hv
  have hx := B.exec
  have hb := B.bytes
  have hr := B.returns
  have hts := atoms_spec (ws := .code yX4_judge cX4_judge 3 none :: T0) B.pre
  have hT : ∀ w ∈ T0, w.before _ s = true := fun w h => hts w (List.mem_cons_of_mem _ h)
  have hown : s.vm.findClass RX4 = some m.cls := findClass_of_methodNamed B.named
  have hlocks := B.notSynchronized
  subst hsz
  have hD := hD0.self (sz := s.heap.size)
  generalize hAe : va_A (wX cA xa ka ra na ia ua va ca za pa qa X K R P L P2 L2 Tn Ti Tu Tv C Z q0 q1 q2 q3 q4 q5) s.heap.size = A at hD ⊢
  have hA : ∀ q : Nat, s.heap.size ≤ q → A q := fun q h => by rw [← hAe]; exact Or.inr h
  have hS : va_S A s.heap s.heap [] := va_S.rf
  have hl := lv_entry ([.ref (za 0)]) (n := 3) (Nat.le_of_ble_eq_true rfl)
  rw [lg_entry_eq]
  generalize (lg_sl ([.ref (za 0)]) ++ List.replicate (3 - (lg_sl ([.ref (za 0)])).length) Slot.unset).toArray = ls at hl ⊢
  have hl : lv_has ls 3 [(0, .ref (za 0))] := hl
  have F : tF p s m ([.ref (za 0)] : List Value).toArray meth c G cA A RX4 cX4_judge 3 none := ⟨hx, hb, hr, hml, hT, hown, hlocks, hK, hN, hA⟩
  obtain ⟨H, hH⟩ : ∃ z, z = s.heap := ⟨_, rfl⟩
  rw [← hH] at hP
  have hS : va_S A s.heap H [] := by rw [hH]; exact hS
  suffices hgo : G_X4_judge_x p l e s m below meth c G cA A xa ka ra na ia ua va ca za pa qa X K R P L P2 L2 Tn Ti Tu Tv C q0 q1 q2 q3 q4 q5 Z' H [] (F0 m 0 ls []) by rw [hH] at hgo; exact hgo
  generalize ([] : List Loc) = locs at hS ⊢
  unfold f_X4_judge_x at h
  refine lv_aload_n hx hb dX4_judge_0 rfl (lv_at hl 0 rfl) ?_
  replace h := tx_bd h
  obtain ⟨r1, hc2, h⟩ := h
  refine tz_i (As := []) (rest := []) ⟨hx, hb, hml, hown, hT⟩ hP hD hS hA hK hN (c_X4_regarded_x l G cA H.size xa ka ra na ia ua va ca za pa qa X K R P L P2 L2 Tn Ti Tu Tv C Z q0 q1 q2 q3 q4 q5  r1 hc2) (tq_gV kw_55_15 kw_55_16 kw_55_17 kw_2_11 kw_55_18) rfl rfl dkdV_yX4_regarded_0 (Nat.le_of_ble_eq_true rfl) (Nat.le_of_ble_eq_true rfl) (ci := 4) (q0 := 103) rfl rfl rfl hl.1 rfl (Nat.le_of_ble_eq_true rfl) dX4_judge_1 ⟨Nat.le_of_ble_eq_true rfl, Nat.le_of_ble_eq_true rfl⟩ (fun _ _ H locs z3 hP hD hS => ?_)
  have z3 := z3.symm
  subst z3
  have hP : va_P G vwCl (wX cA xa ka ra na ia ua va ca za pa qa X K R P L P2 L2 Tn Ti Tu Tv C Z q0 q1 q2 q3 q4 q5) H := hP
  have hD : va_D A (wX cA xa ka ra na ia ua va ca za pa qa X K R P L P2 L2 Tn Ti Tu Tv C Z q0 q1 q2 q3 q4 q5) := hD
  refine lv_istore_n (lv' := [(1, .int r1), (0, .ref (za 0))]) hx hb dX4_judge_4 rfl hl (by decide) rfl (fun ls hl => ?_)
  refine lv_iconst (v := 0) hx hb dX4_judge_5 (by decide) ?_
  refine lv_istore_n (lv' := [(2, .int 0), (1, .int r1), (0, .ref (za 0))]) hx hb dX4_judge_6 rfl hl (by decide) rfl (fun ls hl => ?_)
  exact w_X4_judge_x_L7 F 2000 0 Z H locs ls h hP hD hS (lv_sub hl [2, 1, 0] rfl)
abbrev G_X7_got (p : Program) (l : Launch) (e : Env) (s : State) (m : MethodId) (below : List Frame) (meth : Method) (c : Code) (G : va_G) (cA : Nat → ClassId) (A : Nat → Prop) (xa : Nat → Nat) (ka : Nat → Nat) (ra : Nat → Nat) (na : Nat → Nat) (ia : Nat → Nat) (ua : Nat → Nat) (va : Nat → Nat) (ca : Nat → Nat) (za : Nat → Nat) (pa : Nat → Nat) (qa : Nat → Nat) (X : Tr) (K : Tr) (R : Tr) (P : Tr) (P2 : Tr) (L2 : Lo) (Tn : Tr) (Ti : Tr) (Tv : Tr) (C : Tr) (q0 : Nat) (q1 : Nat) (q3 : Nat) (q4 : Nat) (q5 : Nat) (x1 : Int32) (r0 : Int32) (L' : Lo) (Tu' : Tr) (Z' : Tr) (q2' : Nat) (H : Heap) (locs : List Loc) (g : JFrame) : Prop := W p l e (headSpec (.code yX7_got cX7_got 4 (some .int) :: T0) ({ frames := 7, cells := 0, slots := 0, locals := 167 } : Room)).room s m ([.ref (xa 0), .int x1] : List Value).toArray below meth c H locs 0 0 (MQ below (tqQi G cA (fun (r : Int32) (_ : Unit) => r = r0) (fun (_ : Unit) => wX cA xa ka ra na ia ua va ca za pa qa X K R P (L') P2 L2 Tn Ti (Tu') Tv C (Z') q0 q1 (q2') q3 q4 q5) A) ([.ref (xa 0), .int x1] : List Value).toArray s 0 0 A) g
set_option maxHeartbeats 4000000 in
set_option maxRecDepth 100000 in
theorem w_X7_got_L21 {p : Program} {l : Launch} {e : Env} {s : State} {m : MethodId} {below : List Frame} {meth : Method} {c : Code} {G : va_G} {cA : Nat → ClassId} {A : Nat → Prop} {xa : Nat → Nat} {ka : Nat → Nat} {ra : Nat → Nat} {na : Nat → Nat} {ia : Nat → Nat} {ua : Nat → Nat} {va : Nat → Nat} {ca : Nat → Nat} {za : Nat → Nat} {pa : Nat → Nat} {qa : Nat → Nat} {X : Tr} {K : Tr} {R : Tr} {P : Tr} {P2 : Tr} {L2 : Lo} {Tn : Tr} {Ti : Tr} {Tv : Tr} {C : Tr} {q0 : Nat} {q1 : Nat} {q3 : Nat} {q4 : Nat} {q5 : Nat} {x1₀ : Int32} {r0 : Int32} {L' : Lo} {Tu' : Tr} {Z' : Tr} {q2' : Nat} {Z : Tr} {x1 : Int32} (F : tF p s m ([.ref (xa 0), .int x1₀] : List Value).toArray meth c G cA A RX7 cX7_got 4 (some .int))    (N : Nat) : ∀ (x2 : Int32) (x3 : Int32) (L : Lo) (Tu : Tr) (q2 : Nat) (H : Heap) (locs : List Loc) (ls : Array Slot), lpF (fun _ _ _ _ _ => none) (fB_X7_got_L21 pa qa P Z q4 x1) N x2 x3 L Tu q2 = some (r0, L', Tu', Z', q2') → va_P G vwCl (wX cA xa ka ra na ia ua va ca za pa qa X K R P L P2 L2 Tn Ti Tu Tv C Z q0 q1 q2 q3 q4 q5) H → va_D A (wX cA xa ka ra na ia ua va ca za pa qa X K R P L P2 L2 Tn Ti Tu Tv C Z q0 q1 q2 q3 q4 q5) → va_S A s.heap H locs → lv_has ls 4 [(0, .ref (xa 0)), (1, .int x1), (2, .int x2), (3, .int x3)] → G_X7_got p l e s m below meth c G cA A xa ka ra na ia ua va ca za pa qa X K R P P2 L2 Tn Ti Tv C q0 q1 q3 q4 q5 x1₀ r0 L' Tu' Z' q2' H locs (F0 m 21 ls []) := by
  obtain ⟨hx, hb, hr, hml, hT, hown, hlocks, hK, hN, hA⟩ := id F
  induction N with
  | zero =>
    intro x2 x3 L Tu q2 H locs ls h
    replace h : (none : Option (Int32 × Lo × Tr × Tr × Nat)) = some (r0, L', Tu', Z', q2') := h
    cases h
  | succ N hk21 =>
    intro x2 x3 L Tu q2 H locs ls h hP hD hS hl
    replace h : fB_X7_got_L21 pa qa P Z q4 x1 (lpF (fun _ _ _ _ _ => none) (fB_X7_got_L21 pa qa P Z q4 x1) N) x2 x3 L Tu q2 = some (r0, L', Tu', Z', q2') := h
    generalize hk21e : lpF (fun _ _ _ _ _ => none) (fB_X7_got_L21 pa qa P Z q4 x1) N = k21 at h hk21
    unfold fB_X7_got_L21 at h
    refine lv_iload_n hx hb dX7_got_21 rfl (lv_at hl 3 rfl) ?_
    refine lv_aload_n hx hb dX7_got_22 rfl (lv_at hl 0 rfl) ?_
    refine va_get (D := G) (ci := 7) (v := .ref q4) (C := RX7) (T := TX7) (N := 12) hx hb hT ku_7 hown hK hP 0 rfl rfl 1 (by decide) (hT _ kw_1_20) (fun _ h9 => h9) rfl dX7_got_23 ?_
    replace h := tx_ck h
    obtain ⟨g8, h⟩ := h
    have eg8 := of_decide_eq_true g8
    subst eg8
    refine va_get (D := G) (ci := 2) (v := .ref (pa 12)) (C := RX2) (T := TX2) (N := 19) hx hb hT ku_2 hown hK hP 9 rfl rfl 11 (by decide) (hT _ kw_28_23) (fun _ h9 => h9) rfl dX7_got_26 ?_
    refine lv_iload_n hx hb dX7_got_29 rfl (lv_at hl 1 rfl) ?_
    replace h := tx_ck h
    obtain ⟨g9, h⟩ := h
    refine va_iald (i := x1) hx hb hK hP 14 0 rfl rfl (tx_in g9) dX7_got_30 ?_
    refine lv_icmp_ge (tgt := 55) hx hb dX7_got_31 (by decide) (fun c10 => ?_) (fun c10 => ?_)
    · replace h := tx_pos c10 h
      refine lv_iload_n hx hb dX7_got_55 rfl (lv_at hl 2 rfl) ?_
      obtain ⟨rfl, rfl, rfl, rfl, rfl⟩ := tx_5 h
      exact W.iret hx hb hr (fun t ht hW => ⟨⟨_, (), rfl, rfl, by rw [ht]; exact hP, hD⟩, hS.F ht⟩) hS.2.2 dX7_got_56
    · replace h := tx_neg c10 h
      refine lv_aload_n hx hb dX7_got_34 rfl (lv_at hl 0 rfl) ?_
      refine lv_iload_n hx hb dX7_got_35 rfl (lv_at hl 1 rfl) ?_
      refine lv_iload_n hx hb dX7_got_36 rfl (lv_at hl 3 rfl) ?_
      replace h := tx_bd h
      obtain ⟨⟨r11, L_12, Tu_13, q2_14⟩, hc15, h⟩ := h
      replace h := tx_let (y := r11) rfl h
      replace h := tx_let (y := L_12) rfl h
      replace h := tx_let (y := Tu_13) rfl h
      replace h := tx_let (y := q2_14) rfl h
      refine tz_i (As := [.int x1, .int x3]) (rest := []) ⟨hx, hb, hml, hown, hT⟩ hP hD hS hA hK hN (c_X7_agreesIfIn l G cA H.size xa ka ra na ia ua va ca za pa qa X K R P L P2 L2 Tn Ti Tu Tv C Z q0 q1 q2 q3 (pa 0) q5 x1 x3  r11 L_12 Tu_13 q2_14 hc15) (tq_gV kw_55_19 kw_55_20 kw_55_21 kw_1_2 kw_55_22) rfl rfl dkdV_yX7_agreesIfIn_2 (Nat.le_of_ble_eq_true rfl) (Nat.le_of_ble_eq_true rfl) (ci := 7) (q0 := 0) rfl rfl rfl hl.1 rfl (Nat.le_of_ble_eq_true rfl) dX7_got_37 ⟨Nat.le_of_ble_eq_true rfl, Nat.le_of_ble_eq_true rfl⟩ (fun _ _ H locs z16 hP hD hS => ?_)
      have z16 := z16.symm
      subst z16
      have hP : va_P G vwCl (wX cA xa ka ra na ia ua va ca za pa qa X K R P L_12 P2 L2 Tn Ti Tu_13 Tv C Z q0 q1 q2_14 q3 (pa 0) q5) H := hP
      have hD : va_D A (wX cA xa ka ra na ia ua va ca za pa qa X K R P L_12 P2 L2 Tn Ti Tu_13 Tv C Z q0 q1 q2_14 q3 (pa 0) q5) := hD
      refine lv_if_eq (tgt := 49) hx hb dX7_got_40 (by decide) (fun c17 => ?_) (fun c17 => ?_)
      · replace h := tx_pos c17 h
        replace h := tx_lt h
        obtain ⟨y18, ey18, h⟩ := h
        refine lv_iinc (v := y18) (lv' := [(3, .int y18), (0, .ref (xa 0)), (1, .int x1), (2, .int x2)]) hx hb dX7_got_49 hl (k := 3) rfl ey18 (by decide) rfl (fun ls hl => ?_)
        refine lv_goto (tgt := 21) hx hb dX7_got_52 (by decide) ?_
        exact hk21 x2 y18 L_12 Tu_13 q2_14 H locs ls h hP hD hS (lv_sub hl [1, 2, 3, 0] rfl)
      · replace h := tx_neg c17 h
        refine lv_iload_n hx hb dX7_got_43 rfl (lv_at hl 2 rfl) ?_
        refine lv_iconst (v := 1) hx hb dX7_got_44 (by decide) ?_
        refine lv_iload_n hx hb dX7_got_45 rfl (lv_at hl 3 rfl) ?_
        refine lv_ishl hx hb dX7_got_46 ?_
        refine lv_ior hx hb dX7_got_47 ?_
        refine lv_topi (fun y19 ey19 => ?_)
        replace h := tx_let ey19 h
        refine lv_istore_n (lv' := [(2, .int y19), (0, .ref (xa 0)), (1, .int x1), (3, .int x3)]) hx hb dX7_got_48 rfl hl (by decide) rfl (fun ls hl => ?_)
        replace h := tx_lt h
        obtain ⟨y20, ey20, h⟩ := h
        refine lv_iinc (v := y20) (lv' := [(3, .int y20), (2, .int y19), (0, .ref (xa 0)), (1, .int x1)]) hx hb dX7_got_49 hl (k := 3) rfl ey20 (by decide) rfl (fun ls hl => ?_)
        refine lv_goto (tgt := 21) hx hb dX7_got_52 (by decide) ?_
        exact hk21 y19 y20 L_12 Tu_13 q2_14 H locs ls h hP hD hS (lv_sub hl [2, 3, 1, 0] rfl)
set_option maxHeartbeats 4000000 in
set_option maxRecDepth 100000 in
theorem c_X7_got (l : Launch) (G : va_G) (cA : Nat → ClassId) (sz : Nat) (xa : Nat → Nat) (ka : Nat → Nat) (ra : Nat → Nat) (na : Nat → Nat) (ia : Nat → Nat) (ua : Nat → Nat) (va : Nat → Nat) (ca : Nat → Nat) (za : Nat → Nat) (pa : Nat → Nat) (qa : Nat → Nat) (X : Tr) (K : Tr) (R : Tr) (P : Tr) (L : Lo) (P2 : Tr) (L2 : Lo) (Tn : Tr) (Ti : Tr) (Tu : Tr) (Tv : Tr) (C : Tr) (Z : Tr) (q0 : Nat) (q1 : Nat) (q2 : Nat) (q3 : Nat) (q4 : Nat) (q5 : Nat) (x1 : Int32)  (r0 : Int32) (L' : Lo) (Tu' : Tr) (Z' : Tr) (q2' : Nat) (h : f_X7_got pa qa P L Tu Z q2 q4 x1 = some (r0, L', Tu', Z', q2')) : Met l yX7_got (.code yX7_got cX7_got 4 (some .int) :: T0) ({ frames := 7, cells := 0, slots := 0, locals := 167 } : Room) (tqP G cA [.ref (xa 0), .int x1] (wX cA xa ka ra na ia ua va ca za pa qa X K R P L P2 L2 Tn Ti Tu Tv C Z q0 q1 q2 q3 q4 q5) sz) (tqQi G cA (fun (r : Int32) (_ : Unit) => r = r0) (fun (_ : Unit) => wX cA xa ka ra na ia ua va ca za pa qa X K R P (L') P2 L2 Tn Ti (Tu') Tv C (Z') q0 q1 (q2') q3 q4 q5) (va_A (wX cA xa ka ra na ia ua va ca za pa qa X K R P L P2 L2 Tn Ti Tu Tv C Z q0 q1 q2 q3 q4 q5) sz)) 0 0 (va_A (wX cA xa ka ra na ia ua va ca za pa qa X K R P L P2 L2 Tn Ti Tu Tv C Z q0 q1 q2 q3 q4 q5) sz) := by
  refine Met.ofW (cc := cX7_got) (maxL := 4) (ret := (some .int)) (by decide) rfl ?_
  intro p e s m args below meth c s₁ B hml hv
  obtain ⟨rfl, hsz, hP, hK, hD0, hN⟩ := hv
  have hx := B.exec
  have hb := B.bytes
  have hr := B.returns
  have hts := atoms_spec (ws := .code yX7_got cX7_got 4 (some .int) :: T0) B.pre
  have hT : ∀ w ∈ T0, w.before _ s = true := fun w h => hts w (List.mem_cons_of_mem _ h)
  have hown : s.vm.findClass RX7 = some m.cls := findClass_of_methodNamed B.named
  have hlocks := B.notSynchronized
  subst hsz
  have hD := hD0.self (sz := s.heap.size)
  generalize hAe : va_A (wX cA xa ka ra na ia ua va ca za pa qa X K R P L P2 L2 Tn Ti Tu Tv C Z q0 q1 q2 q3 q4 q5) s.heap.size = A at hD ⊢
  have hA : ∀ q : Nat, s.heap.size ≤ q → A q := fun q h => by rw [← hAe]; exact Or.inr h
  have hS : va_S A s.heap s.heap [] := va_S.rf
  have hl := lv_entry ([.ref (xa 0), .int x1]) (n := 4) (Nat.le_of_ble_eq_true rfl)
  rw [lg_entry_eq]
  generalize (lg_sl ([.ref (xa 0), .int x1]) ++ List.replicate (4 - (lg_sl ([.ref (xa 0), .int x1])).length) Slot.unset).toArray = ls at hl ⊢
  have hl : lv_has ls 4 [(0, .ref (xa 0)), (1, .int x1)] := hl
  have F : tF p s m ([.ref (xa 0), .int x1] : List Value).toArray meth c G cA A RX7 cX7_got 4 (some .int) := ⟨hx, hb, hr, hml, hT, hown, hlocks, hK, hN, hA⟩
  obtain ⟨H, hH⟩ : ∃ z, z = s.heap := ⟨_, rfl⟩
  rw [← hH] at hP
  have hS : va_S A s.heap H [] := by rw [hH]; exact hS
  suffices hgo : G_X7_got p l e s m below meth c G cA A xa ka ra na ia ua va ca za pa qa X K R P P2 L2 Tn Ti Tv C q0 q1 q3 q4 q5 x1 r0 L' Tu' Z' q2' H [] (F0 m 0 ls []) by rw [hH] at hgo; exact hgo
  generalize ([] : List Loc) = locs at hS ⊢
  unfold f_X7_got at h
  refine lv_aload_n hx hb dX7_got_0 rfl (lv_at hl 0 rfl) ?_
  refine lv_iload_n hx hb dX7_got_1 rfl (lv_at hl 1 rfl) ?_
  replace h := tx_bd h
  obtain ⟨r1, hc2, h⟩ := h
  refine tz_i (As := [.int x1]) (rest := []) ⟨hx, hb, hml, hown, hT⟩ hP hD hS hA hK hN (c_X7_isPerson l G cA H.size xa ka ra na ia ua va ca za pa qa X K R P L P2 L2 Tn Ti Tu Tv C Z q0 q1 q2 q3 q4 q5 x1  r1 hc2) (tq_gV kw_29_3 kw_29_4 kw_29_5 kw_1_2 kw_29_6) rfl rfl dkdV_yX7_isPerson_1 (Nat.le_of_ble_eq_true rfl) (Nat.le_of_ble_eq_true rfl) (ci := 7) (q0 := 0) rfl rfl rfl hl.1 rfl (Nat.le_of_ble_eq_true rfl) dX7_got_2 ⟨Nat.le_of_ble_eq_true rfl, Nat.le_of_ble_eq_true rfl⟩ (fun _ _ H locs z3 hP hD hS => ?_)
  have z3 := z3.symm
  subst z3
  have hP : va_P G vwCl (wX cA xa ka ra na ia ua va ca za pa qa X K R P L P2 L2 Tn Ti Tu Tv C Z q0 q1 q2 q3 q4 q5) H := hP
  have hD : va_D A (wX cA xa ka ra na ia ua va ca za pa qa X K R P L P2 L2 Tn Ti Tu Tv C Z q0 q1 q2 q3 q4 q5) := hD
  refine lv_if_ne (tgt := 10) hx hb dX7_got_5 (by decide) (fun c4 => ?_) (fun c4 => ?_)
  · replace h := tx_neg c4 h
    refine lv_aload_n hx hb dX7_got_10 rfl (lv_at hl 0 rfl) ?_
    refine va_get (D := G) (ci := 7) (v := .ref (za 0)) (C := RX7) (T := TX7) (N := 12) hx hb hT ku_7 hown hK hP 0 rfl rfl 8 (by decide) (hT _ kw_2_12) (fun _ h9 => h9) rfl dX7_got_11 ?_
    replace h := tx_bd h
    obtain ⟨Z_5, hc6, h⟩ := h
    refine tz_v (As := []) (rest := []) ⟨hx, hb, hml, hown, hT⟩ hP hD hS hA hK hN (c_X4_judge_x l G cA H.size xa ka ra na ia ua va ca za pa qa X K R P L P2 L2 Tn Ti Tu Tv C Z q0 q1 q2 q3 q4 q5  Z_5 hc6) (tq_gV kw_55_11 kw_55_12 kw_55_13 kw_2_11 kw_55_14) rfl rfl dkdV_yX4_judge_0 (Nat.le_of_ble_eq_true rfl) (Nat.le_of_ble_eq_true rfl) (ci := 4) (q0 := 103) rfl rfl rfl hl.1 rfl (Nat.le_of_ble_eq_true rfl) dX7_got_14 ⟨Nat.le_of_ble_eq_true rfl, Nat.le_of_ble_eq_true rfl⟩ (fun _ H locs z7 hP hD hS => ?_)
    have hP : va_P G vwCl (wX cA xa ka ra na ia ua va ca za pa qa X K R P L P2 L2 Tn Ti Tu Tv C Z_5 q0 q1 q2 q3 q4 q5) H := hP
    have hD : va_D A (wX cA xa ka ra na ia ua va ca za pa qa X K R P L P2 L2 Tn Ti Tu Tv C Z_5 q0 q1 q2 q3 q4 q5) := hD
    refine lv_iconst (v := 0) hx hb dX7_got_17 (by decide) ?_
    refine lv_istore_n (lv' := [(2, .int 0), (0, .ref (xa 0)), (1, .int x1)]) hx hb dX7_got_18 rfl hl (by decide) rfl (fun ls hl => ?_)
    refine lv_iconst (v := 0) hx hb dX7_got_19 (by decide) ?_
    refine lv_istore_n (lv' := [(3, .int 0), (2, .int 0), (0, .ref (xa 0)), (1, .int x1)]) hx hb dX7_got_20 rfl hl (by decide) rfl (fun ls hl => ?_)
    exact w_X7_got_L21 F 2000 0 0 L Tu q2 H locs ls h hP hD hS (lv_sub hl [2, 3, 1, 0] rfl)
  · replace h := tx_pos c4 h
    refine lv_iconst (v := (-1)) hx hb dX7_got_8 (by decide) ?_
    obtain ⟨rfl, rfl, rfl, rfl, rfl⟩ := tx_5 h
    exact W.iret hx hb hr (fun t ht hW => ⟨⟨_, (), rfl, rfl, by rw [ht]; exact hP, hD⟩, hS.F ht⟩) hS.2.2 dX7_got_9
abbrev G_X0_saveRow_x_na16 (p : Program) (l : Launch) (e : Env) (s : State) (m : MethodId) (below : List Frame) (meth : Method) (c : Code) (G : va_G) (cA : Nat → ClassId) (A : Nat → Prop) (xa : Nat → Nat) (ka : Nat → Nat) (ra : Nat → Nat) (na : Nat → Nat) (ia : Nat → Nat) (ua : Nat → Nat) (va : Nat → Nat) (ca : Nat → Nat) (za : Nat → Nat) (pa : Nat → Nat) (qa : Nat → Nat) (X : Tr) (K : Tr) (R : Tr) (P : Tr) (L : Lo) (P2 : Tr) (L2 : Lo) (Tn : Tr) (Ti : Tr) (Tu : Tr) (Tv : Tr) (Z : Tr) (q0 : Nat) (q1 : Nat) (q2 : Nat) (q3 : Nat) (q4 : Nat) (q5 : Nat) (x2 : Int32) (r0 : Int32) (C' : Tr) (H : Heap) (locs : List Loc) (g : JFrame) : Prop := W p l e (headSpec (.code yX0_saveRow cX0_saveRow 3 (some .int) :: T0) ({ frames := 1, cells := 0, slots := 0, locals := 40 } : Room)).room s m ([.ref (ca 0), .ref (na 16), .int x2] : List Value).toArray below meth c H locs 0 0 (MQ below (tqQi G cA (fun (r : Int32) (_ : Unit) => r = r0) (fun (_ : Unit) => wX cA xa ka ra na ia ua va ca za pa qa X K R P L P2 L2 Tn Ti Tu Tv (C') Z q0 q1 q2 q3 q4 q5) A) ([.ref (ca 0), .ref (na 16), .int x2] : List Value).toArray s 0 0 A) g
set_option maxHeartbeats 4000000 in
set_option maxRecDepth 100000 in
theorem c_X0_saveRow_x_na16 (l : Launch) (G : va_G) (cA : Nat → ClassId) (sz : Nat) (xa : Nat → Nat) (ka : Nat → Nat) (ra : Nat → Nat) (na : Nat → Nat) (ia : Nat → Nat) (ua : Nat → Nat) (va : Nat → Nat) (ca : Nat → Nat) (za : Nat → Nat) (pa : Nat → Nat) (qa : Nat → Nat) (X : Tr) (K : Tr) (R : Tr) (P : Tr) (L : Lo) (P2 : Tr) (L2 : Lo) (Tn : Tr) (Ti : Tr) (Tu : Tr) (Tv : Tr) (C : Tr) (Z : Tr) (q0 : Nat) (q1 : Nat) (q2 : Nat) (q3 : Nat) (q4 : Nat) (q5 : Nat) (x2 : Int32)  (r0 : Int32) (C' : Tr) (h : f_X0_saveRow_x_na16 pa qa Tn C x2 = some (r0, C')) : Met l yX0_saveRow (.code yX0_saveRow cX0_saveRow 3 (some .int) :: T0) ({ frames := 1, cells := 0, slots := 0, locals := 40 } : Room) (tqP G cA [.ref (ca 0), .ref (na 16), .int x2] (wX cA xa ka ra na ia ua va ca za pa qa X K R P L P2 L2 Tn Ti Tu Tv C Z q0 q1 q2 q3 q4 q5) sz) (tqQi G cA (fun (r : Int32) (_ : Unit) => r = r0) (fun (_ : Unit) => wX cA xa ka ra na ia ua va ca za pa qa X K R P L P2 L2 Tn Ti Tu Tv (C') Z q0 q1 q2 q3 q4 q5) (va_A (wX cA xa ka ra na ia ua va ca za pa qa X K R P L P2 L2 Tn Ti Tu Tv C Z q0 q1 q2 q3 q4 q5) sz)) 0 0 (va_A (wX cA xa ka ra na ia ua va ca za pa qa X K R P L P2 L2 Tn Ti Tu Tv C Z q0 q1 q2 q3 q4 q5) sz) := by
  refine Met.ofW (cc := cX0_saveRow) (maxL := 3) (ret := (some .int)) (by decide) rfl ?_
  intro p e s m args below meth c s₁ B hml hv
  obtain ⟨rfl, hsz, hP, hK, hD0, hN⟩ := hv
  have hx := B.exec
  have hb := B.bytes
  have hr := B.returns
  have hts := atoms_spec (ws := .code yX0_saveRow cX0_saveRow 3 (some .int) :: T0) B.pre
  have hT : ∀ w ∈ T0, w.before _ s = true := fun w h => hts w (List.mem_cons_of_mem _ h)
  have hown : s.vm.findClass RX0 = some m.cls := findClass_of_methodNamed B.named
  have hlocks := B.notSynchronized
  subst hsz
  have hD := hD0.self (sz := s.heap.size)
  generalize hAe : va_A (wX cA xa ka ra na ia ua va ca za pa qa X K R P L P2 L2 Tn Ti Tu Tv C Z q0 q1 q2 q3 q4 q5) s.heap.size = A at hD ⊢
  have hA : ∀ q : Nat, s.heap.size ≤ q → A q := fun q h => by rw [← hAe]; exact Or.inr h
  have hS : va_S A s.heap s.heap [] := va_S.rf
  have hl := lv_entry ([.ref (ca 0), .ref (na 16), .int x2]) (n := 3) (Nat.le_of_ble_eq_true rfl)
  rw [lg_entry_eq]
  generalize (lg_sl ([.ref (ca 0), .ref (na 16), .int x2]) ++ List.replicate (3 - (lg_sl ([.ref (ca 0), .ref (na 16), .int x2])).length) Slot.unset).toArray = ls at hl ⊢
  have hl : lv_has ls 3 [(0, .ref (ca 0)), (1, .ref (na 16)), (2, .int x2)] := hl
  have F : tF p s m ([.ref (ca 0), .ref (na 16), .int x2] : List Value).toArray meth c G cA A RX0 cX0_saveRow 3 (some .int) := ⟨hx, hb, hr, hml, hT, hown, hlocks, hK, hN, hA⟩
  obtain ⟨H, hH⟩ : ∃ z, z = s.heap := ⟨_, rfl⟩
  rw [← hH] at hP
  have hS : va_S A s.heap H [] := by rw [hH]; exact hS
  suffices hgo : G_X0_saveRow_x_na16 p l e s m below meth c G cA A xa ka ra na ia ua va ca za pa qa X K R P L P2 L2 Tn Ti Tu Tv Z q0 q1 q2 q3 q4 q5 x2 r0 C' H [] (F0 m 0 ls []) by rw [hH] at hgo; exact hgo
  generalize ([] : List Loc) = locs at hS ⊢
  unfold f_X0_saveRow_x_na16 at h
  refine lv_aload_n hx hb dX0_saveRow_0 rfl (lv_at hl 1 rfl) ?_
  refine lv_iconst (v := 0) hx hb dX0_saveRow_1 (by decide) ?_
  refine lv_aload_n hx hb dX0_saveRow_2 rfl (lv_at hl 0 rfl) ?_
  refine va_get (D := G) (ci := 0) (v := .ref (ca 3)) (C := RX0) (T := TX0) (N := 3) hx hb hT ku_0 hown hK hP 101 rfl rfl 2 (by decide) (hT _ kw_8_18) (fun _ h9 => h9) rfl dX0_saveRow_3 ?_
  refine lv_iload_n hx hb dX0_saveRow_6 rfl (lv_at hl 2 rfl) ?_
  refine lv_aload_n hx hb dX0_saveRow_7 rfl (lv_at hl 1 rfl) ?_
  refine va_alen (v := 50) hx hb hK hP 61 0 rfl rfl (show Int32.ofNat 50 = 50 from by decide) dX0_saveRow_8 ?_
  replace h := tx_ck h
  obtain ⟨g1, h⟩ := h
  refine va_copyi (ty := .int) (sp := 0) (dp := x2) (n := 50) hx hb (hml.trans hl.1.symm) hown (hT _ kw_36_14) (hT _ kw_36_15) (hT _ kw_36_16) (hT _ kw_36_17) hK hP hD hS 61 102 0 0 rfl rfl rfl rfl rfl (tx_cp g1).1 (tx_cp g1).2.1 (tx_cp g1).2.2.1 (tx_cp g1).2.2.2.1 (tx_cp g1).2.2.2.2 (fun _ _ => rfl) (Nat.le_of_ble_eq_true rfl) (by decide) dX0_saveRow_9 (fun H locs hP hD hS => ?_)
  try rw [show (0 : Int32).toNatClampNeg = 0 from rfl] at hP hD
  try rw [show (50 : Int32).toNatClampNeg = 50 from rfl] at hP hD
  replace h := tx_lt h
  obtain ⟨C_2, eC_2, h⟩ := h
  rw [sX_ca_c2, eC_2] at hP hD
  refine lv_iload_n hx hb dX0_saveRow_12 rfl (lv_at hl 2 rfl) ?_
  refine lv_aload_n hx hb dX0_saveRow_13 rfl (lv_at hl 1 rfl) ?_
  refine va_alen (v := 50) hx hb hK hP 61 0 rfl rfl (show Int32.ofNat 50 = 50 from by decide) dX0_saveRow_14 ?_
  refine lv_iadd hx hb dX0_saveRow_15 ?_
  obtain ⟨rfl, rfl⟩ := tx_2 h
  exact W.iret hx hb hr (fun t ht hW => ⟨⟨_, (), rfl, rfl, by rw [ht]; exact hP, hD⟩, hS.F ht⟩) hS.2.2 dX0_saveRow_16
abbrev G_X0_saveRow_x_na17 (p : Program) (l : Launch) (e : Env) (s : State) (m : MethodId) (below : List Frame) (meth : Method) (c : Code) (G : va_G) (cA : Nat → ClassId) (A : Nat → Prop) (xa : Nat → Nat) (ka : Nat → Nat) (ra : Nat → Nat) (na : Nat → Nat) (ia : Nat → Nat) (ua : Nat → Nat) (va : Nat → Nat) (ca : Nat → Nat) (za : Nat → Nat) (pa : Nat → Nat) (qa : Nat → Nat) (X : Tr) (K : Tr) (R : Tr) (P : Tr) (L : Lo) (P2 : Tr) (L2 : Lo) (Tn : Tr) (Ti : Tr) (Tu : Tr) (Tv : Tr) (Z : Tr) (q0 : Nat) (q1 : Nat) (q2 : Nat) (q3 : Nat) (q4 : Nat) (q5 : Nat) (x2 : Int32) (r0 : Int32) (C' : Tr) (H : Heap) (locs : List Loc) (g : JFrame) : Prop := W p l e (headSpec (.code yX0_saveRow cX0_saveRow 3 (some .int) :: T0) ({ frames := 1, cells := 0, slots := 0, locals := 40 } : Room)).room s m ([.ref (ca 0), .ref (na 17), .int x2] : List Value).toArray below meth c H locs 0 0 (MQ below (tqQi G cA (fun (r : Int32) (_ : Unit) => r = r0) (fun (_ : Unit) => wX cA xa ka ra na ia ua va ca za pa qa X K R P L P2 L2 Tn Ti Tu Tv (C') Z q0 q1 q2 q3 q4 q5) A) ([.ref (ca 0), .ref (na 17), .int x2] : List Value).toArray s 0 0 A) g
set_option maxHeartbeats 4000000 in
set_option maxRecDepth 100000 in
theorem c_X0_saveRow_x_na17 (l : Launch) (G : va_G) (cA : Nat → ClassId) (sz : Nat) (xa : Nat → Nat) (ka : Nat → Nat) (ra : Nat → Nat) (na : Nat → Nat) (ia : Nat → Nat) (ua : Nat → Nat) (va : Nat → Nat) (ca : Nat → Nat) (za : Nat → Nat) (pa : Nat → Nat) (qa : Nat → Nat) (X : Tr) (K : Tr) (R : Tr) (P : Tr) (L : Lo) (P2 : Tr) (L2 : Lo) (Tn : Tr) (Ti : Tr) (Tu : Tr) (Tv : Tr) (C : Tr) (Z : Tr) (q0 : Nat) (q1 : Nat) (q2 : Nat) (q3 : Nat) (q4 : Nat) (q5 : Nat) (x2 : Int32)  (r0 : Int32) (C' : Tr) (h : f_X0_saveRow_x_na17 pa qa Tn C x2 = some (r0, C')) : Met l yX0_saveRow (.code yX0_saveRow cX0_saveRow 3 (some .int) :: T0) ({ frames := 1, cells := 0, slots := 0, locals := 40 } : Room) (tqP G cA [.ref (ca 0), .ref (na 17), .int x2] (wX cA xa ka ra na ia ua va ca za pa qa X K R P L P2 L2 Tn Ti Tu Tv C Z q0 q1 q2 q3 q4 q5) sz) (tqQi G cA (fun (r : Int32) (_ : Unit) => r = r0) (fun (_ : Unit) => wX cA xa ka ra na ia ua va ca za pa qa X K R P L P2 L2 Tn Ti Tu Tv (C') Z q0 q1 q2 q3 q4 q5) (va_A (wX cA xa ka ra na ia ua va ca za pa qa X K R P L P2 L2 Tn Ti Tu Tv C Z q0 q1 q2 q3 q4 q5) sz)) 0 0 (va_A (wX cA xa ka ra na ia ua va ca za pa qa X K R P L P2 L2 Tn Ti Tu Tv C Z q0 q1 q2 q3 q4 q5) sz) := by
  refine Met.ofW (cc := cX0_saveRow) (maxL := 3) (ret := (some .int)) (by decide) rfl ?_
  intro p e s m args below meth c s₁ B hml hv
  obtain ⟨rfl, hsz, hP, hK, hD0, hN⟩ := hv
  have hx := B.exec
  have hb := B.bytes
  have hr := B.returns
  have hts := atoms_spec (ws := .code yX0_saveRow cX0_saveRow 3 (some .int) :: T0) B.pre
  have hT : ∀ w ∈ T0, w.before _ s = true := fun w h => hts w (List.mem_cons_of_mem _ h)
  have hown : s.vm.findClass RX0 = some m.cls := findClass_of_methodNamed B.named
  have hlocks := B.notSynchronized
  subst hsz
  have hD := hD0.self (sz := s.heap.size)
  generalize hAe : va_A (wX cA xa ka ra na ia ua va ca za pa qa X K R P L P2 L2 Tn Ti Tu Tv C Z q0 q1 q2 q3 q4 q5) s.heap.size = A at hD ⊢
  have hA : ∀ q : Nat, s.heap.size ≤ q → A q := fun q h => by rw [← hAe]; exact Or.inr h
  have hS : va_S A s.heap s.heap [] := va_S.rf
  have hl := lv_entry ([.ref (ca 0), .ref (na 17), .int x2]) (n := 3) (Nat.le_of_ble_eq_true rfl)
  rw [lg_entry_eq]
  generalize (lg_sl ([.ref (ca 0), .ref (na 17), .int x2]) ++ List.replicate (3 - (lg_sl ([.ref (ca 0), .ref (na 17), .int x2])).length) Slot.unset).toArray = ls at hl ⊢
  have hl : lv_has ls 3 [(0, .ref (ca 0)), (1, .ref (na 17)), (2, .int x2)] := hl
  have F : tF p s m ([.ref (ca 0), .ref (na 17), .int x2] : List Value).toArray meth c G cA A RX0 cX0_saveRow 3 (some .int) := ⟨hx, hb, hr, hml, hT, hown, hlocks, hK, hN, hA⟩
  obtain ⟨H, hH⟩ : ∃ z, z = s.heap := ⟨_, rfl⟩
  rw [← hH] at hP
  have hS : va_S A s.heap H [] := by rw [hH]; exact hS
  suffices hgo : G_X0_saveRow_x_na17 p l e s m below meth c G cA A xa ka ra na ia ua va ca za pa qa X K R P L P2 L2 Tn Ti Tu Tv Z q0 q1 q2 q3 q4 q5 x2 r0 C' H [] (F0 m 0 ls []) by rw [hH] at hgo; exact hgo
  generalize ([] : List Loc) = locs at hS ⊢
  unfold f_X0_saveRow_x_na17 at h
  refine lv_aload_n hx hb dX0_saveRow_0 rfl (lv_at hl 1 rfl) ?_
  refine lv_iconst (v := 0) hx hb dX0_saveRow_1 (by decide) ?_
  refine lv_aload_n hx hb dX0_saveRow_2 rfl (lv_at hl 0 rfl) ?_
  refine va_get (D := G) (ci := 0) (v := .ref (ca 3)) (C := RX0) (T := TX0) (N := 3) hx hb hT ku_0 hown hK hP 101 rfl rfl 2 (by decide) (hT _ kw_8_18) (fun _ h9 => h9) rfl dX0_saveRow_3 ?_
  refine lv_iload_n hx hb dX0_saveRow_6 rfl (lv_at hl 2 rfl) ?_
  refine lv_aload_n hx hb dX0_saveRow_7 rfl (lv_at hl 1 rfl) ?_
  refine va_alen (v := 5) hx hb hK hP 62 0 rfl rfl (show Int32.ofNat 5 = 5 from by decide) dX0_saveRow_8 ?_
  replace h := tx_ck h
  obtain ⟨g1, h⟩ := h
  refine va_copyi (ty := .int) (sp := 0) (dp := x2) (n := 5) hx hb (hml.trans hl.1.symm) hown (hT _ kw_36_14) (hT _ kw_36_15) (hT _ kw_36_16) (hT _ kw_36_17) hK hP hD hS 62 102 0 0 rfl rfl rfl rfl rfl (tx_cp g1).1 (tx_cp g1).2.1 (tx_cp g1).2.2.1 (tx_cp g1).2.2.2.1 (tx_cp g1).2.2.2.2 (fun _ _ => rfl) (Nat.le_of_ble_eq_true rfl) (by decide) dX0_saveRow_9 (fun H locs hP hD hS => ?_)
  try rw [show (0 : Int32).toNatClampNeg = 0 from rfl] at hP hD
  try rw [show (5 : Int32).toNatClampNeg = 5 from rfl] at hP hD
  replace h := tx_lt h
  obtain ⟨C_2, eC_2, h⟩ := h
  rw [sX_ca_c2, eC_2] at hP hD
  refine lv_iload_n hx hb dX0_saveRow_12 rfl (lv_at hl 2 rfl) ?_
  refine lv_aload_n hx hb dX0_saveRow_13 rfl (lv_at hl 1 rfl) ?_
  refine va_alen (v := 5) hx hb hK hP 62 0 rfl rfl (show Int32.ofNat 5 = 5 from by decide) dX0_saveRow_14 ?_
  refine lv_iadd hx hb dX0_saveRow_15 ?_
  obtain ⟨rfl, rfl⟩ := tx_2 h
  exact W.iret hx hb hr (fun t ht hW => ⟨⟨_, (), rfl, rfl, by rw [ht]; exact hP, hD⟩, hS.F ht⟩) hS.2.2 dX0_saveRow_16
abbrev G_X0_saveRow_x_na18 (p : Program) (l : Launch) (e : Env) (s : State) (m : MethodId) (below : List Frame) (meth : Method) (c : Code) (G : va_G) (cA : Nat → ClassId) (A : Nat → Prop) (xa : Nat → Nat) (ka : Nat → Nat) (ra : Nat → Nat) (na : Nat → Nat) (ia : Nat → Nat) (ua : Nat → Nat) (va : Nat → Nat) (ca : Nat → Nat) (za : Nat → Nat) (pa : Nat → Nat) (qa : Nat → Nat) (X : Tr) (K : Tr) (R : Tr) (P : Tr) (L : Lo) (P2 : Tr) (L2 : Lo) (Tn : Tr) (Ti : Tr) (Tu : Tr) (Tv : Tr) (Z : Tr) (q0 : Nat) (q1 : Nat) (q2 : Nat) (q3 : Nat) (q4 : Nat) (q5 : Nat) (x2 : Int32) (r0 : Int32) (C' : Tr) (H : Heap) (locs : List Loc) (g : JFrame) : Prop := W p l e (headSpec (.code yX0_saveRow cX0_saveRow 3 (some .int) :: T0) ({ frames := 1, cells := 0, slots := 0, locals := 40 } : Room)).room s m ([.ref (ca 0), .ref (na 18), .int x2] : List Value).toArray below meth c H locs 0 0 (MQ below (tqQi G cA (fun (r : Int32) (_ : Unit) => r = r0) (fun (_ : Unit) => wX cA xa ka ra na ia ua va ca za pa qa X K R P L P2 L2 Tn Ti Tu Tv (C') Z q0 q1 q2 q3 q4 q5) A) ([.ref (ca 0), .ref (na 18), .int x2] : List Value).toArray s 0 0 A) g
set_option maxHeartbeats 4000000 in
set_option maxRecDepth 100000 in
theorem c_X0_saveRow_x_na18 (l : Launch) (G : va_G) (cA : Nat → ClassId) (sz : Nat) (xa : Nat → Nat) (ka : Nat → Nat) (ra : Nat → Nat) (na : Nat → Nat) (ia : Nat → Nat) (ua : Nat → Nat) (va : Nat → Nat) (ca : Nat → Nat) (za : Nat → Nat) (pa : Nat → Nat) (qa : Nat → Nat) (X : Tr) (K : Tr) (R : Tr) (P : Tr) (L : Lo) (P2 : Tr) (L2 : Lo) (Tn : Tr) (Ti : Tr) (Tu : Tr) (Tv : Tr) (C : Tr) (Z : Tr) (q0 : Nat) (q1 : Nat) (q2 : Nat) (q3 : Nat) (q4 : Nat) (q5 : Nat) (x2 : Int32)  (r0 : Int32) (C' : Tr) (h : f_X0_saveRow_x_na18 pa qa Tn C x2 = some (r0, C')) : Met l yX0_saveRow (.code yX0_saveRow cX0_saveRow 3 (some .int) :: T0) ({ frames := 1, cells := 0, slots := 0, locals := 40 } : Room) (tqP G cA [.ref (ca 0), .ref (na 18), .int x2] (wX cA xa ka ra na ia ua va ca za pa qa X K R P L P2 L2 Tn Ti Tu Tv C Z q0 q1 q2 q3 q4 q5) sz) (tqQi G cA (fun (r : Int32) (_ : Unit) => r = r0) (fun (_ : Unit) => wX cA xa ka ra na ia ua va ca za pa qa X K R P L P2 L2 Tn Ti Tu Tv (C') Z q0 q1 q2 q3 q4 q5) (va_A (wX cA xa ka ra na ia ua va ca za pa qa X K R P L P2 L2 Tn Ti Tu Tv C Z q0 q1 q2 q3 q4 q5) sz)) 0 0 (va_A (wX cA xa ka ra na ia ua va ca za pa qa X K R P L P2 L2 Tn Ti Tu Tv C Z q0 q1 q2 q3 q4 q5) sz) := by
  refine Met.ofW (cc := cX0_saveRow) (maxL := 3) (ret := (some .int)) (by decide) rfl ?_
  intro p e s m args below meth c s₁ B hml hv
  obtain ⟨rfl, hsz, hP, hK, hD0, hN⟩ := hv
  have hx := B.exec
  have hb := B.bytes
  have hr := B.returns
  have hts := atoms_spec (ws := .code yX0_saveRow cX0_saveRow 3 (some .int) :: T0) B.pre
  have hT : ∀ w ∈ T0, w.before _ s = true := fun w h => hts w (List.mem_cons_of_mem _ h)
  have hown : s.vm.findClass RX0 = some m.cls := findClass_of_methodNamed B.named
  have hlocks := B.notSynchronized
  subst hsz
  have hD := hD0.self (sz := s.heap.size)
  generalize hAe : va_A (wX cA xa ka ra na ia ua va ca za pa qa X K R P L P2 L2 Tn Ti Tu Tv C Z q0 q1 q2 q3 q4 q5) s.heap.size = A at hD ⊢
  have hA : ∀ q : Nat, s.heap.size ≤ q → A q := fun q h => by rw [← hAe]; exact Or.inr h
  have hS : va_S A s.heap s.heap [] := va_S.rf
  have hl := lv_entry ([.ref (ca 0), .ref (na 18), .int x2]) (n := 3) (Nat.le_of_ble_eq_true rfl)
  rw [lg_entry_eq]
  generalize (lg_sl ([.ref (ca 0), .ref (na 18), .int x2]) ++ List.replicate (3 - (lg_sl ([.ref (ca 0), .ref (na 18), .int x2])).length) Slot.unset).toArray = ls at hl ⊢
  have hl : lv_has ls 3 [(0, .ref (ca 0)), (1, .ref (na 18)), (2, .int x2)] := hl
  have F : tF p s m ([.ref (ca 0), .ref (na 18), .int x2] : List Value).toArray meth c G cA A RX0 cX0_saveRow 3 (some .int) := ⟨hx, hb, hr, hml, hT, hown, hlocks, hK, hN, hA⟩
  obtain ⟨H, hH⟩ : ∃ z, z = s.heap := ⟨_, rfl⟩
  rw [← hH] at hP
  have hS : va_S A s.heap H [] := by rw [hH]; exact hS
  suffices hgo : G_X0_saveRow_x_na18 p l e s m below meth c G cA A xa ka ra na ia ua va ca za pa qa X K R P L P2 L2 Tn Ti Tu Tv Z q0 q1 q2 q3 q4 q5 x2 r0 C' H [] (F0 m 0 ls []) by rw [hH] at hgo; exact hgo
  generalize ([] : List Loc) = locs at hS ⊢
  unfold f_X0_saveRow_x_na18 at h
  refine lv_aload_n hx hb dX0_saveRow_0 rfl (lv_at hl 1 rfl) ?_
  refine lv_iconst (v := 0) hx hb dX0_saveRow_1 (by decide) ?_
  refine lv_aload_n hx hb dX0_saveRow_2 rfl (lv_at hl 0 rfl) ?_
  refine va_get (D := G) (ci := 0) (v := .ref (ca 3)) (C := RX0) (T := TX0) (N := 3) hx hb hT ku_0 hown hK hP 101 rfl rfl 2 (by decide) (hT _ kw_8_18) (fun _ h9 => h9) rfl dX0_saveRow_3 ?_
  refine lv_iload_n hx hb dX0_saveRow_6 rfl (lv_at hl 2 rfl) ?_
  refine lv_aload_n hx hb dX0_saveRow_7 rfl (lv_at hl 1 rfl) ?_
  refine va_alen (v := 5) hx hb hK hP 63 0 rfl rfl (show Int32.ofNat 5 = 5 from by decide) dX0_saveRow_8 ?_
  replace h := tx_ck h
  obtain ⟨g1, h⟩ := h
  refine va_copyi (ty := .int) (sp := 0) (dp := x2) (n := 5) hx hb (hml.trans hl.1.symm) hown (hT _ kw_36_14) (hT _ kw_36_15) (hT _ kw_36_16) (hT _ kw_36_17) hK hP hD hS 63 102 0 0 rfl rfl rfl rfl rfl (tx_cp g1).1 (tx_cp g1).2.1 (tx_cp g1).2.2.1 (tx_cp g1).2.2.2.1 (tx_cp g1).2.2.2.2 (fun _ _ => rfl) (Nat.le_of_ble_eq_true rfl) (by decide) dX0_saveRow_9 (fun H locs hP hD hS => ?_)
  try rw [show (0 : Int32).toNatClampNeg = 0 from rfl] at hP hD
  try rw [show (5 : Int32).toNatClampNeg = 5 from rfl] at hP hD
  replace h := tx_lt h
  obtain ⟨C_2, eC_2, h⟩ := h
  rw [sX_ca_c2, eC_2] at hP hD
  refine lv_iload_n hx hb dX0_saveRow_12 rfl (lv_at hl 2 rfl) ?_
  refine lv_aload_n hx hb dX0_saveRow_13 rfl (lv_at hl 1 rfl) ?_
  refine va_alen (v := 5) hx hb hK hP 63 0 rfl rfl (show Int32.ofNat 5 = 5 from by decide) dX0_saveRow_14 ?_
  refine lv_iadd hx hb dX0_saveRow_15 ?_
  obtain ⟨rfl, rfl⟩ := tx_2 h
  exact W.iret hx hb hr (fun t ht hW => ⟨⟨_, (), rfl, rfl, by rw [ht]; exact hP, hD⟩, hS.F ht⟩) hS.2.2 dX0_saveRow_16
abbrev G_X0_saveRow_x_na15 (p : Program) (l : Launch) (e : Env) (s : State) (m : MethodId) (below : List Frame) (meth : Method) (c : Code) (G : va_G) (cA : Nat → ClassId) (A : Nat → Prop) (xa : Nat → Nat) (ka : Nat → Nat) (ra : Nat → Nat) (na : Nat → Nat) (ia : Nat → Nat) (ua : Nat → Nat) (va : Nat → Nat) (ca : Nat → Nat) (za : Nat → Nat) (pa : Nat → Nat) (qa : Nat → Nat) (X : Tr) (K : Tr) (R : Tr) (P : Tr) (L : Lo) (P2 : Tr) (L2 : Lo) (Tn : Tr) (Ti : Tr) (Tu : Tr) (Tv : Tr) (Z : Tr) (q0 : Nat) (q1 : Nat) (q2 : Nat) (q3 : Nat) (q4 : Nat) (q5 : Nat) (x2 : Int32) (r0 : Int32) (C' : Tr) (H : Heap) (locs : List Loc) (g : JFrame) : Prop := W p l e (headSpec (.code yX0_saveRow cX0_saveRow 3 (some .int) :: T0) ({ frames := 1, cells := 0, slots := 0, locals := 40 } : Room)).room s m ([.ref (ca 0), .ref (na 15), .int x2] : List Value).toArray below meth c H locs 0 0 (MQ below (tqQi G cA (fun (r : Int32) (_ : Unit) => r = r0) (fun (_ : Unit) => wX cA xa ka ra na ia ua va ca za pa qa X K R P L P2 L2 Tn Ti Tu Tv (C') Z q0 q1 q2 q3 q4 q5) A) ([.ref (ca 0), .ref (na 15), .int x2] : List Value).toArray s 0 0 A) g
set_option maxHeartbeats 4000000 in
set_option maxRecDepth 100000 in
theorem c_X0_saveRow_x_na15 (l : Launch) (G : va_G) (cA : Nat → ClassId) (sz : Nat) (xa : Nat → Nat) (ka : Nat → Nat) (ra : Nat → Nat) (na : Nat → Nat) (ia : Nat → Nat) (ua : Nat → Nat) (va : Nat → Nat) (ca : Nat → Nat) (za : Nat → Nat) (pa : Nat → Nat) (qa : Nat → Nat) (X : Tr) (K : Tr) (R : Tr) (P : Tr) (L : Lo) (P2 : Tr) (L2 : Lo) (Tn : Tr) (Ti : Tr) (Tu : Tr) (Tv : Tr) (C : Tr) (Z : Tr) (q0 : Nat) (q1 : Nat) (q2 : Nat) (q3 : Nat) (q4 : Nat) (q5 : Nat) (x2 : Int32)  (r0 : Int32) (C' : Tr) (h : f_X0_saveRow_x_na15 pa qa Tn C x2 = some (r0, C')) : Met l yX0_saveRow (.code yX0_saveRow cX0_saveRow 3 (some .int) :: T0) ({ frames := 1, cells := 0, slots := 0, locals := 40 } : Room) (tqP G cA [.ref (ca 0), .ref (na 15), .int x2] (wX cA xa ka ra na ia ua va ca za pa qa X K R P L P2 L2 Tn Ti Tu Tv C Z q0 q1 q2 q3 q4 q5) sz) (tqQi G cA (fun (r : Int32) (_ : Unit) => r = r0) (fun (_ : Unit) => wX cA xa ka ra na ia ua va ca za pa qa X K R P L P2 L2 Tn Ti Tu Tv (C') Z q0 q1 q2 q3 q4 q5) (va_A (wX cA xa ka ra na ia ua va ca za pa qa X K R P L P2 L2 Tn Ti Tu Tv C Z q0 q1 q2 q3 q4 q5) sz)) 0 0 (va_A (wX cA xa ka ra na ia ua va ca za pa qa X K R P L P2 L2 Tn Ti Tu Tv C Z q0 q1 q2 q3 q4 q5) sz) := by
  refine Met.ofW (cc := cX0_saveRow) (maxL := 3) (ret := (some .int)) (by decide) rfl ?_
  intro p e s m args below meth c s₁ B hml hv
  obtain ⟨rfl, hsz, hP, hK, hD0, hN⟩ := hv
  have hx := B.exec
  have hb := B.bytes
  have hr := B.returns
  have hts := atoms_spec (ws := .code yX0_saveRow cX0_saveRow 3 (some .int) :: T0) B.pre
  have hT : ∀ w ∈ T0, w.before _ s = true := fun w h => hts w (List.mem_cons_of_mem _ h)
  have hown : s.vm.findClass RX0 = some m.cls := findClass_of_methodNamed B.named
  have hlocks := B.notSynchronized
  subst hsz
  have hD := hD0.self (sz := s.heap.size)
  generalize hAe : va_A (wX cA xa ka ra na ia ua va ca za pa qa X K R P L P2 L2 Tn Ti Tu Tv C Z q0 q1 q2 q3 q4 q5) s.heap.size = A at hD ⊢
  have hA : ∀ q : Nat, s.heap.size ≤ q → A q := fun q h => by rw [← hAe]; exact Or.inr h
  have hS : va_S A s.heap s.heap [] := va_S.rf
  have hl := lv_entry ([.ref (ca 0), .ref (na 15), .int x2]) (n := 3) (Nat.le_of_ble_eq_true rfl)
  rw [lg_entry_eq]
  generalize (lg_sl ([.ref (ca 0), .ref (na 15), .int x2]) ++ List.replicate (3 - (lg_sl ([.ref (ca 0), .ref (na 15), .int x2])).length) Slot.unset).toArray = ls at hl ⊢
  have hl : lv_has ls 3 [(0, .ref (ca 0)), (1, .ref (na 15)), (2, .int x2)] := hl
  have F : tF p s m ([.ref (ca 0), .ref (na 15), .int x2] : List Value).toArray meth c G cA A RX0 cX0_saveRow 3 (some .int) := ⟨hx, hb, hr, hml, hT, hown, hlocks, hK, hN, hA⟩
  obtain ⟨H, hH⟩ : ∃ z, z = s.heap := ⟨_, rfl⟩
  rw [← hH] at hP
  have hS : va_S A s.heap H [] := by rw [hH]; exact hS
  suffices hgo : G_X0_saveRow_x_na15 p l e s m below meth c G cA A xa ka ra na ia ua va ca za pa qa X K R P L P2 L2 Tn Ti Tu Tv Z q0 q1 q2 q3 q4 q5 x2 r0 C' H [] (F0 m 0 ls []) by rw [hH] at hgo; exact hgo
  generalize ([] : List Loc) = locs at hS ⊢
  unfold f_X0_saveRow_x_na15 at h
  refine lv_aload_n hx hb dX0_saveRow_0 rfl (lv_at hl 1 rfl) ?_
  refine lv_iconst (v := 0) hx hb dX0_saveRow_1 (by decide) ?_
  refine lv_aload_n hx hb dX0_saveRow_2 rfl (lv_at hl 0 rfl) ?_
  refine va_get (D := G) (ci := 0) (v := .ref (ca 3)) (C := RX0) (T := TX0) (N := 3) hx hb hT ku_0 hown hK hP 101 rfl rfl 2 (by decide) (hT _ kw_8_18) (fun _ h9 => h9) rfl dX0_saveRow_3 ?_
  refine lv_iload_n hx hb dX0_saveRow_6 rfl (lv_at hl 2 rfl) ?_
  refine lv_aload_n hx hb dX0_saveRow_7 rfl (lv_at hl 1 rfl) ?_
  refine va_alen (v := 10) hx hb hK hP 60 0 rfl rfl (show Int32.ofNat 10 = 10 from by decide) dX0_saveRow_8 ?_
  replace h := tx_ck h
  obtain ⟨g1, h⟩ := h
  refine va_copyi (ty := .int) (sp := 0) (dp := x2) (n := 10) hx hb (hml.trans hl.1.symm) hown (hT _ kw_36_14) (hT _ kw_36_15) (hT _ kw_36_16) (hT _ kw_36_17) hK hP hD hS 60 102 0 0 rfl rfl rfl rfl rfl (tx_cp g1).1 (tx_cp g1).2.1 (tx_cp g1).2.2.1 (tx_cp g1).2.2.2.1 (tx_cp g1).2.2.2.2 (fun _ _ => rfl) (Nat.le_of_ble_eq_true rfl) (by decide) dX0_saveRow_9 (fun H locs hP hD hS => ?_)
  try rw [show (0 : Int32).toNatClampNeg = 0 from rfl] at hP hD
  try rw [show (10 : Int32).toNatClampNeg = 10 from rfl] at hP hD
  replace h := tx_lt h
  obtain ⟨C_2, eC_2, h⟩ := h
  rw [sX_ca_c2, eC_2] at hP hD
  refine lv_iload_n hx hb dX0_saveRow_12 rfl (lv_at hl 2 rfl) ?_
  refine lv_aload_n hx hb dX0_saveRow_13 rfl (lv_at hl 1 rfl) ?_
  refine va_alen (v := 10) hx hb hK hP 60 0 rfl rfl (show Int32.ofNat 10 = 10 from by decide) dX0_saveRow_14 ?_
  refine lv_iadd hx hb dX0_saveRow_15 ?_
  obtain ⟨rfl, rfl⟩ := tx_2 h
  exact W.iret hx hb hr (fun t ht hW => ⟨⟨_, (), rfl, rfl, by rw [ht]; exact hP, hD⟩, hS.F ht⟩) hS.2.2 dX0_saveRow_16
abbrev G_X0_saveRow_x_na10 (p : Program) (l : Launch) (e : Env) (s : State) (m : MethodId) (below : List Frame) (meth : Method) (c : Code) (G : va_G) (cA : Nat → ClassId) (A : Nat → Prop) (xa : Nat → Nat) (ka : Nat → Nat) (ra : Nat → Nat) (na : Nat → Nat) (ia : Nat → Nat) (ua : Nat → Nat) (va : Nat → Nat) (ca : Nat → Nat) (za : Nat → Nat) (pa : Nat → Nat) (qa : Nat → Nat) (X : Tr) (K : Tr) (R : Tr) (P : Tr) (L : Lo) (P2 : Tr) (L2 : Lo) (Tn : Tr) (Ti : Tr) (Tu : Tr) (Tv : Tr) (Z : Tr) (q0 : Nat) (q1 : Nat) (q2 : Nat) (q3 : Nat) (q4 : Nat) (q5 : Nat) (x2 : Int32) (r0 : Int32) (C' : Tr) (H : Heap) (locs : List Loc) (g : JFrame) : Prop := W p l e (headSpec (.code yX0_saveRow cX0_saveRow 3 (some .int) :: T0) ({ frames := 1, cells := 0, slots := 0, locals := 40 } : Room)).room s m ([.ref (ca 0), .ref (na 10), .int x2] : List Value).toArray below meth c H locs 0 0 (MQ below (tqQi G cA (fun (r : Int32) (_ : Unit) => r = r0) (fun (_ : Unit) => wX cA xa ka ra na ia ua va ca za pa qa X K R P L P2 L2 Tn Ti Tu Tv (C') Z q0 q1 q2 q3 q4 q5) A) ([.ref (ca 0), .ref (na 10), .int x2] : List Value).toArray s 0 0 A) g
set_option maxHeartbeats 4000000 in
set_option maxRecDepth 100000 in
theorem c_X0_saveRow_x_na10 (l : Launch) (G : va_G) (cA : Nat → ClassId) (sz : Nat) (xa : Nat → Nat) (ka : Nat → Nat) (ra : Nat → Nat) (na : Nat → Nat) (ia : Nat → Nat) (ua : Nat → Nat) (va : Nat → Nat) (ca : Nat → Nat) (za : Nat → Nat) (pa : Nat → Nat) (qa : Nat → Nat) (X : Tr) (K : Tr) (R : Tr) (P : Tr) (L : Lo) (P2 : Tr) (L2 : Lo) (Tn : Tr) (Ti : Tr) (Tu : Tr) (Tv : Tr) (C : Tr) (Z : Tr) (q0 : Nat) (q1 : Nat) (q2 : Nat) (q3 : Nat) (q4 : Nat) (q5 : Nat) (x2 : Int32)  (r0 : Int32) (C' : Tr) (h : f_X0_saveRow_x_na10 pa qa Tn C x2 = some (r0, C')) : Met l yX0_saveRow (.code yX0_saveRow cX0_saveRow 3 (some .int) :: T0) ({ frames := 1, cells := 0, slots := 0, locals := 40 } : Room) (tqP G cA [.ref (ca 0), .ref (na 10), .int x2] (wX cA xa ka ra na ia ua va ca za pa qa X K R P L P2 L2 Tn Ti Tu Tv C Z q0 q1 q2 q3 q4 q5) sz) (tqQi G cA (fun (r : Int32) (_ : Unit) => r = r0) (fun (_ : Unit) => wX cA xa ka ra na ia ua va ca za pa qa X K R P L P2 L2 Tn Ti Tu Tv (C') Z q0 q1 q2 q3 q4 q5) (va_A (wX cA xa ka ra na ia ua va ca za pa qa X K R P L P2 L2 Tn Ti Tu Tv C Z q0 q1 q2 q3 q4 q5) sz)) 0 0 (va_A (wX cA xa ka ra na ia ua va ca za pa qa X K R P L P2 L2 Tn Ti Tu Tv C Z q0 q1 q2 q3 q4 q5) sz) := by
  refine Met.ofW (cc := cX0_saveRow) (maxL := 3) (ret := (some .int)) (by decide) rfl ?_
  intro p e s m args below meth c s₁ B hml hv
  obtain ⟨rfl, hsz, hP, hK, hD0, hN⟩ := hv
  have hx := B.exec
  have hb := B.bytes
  have hr := B.returns
  have hts := atoms_spec (ws := .code yX0_saveRow cX0_saveRow 3 (some .int) :: T0) B.pre
  have hT : ∀ w ∈ T0, w.before _ s = true := fun w h => hts w (List.mem_cons_of_mem _ h)
  have hown : s.vm.findClass RX0 = some m.cls := findClass_of_methodNamed B.named
  have hlocks := B.notSynchronized
  subst hsz
  have hD := hD0.self (sz := s.heap.size)
  generalize hAe : va_A (wX cA xa ka ra na ia ua va ca za pa qa X K R P L P2 L2 Tn Ti Tu Tv C Z q0 q1 q2 q3 q4 q5) s.heap.size = A at hD ⊢
  have hA : ∀ q : Nat, s.heap.size ≤ q → A q := fun q h => by rw [← hAe]; exact Or.inr h
  have hS : va_S A s.heap s.heap [] := va_S.rf
  have hl := lv_entry ([.ref (ca 0), .ref (na 10), .int x2]) (n := 3) (Nat.le_of_ble_eq_true rfl)
  rw [lg_entry_eq]
  generalize (lg_sl ([.ref (ca 0), .ref (na 10), .int x2]) ++ List.replicate (3 - (lg_sl ([.ref (ca 0), .ref (na 10), .int x2])).length) Slot.unset).toArray = ls at hl ⊢
  have hl : lv_has ls 3 [(0, .ref (ca 0)), (1, .ref (na 10)), (2, .int x2)] := hl
  have F : tF p s m ([.ref (ca 0), .ref (na 10), .int x2] : List Value).toArray meth c G cA A RX0 cX0_saveRow 3 (some .int) := ⟨hx, hb, hr, hml, hT, hown, hlocks, hK, hN, hA⟩
  obtain ⟨H, hH⟩ : ∃ z, z = s.heap := ⟨_, rfl⟩
  rw [← hH] at hP
  have hS : va_S A s.heap H [] := by rw [hH]; exact hS
  suffices hgo : G_X0_saveRow_x_na10 p l e s m below meth c G cA A xa ka ra na ia ua va ca za pa qa X K R P L P2 L2 Tn Ti Tu Tv Z q0 q1 q2 q3 q4 q5 x2 r0 C' H [] (F0 m 0 ls []) by rw [hH] at hgo; exact hgo
  generalize ([] : List Loc) = locs at hS ⊢
  unfold f_X0_saveRow_x_na10 at h
  refine lv_aload_n hx hb dX0_saveRow_0 rfl (lv_at hl 1 rfl) ?_
  refine lv_iconst (v := 0) hx hb dX0_saveRow_1 (by decide) ?_
  refine lv_aload_n hx hb dX0_saveRow_2 rfl (lv_at hl 0 rfl) ?_
  refine va_get (D := G) (ci := 0) (v := .ref (ca 3)) (C := RX0) (T := TX0) (N := 3) hx hb hT ku_0 hown hK hP 101 rfl rfl 2 (by decide) (hT _ kw_8_18) (fun _ h9 => h9) rfl dX0_saveRow_3 ?_
  refine lv_iload_n hx hb dX0_saveRow_6 rfl (lv_at hl 2 rfl) ?_
  refine lv_aload_n hx hb dX0_saveRow_7 rfl (lv_at hl 1 rfl) ?_
  refine va_alen (v := 6) hx hb hK hP 55 0 rfl rfl (show Int32.ofNat 6 = 6 from by decide) dX0_saveRow_8 ?_
  replace h := tx_ck h
  obtain ⟨g1, h⟩ := h
  refine va_copyi (ty := .int) (sp := 0) (dp := x2) (n := 6) hx hb (hml.trans hl.1.symm) hown (hT _ kw_36_14) (hT _ kw_36_15) (hT _ kw_36_16) (hT _ kw_36_17) hK hP hD hS 55 102 0 0 rfl rfl rfl rfl rfl (tx_cp g1).1 (tx_cp g1).2.1 (tx_cp g1).2.2.1 (tx_cp g1).2.2.2.1 (tx_cp g1).2.2.2.2 (fun _ _ => rfl) (Nat.le_of_ble_eq_true rfl) (by decide) dX0_saveRow_9 (fun H locs hP hD hS => ?_)
  try rw [show (0 : Int32).toNatClampNeg = 0 from rfl] at hP hD
  try rw [show (6 : Int32).toNatClampNeg = 6 from rfl] at hP hD
  replace h := tx_lt h
  obtain ⟨C_2, eC_2, h⟩ := h
  rw [sX_ca_c2, eC_2] at hP hD
  refine lv_iload_n hx hb dX0_saveRow_12 rfl (lv_at hl 2 rfl) ?_
  refine lv_aload_n hx hb dX0_saveRow_13 rfl (lv_at hl 1 rfl) ?_
  refine va_alen (v := 6) hx hb hK hP 55 0 rfl rfl (show Int32.ofNat 6 = 6 from by decide) dX0_saveRow_14 ?_
  refine lv_iadd hx hb dX0_saveRow_15 ?_
  obtain ⟨rfl, rfl⟩ := tx_2 h
  exact W.iret hx hb hr (fun t ht hW => ⟨⟨_, (), rfl, rfl, by rw [ht]; exact hP, hD⟩, hS.F ht⟩) hS.2.2 dX0_saveRow_16
abbrev G_X0_save_x_na0 (p : Program) (l : Launch) (e : Env) (s : State) (m : MethodId) (below : List Frame) (meth : Method) (c : Code) (G : va_G) (cA : Nat → ClassId) (A : Nat → Prop) (xa : Nat → Nat) (ka : Nat → Nat) (ra : Nat → Nat) (na : Nat → Nat) (ia : Nat → Nat) (ua : Nat → Nat) (va : Nat → Nat) (ca : Nat → Nat) (za : Nat → Nat) (pa : Nat → Nat) (qa : Nat → Nat) (X : Tr) (K : Tr) (R : Tr) (P : Tr) (L : Lo) (P2 : Tr) (L2 : Lo) (Tn : Tr) (Ti : Tr) (Tu : Tr) (Tv : Tr) (Z : Tr) (q0 : Nat) (q1 : Nat) (q2 : Nat) (q3 : Nat) (q4 : Nat) (q5 : Nat) (C' : Tr) (H : Heap) (locs : List Loc) (g : JFrame) : Prop := W p l e (headSpec (.code yX0_save cX0_save 3 none :: T0) ({ frames := 2, cells := 0, slots := 0, locals := 62 } : Room)).room s m ([.ref (ca 0), .ref (na 0)] : List Value).toArray below meth c H locs 0 0 (MQ below (tqQv G cA (fun (_ : Unit) => True) (fun (_ : Unit) => wX cA xa ka ra na ia ua va ca za pa qa X K R P L P2 L2 Tn Ti Tu Tv (C') Z q0 q1 q2 q3 q4 q5) A) ([.ref (ca 0), .ref (na 0)] : List Value).toArray s 0 0 A) g
set_option maxHeartbeats 4000000 in
set_option maxRecDepth 100000 in
theorem w_X0_save_x_na0_J92 {p : Program} {l : Launch} {e : Env} {s : State} {m : MethodId} {below : List Frame} {meth : Method} {c : Code} {G : va_G} {cA : Nat → ClassId} {A : Nat → Prop} {xa : Nat → Nat} {ka : Nat → Nat} {ra : Nat → Nat} {na : Nat → Nat} {ia : Nat → Nat} {ua : Nat → Nat} {va : Nat → Nat} {ca : Nat → Nat} {za : Nat → Nat} {pa : Nat → Nat} {qa : Nat → Nat} {X : Tr} {K : Tr} {R : Tr} {P : Tr} {L : Lo} {P2 : Tr} {L2 : Lo} {Tn : Tr} {Ti : Tr} {Tu : Tr} {Tv : Tr} {Z : Tr} {q0 : Nat} {q1 : Nat} {q2 : Nat} {q3 : Nat} {q4 : Nat} {q5 : Nat} {C' : Tr} (F : tF p s m ([.ref (ca 0), .ref (na 0)] : List Value).toArray meth c G cA A RX0 cX0_save 3 none)    (s0 : Int32) (C : Tr) (H : Heap) (locs : List Loc) (ls : Array Slot) (h : fJ_X0_save_x_na0_J92 pa qa Tn s0 C = some C') (hP : va_P G vwCl (wX cA xa ka ra na ia ua va ca za pa qa X K R P L P2 L2 Tn Ti Tu Tv C Z q0 q1 q2 q3 q4 q5) H) (hD : va_D A (wX cA xa ka ra na ia ua va ca za pa qa X K R P L P2 L2 Tn Ti Tu Tv C Z q0 q1 q2 q3 q4 q5)) (hS : va_S A s.heap H locs) (hl : lv_has ls 3 []) : G_X0_save_x_na0 p l e s m below meth c G cA A xa ka ra na ia ua va ca za pa qa X K R P L P2 L2 Tn Ti Tu Tv Z q0 q1 q2 q3 q4 q5 C' H locs (F0 m 92 ls [.int s0, .ref (ca 0)]) := by
  obtain ⟨hx, hb, hr, hml, hT, hown, hlocks, hK, hN, hA⟩ := id F
  unfold fJ_X0_save_x_na0_J92 at h
  refine va_put (D := G) (ci := 0) (v := .int s0) (ty := .int) (C := RX0) (T := TX0) (N := 3) hx hb hT ku_0 tyX0 tyX0_ok nmX0 hown hK hP hD hS 101 rfl rfl 0 (by decide) (hT _ kw_8_16) (fun _ h9 => h9) rfl (by decide +kernel) rfl rfl (Nat.le_of_ble_eq_true rfl) dX0_save_92 (fun H locs hP hD hS => ?_)
  replace h := tx_lt h
  obtain ⟨C_24, eC_24, h⟩ := h
  rw [sX_ca_f0, eC_24] at hP hD
  obtain rfl := tx_1 h
  exact W.vret hx hb hr (fun t ht hW => ⟨⟨(), rfl, trivial, by rw [ht]; exact hP, hD⟩, hS.F ht⟩) hS.2.2 dX0_save_95
set_option maxHeartbeats 4000000 in
set_option maxRecDepth 100000 in
theorem c_X0_save_x_na0 (l : Launch) (G : va_G) (cA : Nat → ClassId) (sz : Nat) (xa : Nat → Nat) (ka : Nat → Nat) (ra : Nat → Nat) (na : Nat → Nat) (ia : Nat → Nat) (ua : Nat → Nat) (va : Nat → Nat) (ca : Nat → Nat) (za : Nat → Nat) (pa : Nat → Nat) (qa : Nat → Nat) (X : Tr) (K : Tr) (R : Tr) (P : Tr) (L : Lo) (P2 : Tr) (L2 : Lo) (Tn : Tr) (Ti : Tr) (Tu : Tr) (Tv : Tr) (C : Tr) (Z : Tr) (q0 : Nat) (q1 : Nat) (q2 : Nat) (q3 : Nat) (q4 : Nat) (q5 : Nat)  (C' : Tr) (h : f_X0_save_x_na0 pa qa Tn C = some C') : Met l yX0_save (.code yX0_save cX0_save 3 none :: T0) ({ frames := 2, cells := 0, slots := 0, locals := 62 } : Room) (tqP G cA [.ref (ca 0), .ref (na 0)] (wX cA xa ka ra na ia ua va ca za pa qa X K R P L P2 L2 Tn Ti Tu Tv C Z q0 q1 q2 q3 q4 q5) sz) (tqQv G cA (fun (_ : Unit) => True) (fun (_ : Unit) => wX cA xa ka ra na ia ua va ca za pa qa X K R P L P2 L2 Tn Ti Tu Tv (C') Z q0 q1 q2 q3 q4 q5) (va_A (wX cA xa ka ra na ia ua va ca za pa qa X K R P L P2 L2 Tn Ti Tu Tv C Z q0 q1 q2 q3 q4 q5) sz)) 0 0 (va_A (wX cA xa ka ra na ia ua va ca za pa qa X K R P L P2 L2 Tn Ti Tu Tv C Z q0 q1 q2 q3 q4 q5) sz) := by
  refine Met.ofW (cc := cX0_save) (maxL := 3) (ret := none) (by decide) rfl ?_
  intro p e s m args below meth c s₁ B hml hv
  obtain ⟨rfl, hsz, hP, hK, hD0, hN⟩ := hv
  have hx := B.exec
  have hb := B.bytes
  have hr := B.returns
  have hts := atoms_spec (ws := .code yX0_save cX0_save 3 none :: T0) B.pre
  have hT : ∀ w ∈ T0, w.before _ s = true := fun w h => hts w (List.mem_cons_of_mem _ h)
  have hown : s.vm.findClass RX0 = some m.cls := findClass_of_methodNamed B.named
  have hlocks := B.notSynchronized
  subst hsz
  have hD := hD0.self (sz := s.heap.size)
  generalize hAe : va_A (wX cA xa ka ra na ia ua va ca za pa qa X K R P L P2 L2 Tn Ti Tu Tv C Z q0 q1 q2 q3 q4 q5) s.heap.size = A at hD ⊢
  have hA : ∀ q : Nat, s.heap.size ≤ q → A q := fun q h => by rw [← hAe]; exact Or.inr h
  have hS : va_S A s.heap s.heap [] := va_S.rf
  have hl := lv_entry ([.ref (ca 0), .ref (na 0)]) (n := 3) (Nat.le_of_ble_eq_true rfl)
  rw [lg_entry_eq]
  generalize (lg_sl ([.ref (ca 0), .ref (na 0)]) ++ List.replicate (3 - (lg_sl ([.ref (ca 0), .ref (na 0)])).length) Slot.unset).toArray = ls at hl ⊢
  have hl : lv_has ls 3 [(0, .ref (ca 0)), (1, .ref (na 0))] := hl
  have F : tF p s m ([.ref (ca 0), .ref (na 0)] : List Value).toArray meth c G cA A RX0 cX0_save 3 none := ⟨hx, hb, hr, hml, hT, hown, hlocks, hK, hN, hA⟩
  obtain ⟨H, hH⟩ : ∃ z, z = s.heap := ⟨_, rfl⟩
  rw [← hH] at hP
  have hS : va_S A s.heap H [] := by rw [hH]; exact hS
  suffices hgo : G_X0_save_x_na0 p l e s m below meth c G cA A xa ka ra na ia ua va ca za pa qa X K R P L P2 L2 Tn Ti Tu Tv Z q0 q1 q2 q3 q4 q5 C' H [] (F0 m 0 ls []) by rw [hH] at hgo; exact hgo
  generalize ([] : List Loc) = locs at hS ⊢
  unfold f_X0_save_x_na0 at h
  refine lv_aload_n hx hb dX0_save_0 rfl (lv_at hl 0 rfl) ?_
  refine va_get (D := G) (ci := 0) (v := .int (C 0 1)) (C := RX0) (T := TX0) (N := 3) hx hb hT ku_0 hown hK hP 101 rfl rfl 1 (by decide) (hT _ kw_8_17) (fun _ h9 => h9) rfl dX0_save_1 ?_
  refine lv_bipush (v := 76) hx hb dX0_save_4 (by decide) ?_
  refine lv_imul hx hb dX0_save_6 ?_
  refine lv_topi (fun y1 ey1 => ?_)
  replace h := tx_let ey1 h
  refine lv_istore_n (lv' := [(2, .int y1), (0, .ref (ca 0)), (1, .ref (na 0))]) hx hb dX0_save_7 rfl hl (by decide) rfl (fun ls hl => ?_)
  refine lv_aload_n hx hb dX0_save_8 rfl (lv_at hl 1 rfl) ?_
  refine lv_aload_n hx hb dX0_save_9 rfl (lv_at hl 2 rfl) ?_
  refine va_get (D := G) (ci := 6) (v := .ref (na 16)) (C := RX6) (T := TX6) (N := 20) hx hb hT ku_6 hown hK hP 53 rfl rfl 15 (by decide) (hT _ kw_36_5) (fun _ h9 => h9) rfl dX0_save_10 ?_
  refine lv_iload_n hx hb dX0_save_13 rfl (lv_at hl 0 rfl) ?_
  replace h := tx_bd h
  obtain ⟨⟨r2, C_3⟩, hc4, h⟩ := h
  replace h := tx_let (y := r2) rfl h
  replace h := tx_let (y := C_3) rfl h
  refine tz_i (As := [.ref (na 16), .int y1]) (rest := []) ⟨hx, hb, hml, hown, hT⟩ hP hD hS hA hK hN (c_X0_saveRow_x_na16 l G cA H.size xa ka ra na ia ua va ca za pa qa X K R P L P2 L2 Tn Ti Tu Tv C Z q0 q1 q2 q3 q4 q5 y1  r2 C_3 hc4) (tq_gV kw_36_10 kw_36_11 kw_36_12 kw_2_7 kw_36_13) rfl rfl dkdV_yX0_saveRow_2 (Nat.le_of_ble_eq_true rfl) (Nat.le_of_ble_eq_true rfl) (ci := 0) (q0 := 101) rfl rfl rfl hl.1 rfl (Nat.le_of_ble_eq_true rfl) dX0_save_14 ⟨Nat.le_of_ble_eq_true rfl, Nat.le_of_ble_eq_true rfl⟩ (fun _ _ H locs z5 hP hD hS => ?_)
  have z5 := z5.symm
  subst z5
  have hP : va_P G vwCl (wX cA xa ka ra na ia ua va ca za pa qa X K R P L P2 L2 Tn Ti Tu Tv C_3 Z q0 q1 q2 q3 q4 q5) H := hP
  have hD : va_D A (wX cA xa ka ra na ia ua va ca za pa qa X K R P L P2 L2 Tn Ti Tu Tv C_3 Z q0 q1 q2 q3 q4 q5) := hD
  refine lv_istore_n (lv' := [(2, .int r2), (0, .ref (ca 0)), (1, .ref (na 0))]) hx hb dX0_save_17 rfl hl (by decide) rfl (fun ls hl => ?_)
  refine lv_aload_n hx hb dX0_save_18 rfl (lv_at hl 1 rfl) ?_
  refine lv_aload_n hx hb dX0_save_19 rfl (lv_at hl 2 rfl) ?_
  refine va_get (D := G) (ci := 6) (v := .ref (na 17)) (C := RX6) (T := TX6) (N := 20) hx hb hT ku_6 hown hK hP 53 rfl rfl 16 (by decide) (hT _ kw_36_6) (fun _ h9 => h9) rfl dX0_save_20 ?_
  refine lv_iload_n hx hb dX0_save_23 rfl (lv_at hl 0 rfl) ?_
  replace h := tx_bd h
  obtain ⟨⟨r6, C_7⟩, hc8, h⟩ := h
  replace h := tx_let (y := r6) rfl h
  replace h := tx_let (y := C_7) rfl h
  refine tz_i (As := [.ref (na 17), .int r2]) (rest := []) ⟨hx, hb, hml, hown, hT⟩ hP hD hS hA hK hN (c_X0_saveRow_x_na17 l G cA H.size xa ka ra na ia ua va ca za pa qa X K R P L P2 L2 Tn Ti Tu Tv C_3 Z q0 q1 q2 q3 q4 q5 r2  r6 C_7 hc8) (tq_gV kw_36_10 kw_36_11 kw_36_12 kw_2_7 kw_36_13) rfl rfl dkdV_yX0_saveRow_2 (Nat.le_of_ble_eq_true rfl) (Nat.le_of_ble_eq_true rfl) (ci := 0) (q0 := 101) rfl rfl rfl hl.1 rfl (Nat.le_of_ble_eq_true rfl) dX0_save_24 ⟨Nat.le_of_ble_eq_true rfl, Nat.le_of_ble_eq_true rfl⟩ (fun _ _ H locs z9 hP hD hS => ?_)
  have z9 := z9.symm
  subst z9
  have hP : va_P G vwCl (wX cA xa ka ra na ia ua va ca za pa qa X K R P L P2 L2 Tn Ti Tu Tv C_7 Z q0 q1 q2 q3 q4 q5) H := hP
  have hD : va_D A (wX cA xa ka ra na ia ua va ca za pa qa X K R P L P2 L2 Tn Ti Tu Tv C_7 Z q0 q1 q2 q3 q4 q5) := hD
  refine lv_istore_n (lv' := [(2, .int r6), (0, .ref (ca 0)), (1, .ref (na 0))]) hx hb dX0_save_27 rfl hl (by decide) rfl (fun ls hl => ?_)
  refine lv_aload_n hx hb dX0_save_28 rfl (lv_at hl 1 rfl) ?_
  refine lv_aload_n hx hb dX0_save_29 rfl (lv_at hl 2 rfl) ?_
  refine va_get (D := G) (ci := 6) (v := .ref (na 18)) (C := RX6) (T := TX6) (N := 20) hx hb hT ku_6 hown hK hP 53 rfl rfl 17 (by decide) (hT _ kw_36_7) (fun _ h9 => h9) rfl dX0_save_30 ?_
  refine lv_iload_n hx hb dX0_save_33 rfl (lv_at hl 0 rfl) ?_
  replace h := tx_bd h
  obtain ⟨⟨r10, C_11⟩, hc12, h⟩ := h
  replace h := tx_let (y := r10) rfl h
  replace h := tx_let (y := C_11) rfl h
  refine tz_i (As := [.ref (na 18), .int r6]) (rest := []) ⟨hx, hb, hml, hown, hT⟩ hP hD hS hA hK hN (c_X0_saveRow_x_na18 l G cA H.size xa ka ra na ia ua va ca za pa qa X K R P L P2 L2 Tn Ti Tu Tv C_7 Z q0 q1 q2 q3 q4 q5 r6  r10 C_11 hc12) (tq_gV kw_36_10 kw_36_11 kw_36_12 kw_2_7 kw_36_13) rfl rfl dkdV_yX0_saveRow_2 (Nat.le_of_ble_eq_true rfl) (Nat.le_of_ble_eq_true rfl) (ci := 0) (q0 := 101) rfl rfl rfl hl.1 rfl (Nat.le_of_ble_eq_true rfl) dX0_save_34 ⟨Nat.le_of_ble_eq_true rfl, Nat.le_of_ble_eq_true rfl⟩ (fun _ _ H locs z13 hP hD hS => ?_)
  have z13 := z13.symm
  subst z13
  have hP : va_P G vwCl (wX cA xa ka ra na ia ua va ca za pa qa X K R P L P2 L2 Tn Ti Tu Tv C_11 Z q0 q1 q2 q3 q4 q5) H := hP
  have hD : va_D A (wX cA xa ka ra na ia ua va ca za pa qa X K R P L P2 L2 Tn Ti Tu Tv C_11 Z q0 q1 q2 q3 q4 q5) := hD
  refine lv_istore_n (lv' := [(2, .int r10), (0, .ref (ca 0)), (1, .ref (na 0))]) hx hb dX0_save_37 rfl hl (by decide) rfl (fun ls hl => ?_)
  refine lv_aload_n hx hb dX0_save_38 rfl (lv_at hl 1 rfl) ?_
  refine lv_aload_n hx hb dX0_save_39 rfl (lv_at hl 2 rfl) ?_
  refine va_get (D := G) (ci := 6) (v := .ref (na 15)) (C := RX6) (T := TX6) (N := 20) hx hb hT ku_6 hown hK hP 53 rfl rfl 14 (by decide) (hT _ kw_36_8) (fun _ h9 => h9) rfl dX0_save_40 ?_
  refine lv_iload_n hx hb dX0_save_43 rfl (lv_at hl 0 rfl) ?_
  replace h := tx_bd h
  obtain ⟨⟨r14, C_15⟩, hc16, h⟩ := h
  replace h := tx_let (y := r14) rfl h
  replace h := tx_let (y := C_15) rfl h
  refine tz_i (As := [.ref (na 15), .int r10]) (rest := []) ⟨hx, hb, hml, hown, hT⟩ hP hD hS hA hK hN (c_X0_saveRow_x_na15 l G cA H.size xa ka ra na ia ua va ca za pa qa X K R P L P2 L2 Tn Ti Tu Tv C_11 Z q0 q1 q2 q3 q4 q5 r10  r14 C_15 hc16) (tq_gV kw_36_10 kw_36_11 kw_36_12 kw_2_7 kw_36_13) rfl rfl dkdV_yX0_saveRow_2 (Nat.le_of_ble_eq_true rfl) (Nat.le_of_ble_eq_true rfl) (ci := 0) (q0 := 101) rfl rfl rfl hl.1 rfl (Nat.le_of_ble_eq_true rfl) dX0_save_44 ⟨Nat.le_of_ble_eq_true rfl, Nat.le_of_ble_eq_true rfl⟩ (fun _ _ H locs z17 hP hD hS => ?_)
  have z17 := z17.symm
  subst z17
  have hP : va_P G vwCl (wX cA xa ka ra na ia ua va ca za pa qa X K R P L P2 L2 Tn Ti Tu Tv C_15 Z q0 q1 q2 q3 q4 q5) H := hP
  have hD : va_D A (wX cA xa ka ra na ia ua va ca za pa qa X K R P L P2 L2 Tn Ti Tu Tv C_15 Z q0 q1 q2 q3 q4 q5) := hD
  refine lv_istore_n (lv' := [(2, .int r14), (0, .ref (ca 0)), (1, .ref (na 0))]) hx hb dX0_save_47 rfl hl (by decide) rfl (fun ls hl => ?_)
  refine lv_aload_n hx hb dX0_save_48 rfl (lv_at hl 1 rfl) ?_
  refine lv_aload_n hx hb dX0_save_49 rfl (lv_at hl 2 rfl) ?_
  refine va_get (D := G) (ci := 6) (v := .ref (na 10)) (C := RX6) (T := TX6) (N := 20) hx hb hT ku_6 hown hK hP 53 rfl rfl 9 (by decide) (hT _ kw_36_9) (fun _ h9 => h9) rfl dX0_save_50 ?_
  refine lv_iload_n hx hb dX0_save_53 rfl (lv_at hl 0 rfl) ?_
  replace h := tx_bd h
  obtain ⟨⟨r18, C_19⟩, hc20, h⟩ := h
  replace h := tx_let (y := r18) rfl h
  replace h := tx_let (y := C_19) rfl h
  refine tz_i (As := [.ref (na 10), .int r14]) (rest := []) ⟨hx, hb, hml, hown, hT⟩ hP hD hS hA hK hN (c_X0_saveRow_x_na10 l G cA H.size xa ka ra na ia ua va ca za pa qa X K R P L P2 L2 Tn Ti Tu Tv C_15 Z q0 q1 q2 q3 q4 q5 r14  r18 C_19 hc20) (tq_gV kw_36_10 kw_36_11 kw_36_12 kw_2_7 kw_36_13) rfl rfl dkdV_yX0_saveRow_2 (Nat.le_of_ble_eq_true rfl) (Nat.le_of_ble_eq_true rfl) (ci := 0) (q0 := 101) rfl rfl rfl hl.1 rfl (Nat.le_of_ble_eq_true rfl) dX0_save_54 ⟨Nat.le_of_ble_eq_true rfl, Nat.le_of_ble_eq_true rfl⟩ (fun _ _ H locs z21 hP hD hS => ?_)
  have z21 := z21.symm
  subst z21
  have hP : va_P G vwCl (wX cA xa ka ra na ia ua va ca za pa qa X K R P L P2 L2 Tn Ti Tu Tv C_19 Z q0 q1 q2 q3 q4 q5) H := hP
  have hD : va_D A (wX cA xa ka ra na ia ua va ca za pa qa X K R P L P2 L2 Tn Ti Tu Tv C_19 Z q0 q1 q2 q3 q4 q5) := hD
  refine lv_pop hx hb dX0_save_57 rfl ?_
  refine lv_aload_n hx hb dX0_save_58 rfl (lv_at hl 1 rfl) ?_
  refine lv_aload_n hx hb dX0_save_59 rfl (lv_at hl 1 rfl) ?_
  refine va_get (D := G) (ci := 0) (v := .int (C_19 0 1)) (C := RX0) (T := TX0) (N := 3) hx hb hT ku_0 hown hK hP 101 rfl rfl 1 (by decide) (hT _ kw_8_17) (fun _ h9 => h9) rfl dX0_save_60 ?_
  refine lv_iconst (v := 1) hx hb dX0_save_63 (by decide) ?_
  refine lv_iadd hx hb dX0_save_64 ?_
  refine lv_bipush (v := 20) hx hb dX0_save_65 (by decide) ?_
  refine lv_irem hx hb dX0_save_67 (by decide) ?_
  refine va_put (D := G) (ci := 0) (v := .int (((C_19 0 1) + 1) - ((C_19 0 1) + 1) / 20 * 20)) (ty := .int) (C := RX0) (T := TX0) (N := 3) hx hb hT ku_0 tyX0 tyX0_ok nmX0 hown hK hP hD hS 101 rfl rfl 1 (by decide) (hT _ kw_8_17) (fun _ h9 => h9) rfl (by decide +kernel) rfl rfl (Nat.le_of_ble_eq_true rfl) dX0_save_68 (fun H locs hP hD hS => ?_)
  replace h := tx_lt h
  obtain ⟨C_22, eC_22, h⟩ := h
  rw [sX_ca_f1, eC_22] at hP hD
  refine lv_aload_n hx hb dX0_save_71 rfl (lv_at hl 1 rfl) ?_
  refine lv_aload_n hx hb dX0_save_72 rfl (lv_at hl 1 rfl) ?_
  refine va_get (D := G) (ci := 0) (v := .int (C_22 0 0)) (C := RX0) (T := TX0) (N := 3) hx hb hT ku_0 hown hK hP 101 rfl rfl 0 (by decide) (hT _ kw_8_16) (fun _ h9 => h9) rfl dX0_save_73 ?_
  refine lv_bipush (v := 20) hx hb dX0_save_76 (by decide) ?_
  refine lv_icmp_ne (tgt := 86) hx hb dX0_save_78 (by decide) (fun c23 => ?_) (fun c23 => ?_)
  · replace h := tx_neg c23 h
    refine lv_aload_n hx hb dX0_save_86 rfl (lv_at hl 1 rfl) ?_
    refine va_get (D := G) (ci := 0) (v := .int (C_22 0 0)) (C := RX0) (T := TX0) (N := 3) hx hb hT ku_0 hown hK hP 101 rfl rfl 0 (by decide) (hT _ kw_8_16) (fun _ h9 => h9) rfl dX0_save_87 ?_
    refine lv_iconst (v := 1) hx hb dX0_save_90 (by decide) ?_
    refine lv_iadd hx hb dX0_save_91 ?_
    exact w_X0_save_x_na0_J92 F ((C_22 0 0) + 1) C_22 H locs ls h hP hD hS (lv_sub hl [] rfl)
  · replace h := tx_pos c23 h
    refine lv_bipush (v := 20) hx hb dX0_save_81 (by decide) ?_
    refine lv_goto (tgt := 92) hx hb dX0_save_83 (by decide) ?_
    exact w_X0_save_x_na0_J92 F 20 C_22 H locs ls h hP hD hS (lv_sub hl [] rfl)
abbrev G_X7_help (p : Program) (l : Launch) (e : Env) (s : State) (m : MethodId) (below : List Frame) (meth : Method) (c : Code) (G : va_G) (cA : Nat → ClassId) (A : Nat → Prop) (xa : Nat → Nat) (ka : Nat → Nat) (ra : Nat → Nat) (na : Nat → Nat) (ia : Nat → Nat) (ua : Nat → Nat) (va : Nat → Nat) (ca : Nat → Nat) (za : Nat → Nat) (pa : Nat → Nat) (qa : Nat → Nat) (X : Tr) (K : Tr) (R : Tr) (P : Tr) (L : Lo) (P2 : Tr) (L2 : Lo) (Ti : Tr) (Tu : Tr) (Tv : Tr) (Z : Tr) (q0 : Nat) (q1 : Nat) (q2 : Nat) (q3 : Nat) (q4 : Nat) (q5 : Nat) (x1 : Int32) (x2 : Int32) (r0 : Int32) (Tn' : Tr) (C' : Tr) (H : Heap) (locs : List Loc) (g : JFrame) : Prop := W p l e (headSpec (.code yX7_help cX7_help 3 (some .boolean) :: T0) ({ frames := 3, cells := 0, slots := 0, locals := 84 } : Room)).room s m ([.ref (xa 0), .int x1, .int x2] : List Value).toArray below meth c H locs 0 0 (MQ below (tqQi G cA (fun (r : Int32) (_ : Unit) => r = r0) (fun (_ : Unit) => wX cA xa ka ra na ia ua va ca za pa qa X K R P L P2 L2 (Tn') Ti Tu Tv (C') Z q0 q1 q2 q3 q4 q5) A) ([.ref (xa 0), .int x1, .int x2] : List Value).toArray s 0 0 A) g
set_option maxHeartbeats 4000000 in
set_option maxRecDepth 100000 in
theorem c_X7_help (l : Launch) (G : va_G) (cA : Nat → ClassId) (sz : Nat) (xa : Nat → Nat) (ka : Nat → Nat) (ra : Nat → Nat) (na : Nat → Nat) (ia : Nat → Nat) (ua : Nat → Nat) (va : Nat → Nat) (ca : Nat → Nat) (za : Nat → Nat) (pa : Nat → Nat) (qa : Nat → Nat) (X : Tr) (K : Tr) (R : Tr) (P : Tr) (L : Lo) (P2 : Tr) (L2 : Lo) (Tn : Tr) (Ti : Tr) (Tu : Tr) (Tv : Tr) (C : Tr) (Z : Tr) (q0 : Nat) (q1 : Nat) (q2 : Nat) (q3 : Nat) (q4 : Nat) (q5 : Nat) (x1 : Int32) (x2 : Int32)  (r0 : Int32) (Tn' : Tr) (C' : Tr) (h : f_X7_help pa qa P Tn C q4 x1 x2 = some (r0, Tn', C')) : Met l yX7_help (.code yX7_help cX7_help 3 (some .boolean) :: T0) ({ frames := 3, cells := 0, slots := 0, locals := 84 } : Room) (tqP G cA [.ref (xa 0), .int x1, .int x2] (wX cA xa ka ra na ia ua va ca za pa qa X K R P L P2 L2 Tn Ti Tu Tv C Z q0 q1 q2 q3 q4 q5) sz) (tqQi G cA (fun (r : Int32) (_ : Unit) => r = r0) (fun (_ : Unit) => wX cA xa ka ra na ia ua va ca za pa qa X K R P L P2 L2 (Tn') Ti Tu Tv (C') Z q0 q1 q2 q3 q4 q5) (va_A (wX cA xa ka ra na ia ua va ca za pa qa X K R P L P2 L2 Tn Ti Tu Tv C Z q0 q1 q2 q3 q4 q5) sz)) 0 0 (va_A (wX cA xa ka ra na ia ua va ca za pa qa X K R P L P2 L2 Tn Ti Tu Tv C Z q0 q1 q2 q3 q4 q5) sz) := by
  refine Met.ofW (cc := cX7_help) (maxL := 3) (ret := (some .boolean)) (by decide) rfl ?_
  intro p e s m args below meth c s₁ B hml hv
  obtain ⟨rfl, hsz, hP, hK, hD0, hN⟩ := hv
  have hx := B.exec
  have hb := B.bytes
  have hr := B.returns
  have hts := atoms_spec (ws := .code yX7_help cX7_help 3 (some .boolean) :: T0) B.pre
  have hT : ∀ w ∈ T0, w.before _ s = true := fun w h => hts w (List.mem_cons_of_mem _ h)
  have hown : s.vm.findClass RX7 = some m.cls := findClass_of_methodNamed B.named
  have hlocks := B.notSynchronized
  subst hsz
  have hD := hD0.self (sz := s.heap.size)
  generalize hAe : va_A (wX cA xa ka ra na ia ua va ca za pa qa X K R P L P2 L2 Tn Ti Tu Tv C Z q0 q1 q2 q3 q4 q5) s.heap.size = A at hD ⊢
  have hA : ∀ q : Nat, s.heap.size ≤ q → A q := fun q h => by rw [← hAe]; exact Or.inr h
  have hS : va_S A s.heap s.heap [] := va_S.rf
  have hl := lv_entry ([.ref (xa 0), .int x1, .int x2]) (n := 3) (Nat.le_of_ble_eq_true rfl)
  rw [lg_entry_eq]
  generalize (lg_sl ([.ref (xa 0), .int x1, .int x2]) ++ List.replicate (3 - (lg_sl ([.ref (xa 0), .int x1, .int x2])).length) Slot.unset).toArray = ls at hl ⊢
  have hl : lv_has ls 3 [(0, .ref (xa 0)), (1, .int x1), (2, .int x2)] := hl
  have F : tF p s m ([.ref (xa 0), .int x1, .int x2] : List Value).toArray meth c G cA A RX7 cX7_help 3 (some .boolean) := ⟨hx, hb, hr, hml, hT, hown, hlocks, hK, hN, hA⟩
  obtain ⟨H, hH⟩ : ∃ z, z = s.heap := ⟨_, rfl⟩
  rw [← hH] at hP
  have hS : va_S A s.heap H [] := by rw [hH]; exact hS
  suffices hgo : G_X7_help p l e s m below meth c G cA A xa ka ra na ia ua va ca za pa qa X K R P L P2 L2 Ti Tu Tv Z q0 q1 q2 q3 q4 q5 x1 x2 r0 Tn' C' H [] (F0 m 0 ls []) by rw [hH] at hgo; exact hgo
  generalize ([] : List Loc) = locs at hS ⊢
  unfold f_X7_help at h
  refine lv_aload_n hx hb dX7_help_0 rfl (lv_at hl 0 rfl) ?_
  refine lv_iload_n hx hb dX7_help_1 rfl (lv_at hl 1 rfl) ?_
  replace h := tx_bd h
  obtain ⟨r1, hc2, h⟩ := h
  refine tz_i (As := [.int x1]) (rest := []) ⟨hx, hb, hml, hown, hT⟩ hP hD hS hA hK hN (c_X7_isPerson l G cA H.size xa ka ra na ia ua va ca za pa qa X K R P L P2 L2 Tn Ti Tu Tv C Z q0 q1 q2 q3 q4 q5 x1  r1 hc2) (tq_gV kw_29_3 kw_29_4 kw_29_5 kw_1_2 kw_29_6) rfl rfl dkdV_yX7_isPerson_1 (Nat.le_of_ble_eq_true rfl) (Nat.le_of_ble_eq_true rfl) (ci := 7) (q0 := 0) rfl rfl rfl hl.1 rfl (Nat.le_of_ble_eq_true rfl) dX7_help_2 ⟨Nat.le_of_ble_eq_true rfl, Nat.le_of_ble_eq_true rfl⟩ (fun _ _ H locs z3 hP hD hS => ?_)
  have z3 := z3.symm
  subst z3
  have hP : va_P G vwCl (wX cA xa ka ra na ia ua va ca za pa qa X K R P L P2 L2 Tn Ti Tu Tv C Z q0 q1 q2 q3 q4 q5) H := hP
  have hD : va_D A (wX cA xa ka ra na ia ua va ca za pa qa X K R P L P2 L2 Tn Ti Tu Tv C Z q0 q1 q2 q3 q4 q5) := hD
  refine lv_if_eq (tgt := 32) hx hb dX7_help_5 (by decide) (fun c4 => ?_) (fun c4 => ?_)
  · replace h := tx_pos c4 h
    refine lv_iconst (v := 0) hx hb dX7_help_32 (by decide) ?_
    obtain ⟨rfl, rfl, rfl⟩ := tx_3 h
    exact W.zret (ty := .boolean) hx hb hr rfl (fun t ht hW => ⟨⟨_, (), rfl, rfl, by rw [ht]; exact hP, hD⟩, hS.F ht⟩) hS.2.2 dX7_help_33
  · replace h := tx_neg c4 h
    refine lv_iload_n hx hb dX7_help_8 rfl (lv_at hl 2 rfl) ?_
    refine lv_iconst (v := 1) hx hb dX7_help_9 (by decide) ?_
    refine lv_icmp_lt (tgt := 32) hx hb dX7_help_10 (by decide) (fun c5 => ?_) (fun c5 => ?_)
    · replace h := tx_pos c5 h
      refine lv_iconst (v := 0) hx hb dX7_help_32 (by decide) ?_
      obtain ⟨rfl, rfl, rfl⟩ := tx_3 h
      exact W.zret (ty := .boolean) hx hb hr rfl (fun t ht hW => ⟨⟨_, (), rfl, rfl, by rw [ht]; exact hP, hD⟩, hS.F ht⟩) hS.2.2 dX7_help_33
    · replace h := tx_neg c5 h
      refine lv_iload_n hx hb dX7_help_13 rfl (lv_at hl 2 rfl) ?_
      refine lv_bipush (v := 99) hx hb dX7_help_14 (by decide) ?_
      refine lv_icmp_gt (tgt := 32) hx hb dX7_help_16 (by decide) (fun c6 => ?_) (fun c6 => ?_)
      · replace h := tx_pos c6 h
        refine lv_iconst (v := 0) hx hb dX7_help_32 (by decide) ?_
        obtain ⟨rfl, rfl, rfl⟩ := tx_3 h
        exact W.zret (ty := .boolean) hx hb hr rfl (fun t ht hW => ⟨⟨_, (), rfl, rfl, by rw [ht]; exact hP, hD⟩, hS.F ht⟩) hS.2.2 dX7_help_33
      · replace h := tx_neg c6 h
        refine lv_aload_n hx hb dX7_help_19 rfl (lv_at hl 0 rfl) ?_
        refine va_get (D := G) (ci := 7) (v := .ref (na 0)) (C := RX7) (T := TX7) (N := 12) hx hb hT ku_7 hown hK hP 0 rfl rfl 2 (by decide) (hT _ kw_2_0) (fun _ h9 => h9) rfl dX7_help_20 ?_
        refine va_get (D := G) (ci := 6) (v := .ref (na 10)) (C := RX6) (T := TX6) (N := 20) hx hb hT ku_6 hown hK hP 53 rfl rfl 9 (by decide) (hT _ kw_29_0) (fun _ h9 => h9) rfl dX7_help_23 ?_
        refine lv_iload_n hx hb dX7_help_26 rfl (lv_at hl 1 rfl) ?_
        replace h := tx_ck h
        obtain ⟨g7, h⟩ := h
        refine va_iald (i := x1) hx hb hK hP 55 0 rfl rfl (tx_in g7) dX7_help_27 ?_
        refine lv_iload_n hx hb dX7_help_28 rfl (lv_at hl 2 rfl) ?_
        refine lv_icmp_ne (tgt := 34) hx hb dX7_help_29 (by decide) (fun c8 => ?_) (fun c8 => ?_)
        · replace h := tx_neg c8 h
          refine lv_aload_n hx hb dX7_help_34 rfl (lv_at hl 0 rfl) ?_
          refine va_get (D := G) (ci := 7) (v := .ref (ca 0)) (C := RX7) (T := TX7) (N := 12) hx hb hT ku_7 hown hK hP 0 rfl rfl 7 (by decide) (hT _ kw_2_8) (fun _ h9 => h9) rfl dX7_help_35 ?_
          refine lv_aload_n hx hb dX7_help_38 rfl (lv_at hl 0 rfl) ?_
          refine va_get (D := G) (ci := 7) (v := .ref (na 0)) (C := RX7) (T := TX7) (N := 12) hx hb hT ku_7 hown hK hP 0 rfl rfl 2 (by decide) (hT _ kw_2_0) (fun _ h9 => h9) rfl dX7_help_39 ?_
          replace h := tx_bd h
          obtain ⟨C_9, hc10, h⟩ := h
          refine tz_v (As := [.ref (na 0)]) (rest := []) ⟨hx, hb, hml, hown, hT⟩ hP hD hS hA hK hN (c_X0_save_x_na0 l G cA H.size xa ka ra na ia ua va ca za pa qa X K R P L P2 L2 Tn Ti Tu Tv C Z q0 q1 q2 q3 q4 q5  C_9 hc10) (tq_gV kw_36_1 kw_36_2 kw_36_3 kw_2_7 kw_36_4) rfl rfl dkdV_yX0_save_1 (Nat.le_of_ble_eq_true rfl) (Nat.le_of_ble_eq_true rfl) (ci := 0) (q0 := 101) rfl rfl rfl hl.1 rfl (Nat.le_of_ble_eq_true rfl) dX7_help_42 ⟨Nat.le_of_ble_eq_true rfl, Nat.le_of_ble_eq_true rfl⟩ (fun _ H locs z11 hP hD hS => ?_)
          have hP : va_P G vwCl (wX cA xa ka ra na ia ua va ca za pa qa X K R P L P2 L2 Tn Ti Tu Tv C_9 Z q0 q1 q2 q3 q4 q5) H := hP
          have hD : va_D A (wX cA xa ka ra na ia ua va ca za pa qa X K R P L P2 L2 Tn Ti Tu Tv C_9 Z q0 q1 q2 q3 q4 q5) := hD
          refine lv_aload_n hx hb dX7_help_45 rfl (lv_at hl 0 rfl) ?_
          refine va_get (D := G) (ci := 7) (v := .ref (na 0)) (C := RX7) (T := TX7) (N := 12) hx hb hT ku_7 hown hK hP 0 rfl rfl 2 (by decide) (hT _ kw_2_0) (fun _ h9 => h9) rfl dX7_help_46 ?_
          refine va_get (D := G) (ci := 6) (v := .ref (na 10)) (C := RX6) (T := TX6) (N := 20) hx hb hT ku_6 hown hK hP 53 rfl rfl 9 (by decide) (hT _ kw_29_0) (fun _ h9 => h9) rfl dX7_help_49 ?_
          refine lv_iload_n hx hb dX7_help_52 rfl (lv_at hl 1 rfl) ?_
          refine lv_iload_n hx hb dX7_help_53 rfl (lv_at hl 2 rfl) ?_
          refine va_iast (i := x1) hx hb hK hP hD hS 55 0 rfl rfl (tx_in g7) dX7_help_54 (fun H locs hP hD hS => ?_)
          replace h := tx_lt h
          obtain ⟨Tn_12, eTn_12, h⟩ := h
          rw [sX_na_a9, eTn_12] at hP hD
          refine lv_iconst (v := 1) hx hb dX7_help_55 (by decide) ?_
          obtain ⟨rfl, rfl, rfl⟩ := tx_3 h
          exact W.zret (ty := .boolean) hx hb hr rfl (fun t ht hW => ⟨⟨_, (), rfl, rfl, by rw [ht]; exact hP, hD⟩, hS.F ht⟩) hS.2.2 dX7_help_56
        · replace h := tx_pos c8 h
          refine lv_iconst (v := 0) hx hb dX7_help_32 (by decide) ?_
          obtain ⟨rfl, rfl, rfl⟩ := tx_3 h
          exact W.zret (ty := .boolean) hx hb hr rfl (fun t ht hW => ⟨⟨_, (), rfl, rfl, by rw [ht]; exact hP, hD⟩, hS.F ht⟩) hS.2.2 dX7_help_33
abbrev G_X7_isPlace (p : Program) (l : Launch) (e : Env) (s : State) (m : MethodId) (below : List Frame) (meth : Method) (c : Code) (G : va_G) (cA : Nat → ClassId) (A : Nat → Prop) (xa : Nat → Nat) (ka : Nat → Nat) (ra : Nat → Nat) (na : Nat → Nat) (ia : Nat → Nat) (ua : Nat → Nat) (va : Nat → Nat) (ca : Nat → Nat) (za : Nat → Nat) (pa : Nat → Nat) (qa : Nat → Nat) (X : Tr) (K : Tr) (R : Tr) (P : Tr) (L : Lo) (P2 : Tr) (L2 : Lo) (Tn : Tr) (Ti : Tr) (Tu : Tr) (Tv : Tr) (C : Tr) (Z : Tr) (q0 : Nat) (q1 : Nat) (q2 : Nat) (q3 : Nat) (q4 : Nat) (q5 : Nat) (x1 : Int32) (r0 : Int32) (H : Heap) (locs : List Loc) (g : JFrame) : Prop := W p l e (headSpec (.code yX7_isPlace cX7_isPlace 2 (some .boolean) :: T0) ({ frames := 0, cells := 0, slots := 0, locals := 0 } : Room)).room s m ([.ref (xa 0), .int x1] : List Value).toArray below meth c H locs 0 0 (MQ below (tqQi G cA (fun (r : Int32) (_ : Unit) => r = r0) (fun (_ : Unit) => wX cA xa ka ra na ia ua va ca za pa qa X K R P L P2 L2 Tn Ti Tu Tv C Z q0 q1 q2 q3 q4 q5) A) ([.ref (xa 0), .int x1] : List Value).toArray s 0 0 A) g
set_option maxHeartbeats 4000000 in
set_option maxRecDepth 100000 in
theorem c_X7_isPlace (l : Launch) (G : va_G) (cA : Nat → ClassId) (sz : Nat) (xa : Nat → Nat) (ka : Nat → Nat) (ra : Nat → Nat) (na : Nat → Nat) (ia : Nat → Nat) (ua : Nat → Nat) (va : Nat → Nat) (ca : Nat → Nat) (za : Nat → Nat) (pa : Nat → Nat) (qa : Nat → Nat) (X : Tr) (K : Tr) (R : Tr) (P : Tr) (L : Lo) (P2 : Tr) (L2 : Lo) (Tn : Tr) (Ti : Tr) (Tu : Tr) (Tv : Tr) (C : Tr) (Z : Tr) (q0 : Nat) (q1 : Nat) (q2 : Nat) (q3 : Nat) (q4 : Nat) (q5 : Nat) (x1 : Int32)  (r0 : Int32) (h : f_X7_isPlace pa qa P q4 x1 = some r0) : Met l yX7_isPlace (.code yX7_isPlace cX7_isPlace 2 (some .boolean) :: T0) ({ frames := 0, cells := 0, slots := 0, locals := 0 } : Room) (tqP G cA [.ref (xa 0), .int x1] (wX cA xa ka ra na ia ua va ca za pa qa X K R P L P2 L2 Tn Ti Tu Tv C Z q0 q1 q2 q3 q4 q5) sz) (tqQi G cA (fun (r : Int32) (_ : Unit) => r = r0) (fun (_ : Unit) => wX cA xa ka ra na ia ua va ca za pa qa X K R P L P2 L2 Tn Ti Tu Tv C Z q0 q1 q2 q3 q4 q5) (va_A (wX cA xa ka ra na ia ua va ca za pa qa X K R P L P2 L2 Tn Ti Tu Tv C Z q0 q1 q2 q3 q4 q5) sz)) 0 0 (va_A (wX cA xa ka ra na ia ua va ca za pa qa X K R P L P2 L2 Tn Ti Tu Tv C Z q0 q1 q2 q3 q4 q5) sz) := by
  refine Met.ofW (cc := cX7_isPlace) (maxL := 2) (ret := (some .boolean)) (by decide) rfl ?_
  intro p e s m args below meth c s₁ B hml hv
  obtain ⟨rfl, hsz, hP, hK, hD0, hN⟩ := hv
  have hx := B.exec
  have hb := B.bytes
  have hr := B.returns
  have hts := atoms_spec (ws := .code yX7_isPlace cX7_isPlace 2 (some .boolean) :: T0) B.pre
  have hT : ∀ w ∈ T0, w.before _ s = true := fun w h => hts w (List.mem_cons_of_mem _ h)
  have hown : s.vm.findClass RX7 = some m.cls := findClass_of_methodNamed B.named
  have hlocks := B.notSynchronized
  subst hsz
  have hD := hD0.self (sz := s.heap.size)
  generalize hAe : va_A (wX cA xa ka ra na ia ua va ca za pa qa X K R P L P2 L2 Tn Ti Tu Tv C Z q0 q1 q2 q3 q4 q5) s.heap.size = A at hD ⊢
  have hA : ∀ q : Nat, s.heap.size ≤ q → A q := fun q h => by rw [← hAe]; exact Or.inr h
  have hS : va_S A s.heap s.heap [] := va_S.rf
  have hl := lv_entry ([.ref (xa 0), .int x1]) (n := 2) (Nat.le_of_ble_eq_true rfl)
  rw [lg_entry_eq]
  generalize (lg_sl ([.ref (xa 0), .int x1]) ++ List.replicate (2 - (lg_sl ([.ref (xa 0), .int x1])).length) Slot.unset).toArray = ls at hl ⊢
  have hl : lv_has ls 2 [(0, .ref (xa 0)), (1, .int x1)] := hl
  have F : tF p s m ([.ref (xa 0), .int x1] : List Value).toArray meth c G cA A RX7 cX7_isPlace 2 (some .boolean) := ⟨hx, hb, hr, hml, hT, hown, hlocks, hK, hN, hA⟩
  obtain ⟨H, hH⟩ : ∃ z, z = s.heap := ⟨_, rfl⟩
  rw [← hH] at hP
  have hS : va_S A s.heap H [] := by rw [hH]; exact hS
  suffices hgo : G_X7_isPlace p l e s m below meth c G cA A xa ka ra na ia ua va ca za pa qa X K R P L P2 L2 Tn Ti Tu Tv C Z q0 q1 q2 q3 q4 q5 x1 r0 H [] (F0 m 0 ls []) by rw [hH] at hgo; exact hgo
  generalize ([] : List Loc) = locs at hS ⊢
  unfold f_X7_isPlace at h
  refine lv_iload_n hx hb dX7_isPlace_0 rfl (lv_at hl 1 rfl) ?_
  refine lv_if_lt (tgt := 19) hx hb dX7_isPlace_1 (by decide) (fun c1 => ?_) (fun c1 => ?_)
  · replace h := tx_pos c1 h
    refine lv_iconst (v := 0) hx hb dX7_isPlace_19 (by decide) ?_
    obtain rfl := tx_1 h
    exact W.zret (ty := .boolean) hx hb hr rfl (fun t ht hW => ⟨⟨_, (), rfl, rfl, by rw [ht]; exact hP, hD⟩, hS.F ht⟩) hS.2.2 dX7_isPlace_20
  · replace h := tx_neg c1 h
    refine lv_iload_n hx hb dX7_isPlace_4 rfl (lv_at hl 1 rfl) ?_
    refine lv_aload_n hx hb dX7_isPlace_5 rfl (lv_at hl 0 rfl) ?_
    refine va_get (D := G) (ci := 7) (v := .ref q4) (C := RX7) (T := TX7) (N := 12) hx hb hT ku_7 hown hK hP 0 rfl rfl 1 (by decide) (hT _ kw_1_20) (fun _ h9 => h9) rfl dX7_isPlace_6 ?_
    replace h := tx_ck h
    obtain ⟨g2, h⟩ := h
    have eg2 := of_decide_eq_true g2
    subst eg2
    refine va_get (D := G) (ci := 2) (v := .int (P 0 0)) (C := RX2) (T := TX2) (N := 19) hx hb hT ku_2 hown hK hP 9 rfl rfl 0 (by decide) (hT _ kw_32_2) (fun _ h9 => h9) rfl dX7_isPlace_9 ?_
    refine lv_icmp_ge (tgt := 19) hx hb dX7_isPlace_12 (by decide) (fun c3 => ?_) (fun c3 => ?_)
    · replace h := tx_pos c3 h
      refine lv_iconst (v := 0) hx hb dX7_isPlace_19 (by decide) ?_
      obtain rfl := tx_1 h
      exact W.zret (ty := .boolean) hx hb hr rfl (fun t ht hW => ⟨⟨_, (), rfl, rfl, by rw [ht]; exact hP, hD⟩, hS.F ht⟩) hS.2.2 dX7_isPlace_20
    · replace h := tx_neg c3 h
      refine lv_iconst (v := 1) hx hb dX7_isPlace_15 (by decide) ?_
      refine lv_goto (tgt := 20) hx hb dX7_isPlace_16 (by decide) ?_
      obtain rfl := tx_1 h
      exact W.zret (ty := .boolean) hx hb hr rfl (fun t ht hW => ⟨⟨_, (), rfl, rfl, by rw [ht]; exact hP, hD⟩, hS.F ht⟩) hS.2.2 dX7_isPlace_20
abbrev G_X7_isRest (p : Program) (l : Launch) (e : Env) (s : State) (m : MethodId) (below : List Frame) (meth : Method) (c : Code) (G : va_G) (cA : Nat → ClassId) (A : Nat → Prop) (xa : Nat → Nat) (ka : Nat → Nat) (ra : Nat → Nat) (na : Nat → Nat) (ia : Nat → Nat) (ua : Nat → Nat) (va : Nat → Nat) (ca : Nat → Nat) (za : Nat → Nat) (pa : Nat → Nat) (qa : Nat → Nat) (X : Tr) (K : Tr) (R : Tr) (P : Tr) (L : Lo) (P2 : Tr) (L2 : Lo) (Tn : Tr) (Ti : Tr) (Tu : Tr) (Tv : Tr) (C : Tr) (Z : Tr) (q0 : Nat) (q1 : Nat) (q2 : Nat) (q3 : Nat) (q4 : Nat) (q5 : Nat) (x1 : Int32) (r0 : Int32) (H : Heap) (locs : List Loc) (g : JFrame) : Prop := W p l e (headSpec (.code yX7_isRest cX7_isRest 5 (some .boolean) :: T0) ({ frames := 0, cells := 0, slots := 0, locals := 0 } : Room)).room s m ([.ref (xa 0), .int x1] : List Value).toArray below meth c H locs 0 0 (MQ below (tqQi G cA (fun (r : Int32) (_ : Unit) => r = r0) (fun (_ : Unit) => wX cA xa ka ra na ia ua va ca za pa qa X K R P L P2 L2 Tn Ti Tu Tv C Z q0 q1 q2 q3 q4 q5) A) ([.ref (xa 0), .int x1] : List Value).toArray s 0 0 A) g
set_option maxHeartbeats 4000000 in
set_option maxRecDepth 100000 in
theorem w_X7_isRest_L35 {p : Program} {l : Launch} {e : Env} {s : State} {m : MethodId} {below : List Frame} {meth : Method} {c : Code} {G : va_G} {cA : Nat → ClassId} {A : Nat → Prop} {xa : Nat → Nat} {ka : Nat → Nat} {ra : Nat → Nat} {na : Nat → Nat} {ia : Nat → Nat} {ua : Nat → Nat} {va : Nat → Nat} {ca : Nat → Nat} {za : Nat → Nat} {pa : Nat → Nat} {qa : Nat → Nat} {X : Tr} {K : Tr} {R : Tr} {P : Tr} {L : Lo} {P2 : Tr} {L2 : Lo} {Tn : Tr} {Ti : Tr} {Tu : Tr} {Tv : Tr} {C : Tr} {Z : Tr} {q0 : Nat} {q1 : Nat} {q2 : Nat} {q3 : Nat} {q4 : Nat} {q5 : Nat} {x1₀ : Int32} {r0 : Int32} {x1 : Int32} {x2 : Int32} {x3 : Int32} (F : tF p s m ([.ref (xa 0), .int x1₀] : List Value).toArray meth c G cA A RX7 cX7_isRest 5 (some .boolean))    (N : Nat) : ∀ (x4 : Int32) (H : Heap) (locs : List Loc) (ls : Array Slot), lpF (fun _ => none) (fB_X7_isRest_L35 pa qa X P q4 x1 x2 x3) N x4 = some r0 → va_P G vwCl (wX cA xa ka ra na ia ua va ca za pa qa X K R P L P2 L2 Tn Ti Tu Tv C Z q0 q1 q2 q3 q4 q5) H → va_D A (wX cA xa ka ra na ia ua va ca za pa qa X K R P L P2 L2 Tn Ti Tu Tv C Z q0 q1 q2 q3 q4 q5) → va_S A s.heap H locs → lv_has ls 5 [(0, .ref (xa 0)), (1, .int x1), (2, .int x2), (3, .int x3), (4, .int x4)] → G_X7_isRest p l e s m below meth c G cA A xa ka ra na ia ua va ca za pa qa X K R P L P2 L2 Tn Ti Tu Tv C Z q0 q1 q2 q3 q4 q5 x1₀ r0 H locs (F0 m 35 ls []) := by
  obtain ⟨hx, hb, hr, hml, hT, hown, hlocks, hK, hN, hA⟩ := id F
  induction N with
  | zero =>
    intro x4 H locs ls h
    replace h : (none : Option (Int32)) = some r0 := h
    cases h
  | succ N hk35 =>
    intro x4 H locs ls h hP hD hS hl
    replace h : fB_X7_isRest_L35 pa qa X P q4 x1 x2 x3 (lpF (fun _ => none) (fB_X7_isRest_L35 pa qa X P q4 x1 x2 x3) N) x4 = some r0 := h
    generalize hk35e : lpF (fun _ => none) (fB_X7_isRest_L35 pa qa X P q4 x1 x2 x3) N = k35 at h hk35
    unfold fB_X7_isRest_L35 at h
    refine lv_iload hx hb dX7_isRest_35 (lv_at hl 4 rfl) ?_
    refine lv_aload_n hx hb dX7_isRest_37 rfl (lv_at hl 0 rfl) ?_
    refine va_get (D := G) (ci := 7) (v := .ref q4) (C := RX7) (T := TX7) (N := 12) hx hb hT ku_7 hown hK hP 0 rfl rfl 1 (by decide) (hT _ kw_1_20) (fun _ h9 => h9) rfl dX7_isRest_38 ?_
    replace h := tx_ck h
    obtain ⟨g6, h⟩ := h
    have eg6 := of_decide_eq_true g6
    subst eg6
    refine va_get (D := G) (ci := 2) (v := .int (P 0 0)) (C := RX2) (T := TX2) (N := 19) hx hb hT ku_2 hown hK hP 9 rfl rfl 0 (by decide) (hT _ kw_32_2) (fun _ h9 => h9) rfl dX7_isRest_41 ?_
    refine lv_icmp_ge (tgt := 95) hx hb dX7_isRest_44 (by decide) (fun c7 => ?_) (fun c7 => ?_)
    · replace h := tx_pos c7 h
      refine lv_iconst (v := 1) hx hb dX7_isRest_95 (by decide) ?_
      obtain rfl := tx_1 h
      exact W.zret (ty := .boolean) hx hb hr rfl (fun t ht hW => ⟨⟨_, (), rfl, rfl, by rw [ht]; exact hP, hD⟩, hS.F ht⟩) hS.2.2 dX7_isRest_96
    · replace h := tx_neg c7 h
      refine lv_aload_n hx hb dX7_isRest_47 rfl (lv_at hl 0 rfl) ?_
      refine va_get (D := G) (ci := 7) (v := .ref (xa 11)) (C := RX7) (T := TX7) (N := 12) hx hb hT ku_7 hown hK hP 0 rfl rfl 10 (by decide) (hT _ kw_2_15) (fun _ h9 => h9) rfl dX7_isRest_48 ?_
      refine lv_iload hx hb dX7_isRest_51 (lv_at hl 4 rfl) ?_
      refine lv_iconst (v := 5) hx hb dX7_isRest_53 (by decide) ?_
      refine lv_imul hx hb dX7_isRest_54 ?_
      refine lv_iload_n hx hb dX7_isRest_55 rfl (lv_at hl 3 rfl) ?_
      refine lv_iadd hx hb dX7_isRest_56 ?_
      replace h := tx_ck h
      obtain ⟨g8, h⟩ := h
      refine va_iald (i := ((x4 * 5) + x3)) hx hb hK hP 2 0 rfl rfl (tx_in g8) dX7_isRest_57 ?_
      refine lv_aload_n hx hb dX7_isRest_58 rfl (lv_at hl 0 rfl) ?_
      refine va_get (D := G) (ci := 7) (v := .ref (xa 11)) (C := RX7) (T := TX7) (N := 12) hx hb hT ku_7 hown hK hP 0 rfl rfl 10 (by decide) (hT _ kw_2_15) (fun _ h9 => h9) rfl dX7_isRest_59 ?_
      refine lv_iload_n hx hb dX7_isRest_62 rfl (lv_at hl 1 rfl) ?_
      replace h := tx_ck h
      obtain ⟨g9, h⟩ := h
      refine va_iald (i := x1) hx hb hK hP 2 0 rfl rfl (tx_in g9) dX7_isRest_63 ?_
      refine lv_icmp_lt (tgt := 87) hx hb dX7_isRest_64 (by decide) (fun c10 => ?_) (fun c10 => ?_)
      · replace h := tx_pos c10 h
        refine lv_iconst (v := 0) hx hb dX7_isRest_87 (by decide) ?_
        obtain rfl := tx_1 h
        exact W.zret (ty := .boolean) hx hb hr rfl (fun t ht hW => ⟨⟨_, (), rfl, rfl, by rw [ht]; exact hP, hD⟩, hS.F ht⟩) hS.2.2 dX7_isRest_88
      · replace h := tx_neg c10 h
        refine lv_aload_n hx hb dX7_isRest_67 rfl (lv_at hl 0 rfl) ?_
        refine va_get (D := G) (ci := 7) (v := .ref (xa 12)) (C := RX7) (T := TX7) (N := 12) hx hb hT ku_7 hown hK hP 0 rfl rfl 11 (by decide) (hT _ kw_2_16) (fun _ h9 => h9) rfl dX7_isRest_68 ?_
        refine lv_iload_n hx hb dX7_isRest_71 rfl (lv_at hl 2 rfl) ?_
        refine lv_iconst (v := 5) hx hb dX7_isRest_72 (by decide) ?_
        refine lv_imul hx hb dX7_isRest_73 ?_
        refine lv_iload hx hb dX7_isRest_74 (lv_at hl 4 rfl) ?_
        refine lv_iadd hx hb dX7_isRest_76 ?_
        replace h := tx_ck h
        obtain ⟨g11, h⟩ := h
        refine va_iald (i := ((x2 * 5) + x4)) hx hb hK hP 3 0 rfl rfl (tx_in g11) dX7_isRest_77 ?_
        refine lv_aload_n hx hb dX7_isRest_78 rfl (lv_at hl 0 rfl) ?_
        refine va_get (D := G) (ci := 7) (v := .ref (xa 12)) (C := RX7) (T := TX7) (N := 12) hx hb hT ku_7 hown hK hP 0 rfl rfl 11 (by decide) (hT _ kw_2_16) (fun _ h9 => h9) rfl dX7_isRest_79 ?_
        refine lv_iload_n hx hb dX7_isRest_82 rfl (lv_at hl 1 rfl) ?_
        refine va_iald (i := x1) hx hb hK hP 3 0 rfl rfl (tx_in g9) dX7_isRest_83 ?_
        refine lv_icmp_ge (tgt := 89) hx hb dX7_isRest_84 (by decide) (fun c12 => ?_) (fun c12 => ?_)
        · replace h := tx_pos c12 h
          replace h := tx_lt h
          obtain ⟨y13, ey13, h⟩ := h
          refine lv_iinc (v := y13) (lv' := [(4, .int y13), (0, .ref (xa 0)), (1, .int x1), (2, .int x2), (3, .int x3)]) hx hb dX7_isRest_89 hl (k := 4) rfl ey13 (by decide) rfl (fun ls hl => ?_)
          refine lv_goto (tgt := 35) hx hb dX7_isRest_92 (by decide) ?_
          exact hk35 y13 H locs ls h hP hD hS (lv_sub hl [1, 2, 3, 4, 0] rfl)
        · replace h := tx_neg c12 h
          refine lv_iconst (v := 0) hx hb dX7_isRest_87 (by decide) ?_
          obtain rfl := tx_1 h
          exact W.zret (ty := .boolean) hx hb hr rfl (fun t ht hW => ⟨⟨_, (), rfl, rfl, by rw [ht]; exact hP, hD⟩, hS.F ht⟩) hS.2.2 dX7_isRest_88
set_option maxHeartbeats 4000000 in
set_option maxRecDepth 100000 in
theorem c_X7_isRest (l : Launch) (G : va_G) (cA : Nat → ClassId) (sz : Nat) (xa : Nat → Nat) (ka : Nat → Nat) (ra : Nat → Nat) (na : Nat → Nat) (ia : Nat → Nat) (ua : Nat → Nat) (va : Nat → Nat) (ca : Nat → Nat) (za : Nat → Nat) (pa : Nat → Nat) (qa : Nat → Nat) (X : Tr) (K : Tr) (R : Tr) (P : Tr) (L : Lo) (P2 : Tr) (L2 : Lo) (Tn : Tr) (Ti : Tr) (Tu : Tr) (Tv : Tr) (C : Tr) (Z : Tr) (q0 : Nat) (q1 : Nat) (q2 : Nat) (q3 : Nat) (q4 : Nat) (q5 : Nat) (x1 : Int32)  (r0 : Int32) (h : f_X7_isRest pa qa X P q4 x1 = some r0) : Met l yX7_isRest (.code yX7_isRest cX7_isRest 5 (some .boolean) :: T0) ({ frames := 0, cells := 0, slots := 0, locals := 0 } : Room) (tqP G cA [.ref (xa 0), .int x1] (wX cA xa ka ra na ia ua va ca za pa qa X K R P L P2 L2 Tn Ti Tu Tv C Z q0 q1 q2 q3 q4 q5) sz) (tqQi G cA (fun (r : Int32) (_ : Unit) => r = r0) (fun (_ : Unit) => wX cA xa ka ra na ia ua va ca za pa qa X K R P L P2 L2 Tn Ti Tu Tv C Z q0 q1 q2 q3 q4 q5) (va_A (wX cA xa ka ra na ia ua va ca za pa qa X K R P L P2 L2 Tn Ti Tu Tv C Z q0 q1 q2 q3 q4 q5) sz)) 0 0 (va_A (wX cA xa ka ra na ia ua va ca za pa qa X K R P L P2 L2 Tn Ti Tu Tv C Z q0 q1 q2 q3 q4 q5) sz) := by
  refine Met.ofW (cc := cX7_isRest) (maxL := 5) (ret := (some .boolean)) (by decide) rfl ?_
  intro p e s m args below meth c s₁ B hml hv
  obtain ⟨rfl, hsz, hP, hK, hD0, hN⟩ := hv
  have hx := B.exec
  have hb := B.bytes
  have hr := B.returns
  have hts := atoms_spec (ws := .code yX7_isRest cX7_isRest 5 (some .boolean) :: T0) B.pre
  have hT : ∀ w ∈ T0, w.before _ s = true := fun w h => hts w (List.mem_cons_of_mem _ h)
  have hown : s.vm.findClass RX7 = some m.cls := findClass_of_methodNamed B.named
  have hlocks := B.notSynchronized
  subst hsz
  have hD := hD0.self (sz := s.heap.size)
  generalize hAe : va_A (wX cA xa ka ra na ia ua va ca za pa qa X K R P L P2 L2 Tn Ti Tu Tv C Z q0 q1 q2 q3 q4 q5) s.heap.size = A at hD ⊢
  have hA : ∀ q : Nat, s.heap.size ≤ q → A q := fun q h => by rw [← hAe]; exact Or.inr h
  have hS : va_S A s.heap s.heap [] := va_S.rf
  have hl := lv_entry ([.ref (xa 0), .int x1]) (n := 5) (Nat.le_of_ble_eq_true rfl)
  rw [lg_entry_eq]
  generalize (lg_sl ([.ref (xa 0), .int x1]) ++ List.replicate (5 - (lg_sl ([.ref (xa 0), .int x1])).length) Slot.unset).toArray = ls at hl ⊢
  have hl : lv_has ls 5 [(0, .ref (xa 0)), (1, .int x1)] := hl
  have F : tF p s m ([.ref (xa 0), .int x1] : List Value).toArray meth c G cA A RX7 cX7_isRest 5 (some .boolean) := ⟨hx, hb, hr, hml, hT, hown, hlocks, hK, hN, hA⟩
  obtain ⟨H, hH⟩ : ∃ z, z = s.heap := ⟨_, rfl⟩
  rw [← hH] at hP
  have hS : va_S A s.heap H [] := by rw [hH]; exact hS
  suffices hgo : G_X7_isRest p l e s m below meth c G cA A xa ka ra na ia ua va ca za pa qa X K R P L P2 L2 Tn Ti Tu Tv C Z q0 q1 q2 q3 q4 q5 x1 r0 H [] (F0 m 0 ls []) by rw [hH] at hgo; exact hgo
  generalize ([] : List Loc) = locs at hS ⊢
  unfold f_X7_isRest at h
  refine lv_iload_n hx hb dX7_isRest_0 rfl (lv_at hl 1 rfl) ?_
  refine lv_iconst (v := 5) hx hb dX7_isRest_1 (by decide) ?_
  refine lv_idiv hx hb dX7_isRest_2 (by decide) ?_
  refine lv_topi (fun y1 ey1 => ?_)
  replace h := tx_let ey1 h
  refine lv_istore_n (lv' := [(2, .int y1), (0, .ref (xa 0)), (1, .int x1)]) hx hb dX7_isRest_3 rfl hl (by decide) rfl (fun ls hl => ?_)
  refine lv_iload_n hx hb dX7_isRest_4 rfl (lv_at hl 2 rfl) ?_
  refine lv_iconst (v := 5) hx hb dX7_isRest_5 (by decide) ?_
  refine lv_irem hx hb dX7_isRest_6 (by decide) ?_
  refine lv_topi (fun y2 ey2 => ?_)
  replace h := tx_let ey2 h
  refine lv_istore_n (lv' := [(3, .int y2), (2, .int y1), (0, .ref (xa 0)), (1, .int x1)]) hx hb dX7_isRest_7 rfl hl (by decide) rfl (fun ls hl => ?_)
  refine lv_iload_n hx hb dX7_isRest_8 rfl (lv_at hl 1 rfl) ?_
  refine lv_aload_n hx hb dX7_isRest_9 rfl (lv_at hl 2 rfl) ?_
  refine va_get (D := G) (ci := 7) (v := .ref q4) (C := RX7) (T := TX7) (N := 12) hx hb hT ku_7 hown hK hP 0 rfl rfl 1 (by decide) (hT _ kw_1_20) (fun _ h9 => h9) rfl dX7_isRest_10 ?_
  replace h := tx_ck h
  obtain ⟨g3, h⟩ := h
  have eg3 := of_decide_eq_true g3
  subst eg3
  refine va_get (D := G) (ci := 2) (v := .int (P 0 0)) (C := RX2) (T := TX2) (N := 19) hx hb hT ku_2 hown hK hP 9 rfl rfl 0 (by decide) (hT _ kw_32_2) (fun _ h9 => h9) rfl dX7_isRest_13 ?_
  refine lv_icmp_ge (tgt := 30) hx hb dX7_isRest_16 (by decide) (fun c4 => ?_) (fun c4 => ?_)
  · replace h := tx_pos c4 h
    refine lv_iconst (v := 0) hx hb dX7_isRest_30 (by decide) ?_
    obtain rfl := tx_1 h
    exact W.zret (ty := .boolean) hx hb hr rfl (fun t ht hW => ⟨⟨_, (), rfl, rfl, by rw [ht]; exact hP, hD⟩, hS.F ht⟩) hS.2.2 dX7_isRest_31
  · replace h := tx_neg c4 h
    refine lv_iload_n hx hb dX7_isRest_19 rfl (lv_at hl 0 rfl) ?_
    refine lv_aload_n hx hb dX7_isRest_20 rfl (lv_at hl 2 rfl) ?_
    refine va_get (D := G) (ci := 7) (v := .ref (pa 0)) (C := RX7) (T := TX7) (N := 12) hx hb hT ku_7 hown hK hP 0 rfl rfl 1 (by decide) (hT _ kw_1_20) (fun _ h9 => h9) rfl dX7_isRest_21 ?_
    refine va_get (D := G) (ci := 2) (v := .int (P 0 0)) (C := RX2) (T := TX2) (N := 19) hx hb hT ku_2 hown hK hP 9 rfl rfl 0 (by decide) (hT _ kw_32_2) (fun _ h9 => h9) rfl dX7_isRest_24 ?_
    refine lv_icmp_lt (tgt := 32) hx hb dX7_isRest_27 (by decide) (fun c5 => ?_) (fun c5 => ?_)
    · replace h := tx_pos c5 h
      refine lv_iconst (v := 0) hx hb dX7_isRest_32 (by decide) ?_
      refine lv_istore (lv' := [(4, .int 0), (3, .int y2), (2, .int y1), (0, .ref (xa 0)), (1, .int x1)]) hx hb dX7_isRest_33 hl (by decide) rfl (fun ls hl => ?_)
      exact w_X7_isRest_L35 F 2000 0 H locs ls h hP hD hS (lv_sub hl [3, 4, 2, 1, 0] rfl)
    · replace h := tx_neg c5 h
      refine lv_iconst (v := 0) hx hb dX7_isRest_30 (by decide) ?_
      obtain rfl := tx_1 h
      exact W.zret (ty := .boolean) hx hb hr rfl (fun t ht hW => ⟨⟨_, (), rfl, rfl, by rw [ht]; exact hP, hD⟩, hS.F ht⟩) hS.2.2 dX7_isRest_31
abbrev G_X7_keep (p : Program) (l : Launch) (e : Env) (s : State) (m : MethodId) (below : List Frame) (meth : Method) (c : Code) (G : va_G) (cA : Nat → ClassId) (A : Nat → Prop) (xa : Nat → Nat) (ka : Nat → Nat) (ra : Nat → Nat) (na : Nat → Nat) (ia : Nat → Nat) (ua : Nat → Nat) (va : Nat → Nat) (ca : Nat → Nat) (za : Nat → Nat) (pa : Nat → Nat) (qa : Nat → Nat) (K : Tr) (R : Tr) (P : Tr) (L : Lo) (P2 : Tr) (L2 : Lo) (Tn : Tr) (Tu : Tr) (Tv : Tr) (C : Tr) (Z : Tr) (q0 : Nat) (q2 : Nat) (q3 : Nat) (q4 : Nat) (q5 : Nat) (r0 : Int32) (X' : Tr) (Ti' : Tr) (q1' : Nat) (H : Heap) (locs : List Loc) (g : JFrame) : Prop := W p l e (headSpec (.code yX7_keep cX7_keep 1 (some .int) :: T0) ({ frames := 2, cells := 0, slots := 0, locals := 61 } : Room)).room s m ([.ref (xa 0)] : List Value).toArray below meth c H locs 0 0 (MQ below (tqQi G cA (fun (r : Int32) (_ : Unit) => r = r0) (fun (_ : Unit) => wX cA xa ka ra na ia ua va ca za pa qa (X') K R P L P2 L2 Tn (Ti') Tu Tv C Z q0 (q1') q2 q3 q4 q5) A) ([.ref (xa 0)] : List Value).toArray s 0 0 A) g
set_option maxHeartbeats 4000000 in
set_option maxRecDepth 100000 in
theorem c_X7_keep (l : Launch) (G : va_G) (cA : Nat → ClassId) (sz : Nat) (xa : Nat → Nat) (ka : Nat → Nat) (ra : Nat → Nat) (na : Nat → Nat) (ia : Nat → Nat) (ua : Nat → Nat) (va : Nat → Nat) (ca : Nat → Nat) (za : Nat → Nat) (pa : Nat → Nat) (qa : Nat → Nat) (X : Tr) (K : Tr) (R : Tr) (P : Tr) (L : Lo) (P2 : Tr) (L2 : Lo) (Tn : Tr) (Ti : Tr) (Tu : Tr) (Tv : Tr) (C : Tr) (Z : Tr) (q0 : Nat) (q1 : Nat) (q2 : Nat) (q3 : Nat) (q4 : Nat) (q5 : Nat)  (r0 : Int32) (X' : Tr) (Ti' : Tr) (q1' : Nat) (h : f_X7_keep pa qa X Tn Ti q0 q1 = some (r0, X', Ti', q1')) : Met l yX7_keep (.code yX7_keep cX7_keep 1 (some .int) :: T0) ({ frames := 2, cells := 0, slots := 0, locals := 61 } : Room) (tqP G cA [.ref (xa 0)] (wX cA xa ka ra na ia ua va ca za pa qa X K R P L P2 L2 Tn Ti Tu Tv C Z q0 q1 q2 q3 q4 q5) sz) (tqQi G cA (fun (r : Int32) (_ : Unit) => r = r0) (fun (_ : Unit) => wX cA xa ka ra na ia ua va ca za pa qa (X') K R P L P2 L2 Tn (Ti') Tu Tv C Z q0 (q1') q2 q3 q4 q5) (va_A (wX cA xa ka ra na ia ua va ca za pa qa X K R P L P2 L2 Tn Ti Tu Tv C Z q0 q1 q2 q3 q4 q5) sz)) 0 0 (va_A (wX cA xa ka ra na ia ua va ca za pa qa X K R P L P2 L2 Tn Ti Tu Tv C Z q0 q1 q2 q3 q4 q5) sz) := by
  refine Met.ofW (cc := cX7_keep) (maxL := 1) (ret := (some .int)) (by decide) rfl ?_
  intro p e s m args below meth c s₁ B hml hv
  obtain ⟨rfl, hsz, hP, hK, hD0, hN⟩ := hv
  have hx := B.exec
  have hb := B.bytes
  have hr := B.returns
  have hts := atoms_spec (ws := .code yX7_keep cX7_keep 1 (some .int) :: T0) B.pre
  have hT : ∀ w ∈ T0, w.before _ s = true := fun w h => hts w (List.mem_cons_of_mem _ h)
  have hown : s.vm.findClass RX7 = some m.cls := findClass_of_methodNamed B.named
  have hlocks := B.notSynchronized
  subst hsz
  have hD := hD0.self (sz := s.heap.size)
  generalize hAe : va_A (wX cA xa ka ra na ia ua va ca za pa qa X K R P L P2 L2 Tn Ti Tu Tv C Z q0 q1 q2 q3 q4 q5) s.heap.size = A at hD ⊢
  have hA : ∀ q : Nat, s.heap.size ≤ q → A q := fun q h => by rw [← hAe]; exact Or.inr h
  have hS : va_S A s.heap s.heap [] := va_S.rf
  have hl := lv_entry ([.ref (xa 0)]) (n := 1) (Nat.le_of_ble_eq_true rfl)
  rw [lg_entry_eq]
  generalize (lg_sl ([.ref (xa 0)]) ++ List.replicate (1 - (lg_sl ([.ref (xa 0)])).length) Slot.unset).toArray = ls at hl ⊢
  have hl : lv_has ls 1 [(0, .ref (xa 0))] := hl
  have F : tF p s m ([.ref (xa 0)] : List Value).toArray meth c G cA A RX7 cX7_keep 1 (some .int) := ⟨hx, hb, hr, hml, hT, hown, hlocks, hK, hN, hA⟩
  obtain ⟨H, hH⟩ : ∃ z, z = s.heap := ⟨_, rfl⟩
  rw [← hH] at hP
  have hS : va_S A s.heap H [] := by rw [hH]; exact hS
  suffices hgo : G_X7_keep p l e s m below meth c G cA A xa ka ra na ia ua va ca za pa qa K R P L P2 L2 Tn Tu Tv C Z q0 q2 q3 q4 q5 r0 X' Ti' q1' H [] (F0 m 0 ls []) by rw [hH] at hgo; exact hgo
  generalize ([] : List Loc) = locs at hS ⊢
  unfold f_X7_keep at h
  refine lv_aload_n hx hb dX7_keep_0 rfl (lv_at hl 0 rfl) ?_
  refine va_get (D := G) (ci := 7) (v := .ref (ia 0)) (C := RX7) (T := TX7) (N := 12) hx hb hT ku_7 hown hK hP 0 rfl rfl 3 (by decide) (hT _ kw_2_1) (fun _ h9 => h9) rfl dX7_keep_1 ?_
  refine lv_aload_n hx hb dX7_keep_4 rfl (lv_at hl 0 rfl) ?_
  refine va_get (D := G) (ci := 7) (v := .ref (na 0)) (C := RX7) (T := TX7) (N := 12) hx hb hT ku_7 hown hK hP 0 rfl rfl 2 (by decide) (hT _ kw_2_0) (fun _ h9 => h9) rfl dX7_keep_5 ?_
  replace h := tx_bd h
  obtain ⟨⟨Ti_1, q1_2⟩, hc3, h⟩ := h
  replace h := tx_let (y := Ti_1) rfl h
  replace h := tx_let (y := q1_2) rfl h
  refine tw_cv pX_ia_na hP hD hS hA (va_runV (As := [.ref (na 0)]) (rest := []) ⟨hx, hb, hml, hown, hT⟩ (c_X6_copy l G cA H.size ia na Ti Tn q1 q0  Ti_1 q1_2 hc3) (cwV 1 hT (tq_gV kw_38_6 kw_38_7 kw_38_8 kw_1_23 kw_38_9) rfl rfl rfl dkdV_yX6_copy_1 ⟨Nat.le_of_ble_eq_true rfl, Nat.le_of_ble_eq_true rfl⟩) ⟨(tw_pre pX_ia_na hP hD hK hN).1, va_recv hK hP (ci := 6) (q0 := 65) rfl rfl, (tw_pre pX_ia_na hP hD hK hN).2⟩ rfl rfl hl.1 rfl (lv_room (Nat.le_of_ble_eq_true rfl)) dX7_keep_8 ⟨Nat.le_of_ble_eq_true rfl, Nat.le_of_ble_eq_true rfl⟩) (fun _ H locs z4 hP hD hS => ?_)
  replace hP := tw_P pX_ia_na.symm hP
  replace hD := tw_D pX_ia_na.symm hD
  have hP : va_P G vwCl (wX cA xa ka ra na ia ua va ca za pa qa X K R P L P2 L2 Tn Ti_1 Tu Tv C Z q0 q1_2 q2 q3 q4 q5) H := hP
  have hD : va_D A (wX cA xa ka ra na ia ua va ca za pa qa X K R P L P2 L2 Tn Ti_1 Tu Tv C Z q0 q1_2 q2 q3 q4 q5) := hD
  refine lv_aload_n hx hb dX7_keep_11 rfl (lv_at hl 0 rfl) ?_
  refine lv_iconst (v := 1) hx hb dX7_keep_12 (by decide) ?_
  refine va_put (D := G) (ci := 7) (v := .int 1) (ty := .boolean) (C := RX7) (T := TX7) (N := 12) hx hb hT ku_7 tyX7 tyX7_ok nmX7 hown hK hP hD hS 0 rfl rfl 4 (by decide) (hT _ kw_2_2) (fun _ h9 => h9) rfl (by decide +kernel) rfl rfl (Nat.le_of_ble_eq_true rfl) dX7_keep_13 (fun H locs hP hD hS => ?_)
  replace h := tx_lt h
  obtain ⟨X_5, eX_5, h⟩ := h
  rw [sX_xa_f4, eX_5] at hP hD
  refine lv_aload_n hx hb dX7_keep_16 rfl (lv_at hl 0 rfl) ?_
  refine va_get (D := G) (ci := 7) (v := .ref (na 0)) (C := RX7) (T := TX7) (N := 12) hx hb hT ku_7 hown hK hP 0 rfl rfl 2 (by decide) (hT _ kw_2_0) (fun _ h9 => h9) rfl dX7_keep_17 ?_
  refine va_get (D := G) (ci := 6) (v := .int (Tn 0 0)) (C := RX6) (T := TX6) (N := 20) hx hb hT ku_6 hown hK hP 53 rfl rfl 0 (by decide) (hT _ kw_40_5) (fun _ h9 => h9) rfl dX7_keep_20 ?_
  obtain ⟨rfl, rfl, rfl, rfl⟩ := tx_4 h
  exact W.iret hx hb hr (fun t ht hW => ⟨⟨_, (), rfl, rfl, by rw [ht]; exact hP, hD⟩, hS.F ht⟩) hS.2.2 dX7_keep_23
abbrev G_X7_known (p : Program) (l : Launch) (e : Env) (s : State) (m : MethodId) (below : List Frame) (meth : Method) (c : Code) (G : va_G) (cA : Nat → ClassId) (A : Nat → Prop) (xa : Nat → Nat) (ka : Nat → Nat) (ra : Nat → Nat) (na : Nat → Nat) (ia : Nat → Nat) (ua : Nat → Nat) (va : Nat → Nat) (ca : Nat → Nat) (za : Nat → Nat) (pa : Nat → Nat) (qa : Nat → Nat) (X : Tr) (K : Tr) (R : Tr) (P : Tr) (L : Lo) (P2 : Tr) (L2 : Lo) (Tn : Tr) (Ti : Tr) (Tu : Tr) (Tv : Tr) (C : Tr) (q0 : Nat) (q1 : Nat) (q2 : Nat) (q3 : Nat) (q4 : Nat) (q5 : Nat) (x1 : Int32) (r0 : Int32) (Z' : Tr) (H : Heap) (locs : List Loc) (g : JFrame) : Prop := W p l e (headSpec (.code yX7_known cX7_known 2 (some .boolean) :: T0) ({ frames := 0, cells := 0, slots := 0, locals := 0 } : Room)).room s m ([.ref (xa 0), .int x1] : List Value).toArray below meth c H locs 0 0 (MQ below (tqQi G cA (fun (r : Int32) (_ : Unit) => r = r0) (fun (_ : Unit) => wX cA xa ka ra na ia ua va ca za pa qa X K R P L P2 L2 Tn Ti Tu Tv C (Z') q0 q1 q2 q3 q4 q5) A) ([.ref (xa 0), .int x1] : List Value).toArray s 0 0 A) g
set_option maxHeartbeats 4000000 in
set_option maxRecDepth 100000 in
theorem c_X7_known (l : Launch) (G : va_G) (cA : Nat → ClassId) (sz : Nat) (xa : Nat → Nat) (ka : Nat → Nat) (ra : Nat → Nat) (na : Nat → Nat) (ia : Nat → Nat) (ua : Nat → Nat) (va : Nat → Nat) (ca : Nat → Nat) (za : Nat → Nat) (pa : Nat → Nat) (qa : Nat → Nat) (X : Tr) (K : Tr) (R : Tr) (P : Tr) (L : Lo) (P2 : Tr) (L2 : Lo) (Tn : Tr) (Ti : Tr) (Tu : Tr) (Tv : Tr) (C : Tr) (Z : Tr) (q0 : Nat) (q1 : Nat) (q2 : Nat) (q3 : Nat) (q4 : Nat) (q5 : Nat) (x1 : Int32)  (r0 : Int32) (Z' : Tr) (h : f_X7_known pa qa Z x1 = some (r0, Z')) : Met l yX7_known (.code yX7_known cX7_known 2 (some .boolean) :: T0) ({ frames := 0, cells := 0, slots := 0, locals := 0 } : Room) (tqP G cA [.ref (xa 0), .int x1] (wX cA xa ka ra na ia ua va ca za pa qa X K R P L P2 L2 Tn Ti Tu Tv C Z q0 q1 q2 q3 q4 q5) sz) (tqQi G cA (fun (r : Int32) (_ : Unit) => r = r0) (fun (_ : Unit) => wX cA xa ka ra na ia ua va ca za pa qa X K R P L P2 L2 Tn Ti Tu Tv C (Z') q0 q1 q2 q3 q4 q5) (va_A (wX cA xa ka ra na ia ua va ca za pa qa X K R P L P2 L2 Tn Ti Tu Tv C Z q0 q1 q2 q3 q4 q5) sz)) 0 0 (va_A (wX cA xa ka ra na ia ua va ca za pa qa X K R P L P2 L2 Tn Ti Tu Tv C Z q0 q1 q2 q3 q4 q5) sz) := by
  refine Met.ofW (cc := cX7_known) (maxL := 2) (ret := (some .boolean)) (by decide) rfl ?_
  intro p e s m args below meth c s₁ B hml hv
  obtain ⟨rfl, hsz, hP, hK, hD0, hN⟩ := hv
  have hx := B.exec
  have hb := B.bytes
  have hr := B.returns
  have hts := atoms_spec (ws := .code yX7_known cX7_known 2 (some .boolean) :: T0) B.pre
  have hT : ∀ w ∈ T0, w.before _ s = true := fun w h => hts w (List.mem_cons_of_mem _ h)
  have hown : s.vm.findClass RX7 = some m.cls := findClass_of_methodNamed B.named
  have hlocks := B.notSynchronized
  subst hsz
  have hD := hD0.self (sz := s.heap.size)
  generalize hAe : va_A (wX cA xa ka ra na ia ua va ca za pa qa X K R P L P2 L2 Tn Ti Tu Tv C Z q0 q1 q2 q3 q4 q5) s.heap.size = A at hD ⊢
  have hA : ∀ q : Nat, s.heap.size ≤ q → A q := fun q h => by rw [← hAe]; exact Or.inr h
  have hS : va_S A s.heap s.heap [] := va_S.rf
  have hl := lv_entry ([.ref (xa 0), .int x1]) (n := 2) (Nat.le_of_ble_eq_true rfl)
  rw [lg_entry_eq]
  generalize (lg_sl ([.ref (xa 0), .int x1]) ++ List.replicate (2 - (lg_sl ([.ref (xa 0), .int x1])).length) Slot.unset).toArray = ls at hl ⊢
  have hl : lv_has ls 2 [(0, .ref (xa 0)), (1, .int x1)] := hl
  have F : tF p s m ([.ref (xa 0), .int x1] : List Value).toArray meth c G cA A RX7 cX7_known 2 (some .boolean) := ⟨hx, hb, hr, hml, hT, hown, hlocks, hK, hN, hA⟩
  obtain ⟨H, hH⟩ : ∃ z, z = s.heap := ⟨_, rfl⟩
  rw [← hH] at hP
  have hS : va_S A s.heap H [] := by rw [hH]; exact hS
  suffices hgo : G_X7_known p l e s m below meth c G cA A xa ka ra na ia ua va ca za pa qa X K R P L P2 L2 Tn Ti Tu Tv C q0 q1 q2 q3 q4 q5 x1 r0 Z' H [] (F0 m 0 ls []) by rw [hH] at hgo; exact hgo
  generalize ([] : List Loc) = locs at hS ⊢
  unfold f_X7_known at h
  refine lv_iload_n hx hb dX7_known_0 rfl (lv_at hl 1 rfl) ?_
  refine lv_iconst (v := (-1)) hx hb dX7_known_1 (by decide) ?_
  refine lv_icmp_lt (tgt := 16) hx hb dX7_known_2 (by decide) (fun c1 => ?_) (fun c1 => ?_)
  · replace h := tx_pos c1 h
    refine lv_iconst (v := 0) hx hb dX7_known_16 (by decide) ?_
    obtain ⟨rfl, rfl⟩ := tx_2 h
    exact W.zret (ty := .boolean) hx hb hr rfl (fun t ht hW => ⟨⟨_, (), rfl, rfl, by rw [ht]; exact hP, hD⟩, hS.F ht⟩) hS.2.2 dX7_known_17
  · replace h := tx_neg c1 h
    refine lv_iload_n hx hb dX7_known_5 rfl (lv_at hl 1 rfl) ?_
    refine lv_aload_n hx hb dX7_known_6 rfl (lv_at hl 0 rfl) ?_
    refine va_get (D := G) (ci := 7) (v := .ref (za 0)) (C := RX7) (T := TX7) (N := 12) hx hb hT ku_7 hown hK hP 0 rfl rfl 8 (by decide) (hT _ kw_2_12) (fun _ h9 => h9) rfl dX7_known_7 ?_
    refine va_get (D := G) (ci := 4) (v := .int (Z 0 0)) (C := RX4) (T := TX4) (N := 7) hx hb hT ku_4 hown hK hP 103 rfl rfl 0 (by decide) (hT _ kw_54_17) (fun _ h9 => h9) rfl dX7_known_10 ?_
    refine lv_icmp_le (tgt := 18) hx hb dX7_known_13 (by decide) (fun c2 => ?_) (fun c2 => ?_)
    · replace h := tx_pos c2 h
      refine lv_aload_n hx hb dX7_known_18 rfl (lv_at hl 0 rfl) ?_
      refine va_get (D := G) (ci := 7) (v := .ref (za 0)) (C := RX7) (T := TX7) (N := 12) hx hb hT ku_7 hown hK hP 0 rfl rfl 8 (by decide) (hT _ kw_2_12) (fun _ h9 => h9) rfl dX7_known_19 ?_
      refine lv_iload_n hx hb dX7_known_22 rfl (lv_at hl 1 rfl) ?_
      refine va_put (D := G) (ci := 4) (v := .int x1) (ty := .int) (C := RX4) (T := TX4) (N := 7) hx hb hT ku_4 tyX4 tyX4_ok nmX4 hown hK hP hD hS 103 rfl rfl 1 (by decide) (hT _ kw_55_2) (fun _ h9 => h9) rfl (by decide +kernel) rfl rfl (Nat.le_of_ble_eq_true rfl) dX7_known_23 (fun H locs hP hD hS => ?_)
      replace h := tx_lt h
      obtain ⟨Z_3, eZ_3, h⟩ := h
      rw [sX_za_f1, eZ_3] at hP hD
      refine lv_iconst (v := 1) hx hb dX7_known_26 (by decide) ?_
      obtain ⟨rfl, rfl⟩ := tx_2 h
      exact W.zret (ty := .boolean) hx hb hr rfl (fun t ht hW => ⟨⟨_, (), rfl, rfl, by rw [ht]; exact hP, hD⟩, hS.F ht⟩) hS.2.2 dX7_known_27
    · replace h := tx_neg c2 h
      refine lv_iconst (v := 0) hx hb dX7_known_16 (by decide) ?_
      obtain ⟨rfl, rfl⟩ := tx_2 h
      exact W.zret (ty := .boolean) hx hb hr rfl (fun t ht hW => ⟨⟨_, (), rfl, rfl, by rw [ht]; exact hP, hD⟩, hS.F ht⟩) hS.2.2 dX7_known_17
abbrev G_X7_law (p : Program) (l : Launch) (e : Env) (s : State) (m : MethodId) (below : List Frame) (meth : Method) (c : Code) (G : va_G) (cA : Nat → ClassId) (A : Nat → Prop) (xa : Nat → Nat) (ka : Nat → Nat) (ra : Nat → Nat) (na : Nat → Nat) (ia : Nat → Nat) (ua : Nat → Nat) (va : Nat → Nat) (ca : Nat → Nat) (za : Nat → Nat) (pa : Nat → Nat) (qa : Nat → Nat) (X : Tr) (K : Tr) (R : Tr) (P : Tr) (P2 : Tr) (L2 : Lo) (Ti : Tr) (Tu : Tr) (Tv : Tr) (C : Tr) (Z : Tr) (q0 : Nat) (q1 : Nat) (q2 : Nat) (q3 : Nat) (q4 : Nat) (q5 : Nat) (x1 : Int32) (x2 : Int32) (r0 : Int64) (L' : Lo) (Tn' : Tr) (H : Heap) (locs : List Loc) (g : JFrame) : Prop := W p l e (headSpec (.code yX7_law cX7_law 3 (some .long) :: T0) ({ frames := 3, cells := 0, slots := 0, locals := 78 } : Room)).room s m ([.ref (xa 0), .int x1, .int x2] : List Value).toArray below meth c H locs 0 0 (MQ below (tqQl G cA (fun (r : Int64) (_ : Unit) => r = r0) (fun (_ : Unit) => wX cA xa ka ra na ia ua va ca za pa qa X K R P (L') P2 L2 (Tn') Ti Tu Tv C Z q0 q1 q2 q3 q4 q5) A) ([.ref (xa 0), .int x1, .int x2] : List Value).toArray s 0 0 A) g
set_option maxHeartbeats 4000000 in
set_option maxRecDepth 100000 in
theorem c_X7_law (l : Launch) (G : va_G) (cA : Nat → ClassId) (sz : Nat) (xa : Nat → Nat) (ka : Nat → Nat) (ra : Nat → Nat) (na : Nat → Nat) (ia : Nat → Nat) (ua : Nat → Nat) (va : Nat → Nat) (ca : Nat → Nat) (za : Nat → Nat) (pa : Nat → Nat) (qa : Nat → Nat) (X : Tr) (K : Tr) (R : Tr) (P : Tr) (L : Lo) (P2 : Tr) (L2 : Lo) (Tn : Tr) (Ti : Tr) (Tu : Tr) (Tv : Tr) (C : Tr) (Z : Tr) (q0 : Nat) (q1 : Nat) (q2 : Nat) (q3 : Nat) (q4 : Nat) (q5 : Nat) (x1 : Int32) (x2 : Int32)  (r0 : Int64) (L' : Lo) (Tn' : Tr) (h : f_X7_law pa qa P L Tn q0 q4 x1 x2 = some (r0, L', Tn')) : Met l yX7_law (.code yX7_law cX7_law 3 (some .long) :: T0) ({ frames := 3, cells := 0, slots := 0, locals := 78 } : Room) (tqP G cA [.ref (xa 0), .int x1, .int x2] (wX cA xa ka ra na ia ua va ca za pa qa X K R P L P2 L2 Tn Ti Tu Tv C Z q0 q1 q2 q3 q4 q5) sz) (tqQl G cA (fun (r : Int64) (_ : Unit) => r = r0) (fun (_ : Unit) => wX cA xa ka ra na ia ua va ca za pa qa X K R P (L') P2 L2 (Tn') Ti Tu Tv C Z q0 q1 q2 q3 q4 q5) (va_A (wX cA xa ka ra na ia ua va ca za pa qa X K R P L P2 L2 Tn Ti Tu Tv C Z q0 q1 q2 q3 q4 q5) sz)) 0 0 (va_A (wX cA xa ka ra na ia ua va ca za pa qa X K R P L P2 L2 Tn Ti Tu Tv C Z q0 q1 q2 q3 q4 q5) sz) := by
  refine Met.ofW (cc := cX7_law) (maxL := 3) (ret := (some .long)) (by decide) rfl ?_
  intro p e s m args below meth c s₁ B hml hv
  obtain ⟨rfl, hsz, hP, hK, hD0, hN⟩ := hv
  have hx := B.exec
  have hb := B.bytes
  have hr := B.returns
  have hts := atoms_spec (ws := .code yX7_law cX7_law 3 (some .long) :: T0) B.pre
  have hT : ∀ w ∈ T0, w.before _ s = true := fun w h => hts w (List.mem_cons_of_mem _ h)
  have hown : s.vm.findClass RX7 = some m.cls := findClass_of_methodNamed B.named
  have hlocks := B.notSynchronized
  subst hsz
  have hD := hD0.self (sz := s.heap.size)
  generalize hAe : va_A (wX cA xa ka ra na ia ua va ca za pa qa X K R P L P2 L2 Tn Ti Tu Tv C Z q0 q1 q2 q3 q4 q5) s.heap.size = A at hD ⊢
  have hA : ∀ q : Nat, s.heap.size ≤ q → A q := fun q h => by rw [← hAe]; exact Or.inr h
  have hS : va_S A s.heap s.heap [] := va_S.rf
  have hl := lv_entry ([.ref (xa 0), .int x1, .int x2]) (n := 3) (Nat.le_of_ble_eq_true rfl)
  rw [lg_entry_eq]
  generalize (lg_sl ([.ref (xa 0), .int x1, .int x2]) ++ List.replicate (3 - (lg_sl ([.ref (xa 0), .int x1, .int x2])).length) Slot.unset).toArray = ls at hl ⊢
  have hl : lv_has ls 3 [(0, .ref (xa 0)), (1, .int x1), (2, .int x2)] := hl
  have F : tF p s m ([.ref (xa 0), .int x1, .int x2] : List Value).toArray meth c G cA A RX7 cX7_law 3 (some .long) := ⟨hx, hb, hr, hml, hT, hown, hlocks, hK, hN, hA⟩
  obtain ⟨H, hH⟩ : ∃ z, z = s.heap := ⟨_, rfl⟩
  rw [← hH] at hP
  have hS : va_S A s.heap H [] := by rw [hH]; exact hS
  suffices hgo : G_X7_law p l e s m below meth c G cA A xa ka ra na ia ua va ca za pa qa X K R P P2 L2 Ti Tu Tv C Z q0 q1 q2 q3 q4 q5 x1 x2 r0 L' Tn' H [] (F0 m 0 ls []) by rw [hH] at hgo; exact hgo
  generalize ([] : List Loc) = locs at hS ⊢
  unfold f_X7_law at h
  refine lv_iload_n hx hb dX7_law_0 rfl (lv_at hl 1 rfl) ?_
  refine lv_if_lt (tgt := 17) hx hb dX7_law_1 (by decide) (fun c1 => ?_) (fun c1 => ?_)
  · replace h := tx_pos c1 h
    refine lv_ldc2 (v := (-9223372036854775808)) hx hb hown (hT _ kw_33_8) dX7_law_17 ?_
    obtain ⟨rfl, rfl, rfl⟩ := tx_3 h
    exact W.lret hx hb hr (fun t ht hW => ⟨⟨_, (), rfl, rfl, by rw [ht]; exact hP, hD⟩, hS.F ht⟩) hS.2.2 dX7_law_20
  · replace h := tx_neg c1 h
    refine lv_iload_n hx hb dX7_law_4 rfl (lv_at hl 1 rfl) ?_
    refine lv_iconst (v := 3) hx hb dX7_law_5 (by decide) ?_
    refine lv_icmp_ge (tgt := 17) hx hb dX7_law_6 (by decide) (fun c2 => ?_) (fun c2 => ?_)
    · replace h := tx_pos c2 h
      refine lv_ldc2 (v := (-9223372036854775808)) hx hb hown (hT _ kw_33_8) dX7_law_17 ?_
      obtain ⟨rfl, rfl, rfl⟩ := tx_3 h
      exact W.lret hx hb hr (fun t ht hW => ⟨⟨_, (), rfl, rfl, by rw [ht]; exact hP, hD⟩, hS.F ht⟩) hS.2.2 dX7_law_20
    · replace h := tx_neg c2 h
      refine lv_aload_n hx hb dX7_law_9 rfl (lv_at hl 0 rfl) ?_
      refine lv_iload_n hx hb dX7_law_10 rfl (lv_at hl 2 rfl) ?_
      replace h := tx_bd h
      obtain ⟨r3, hc4, h⟩ := h
      refine tz_i (As := [.int x2]) (rest := []) ⟨hx, hb, hml, hown, hT⟩ hP hD hS hA hK hN (c_X7_isPiece l G cA H.size xa ka ra na ia ua va ca za pa qa X K R P L P2 L2 Tn Ti Tu Tv C Z q0 q1 q2 q3 q4 q5 x2  r3 hc4) (tq_gV kw_30_5 kw_30_6 kw_30_7 kw_1_2 kw_30_8) rfl rfl dkdV_yX7_isPiece_1 (Nat.le_of_ble_eq_true rfl) (Nat.le_of_ble_eq_true rfl) (ci := 7) (q0 := 0) rfl rfl rfl hl.1 rfl (Nat.le_of_ble_eq_true rfl) dX7_law_11 ⟨Nat.le_of_ble_eq_true rfl, Nat.le_of_ble_eq_true rfl⟩ (fun _ _ H locs z5 hP hD hS => ?_)
      have z5 := z5.symm
      subst z5
      have hP : va_P G vwCl (wX cA xa ka ra na ia ua va ca za pa qa X K R P L P2 L2 Tn Ti Tu Tv C Z q0 q1 q2 q3 q4 q5) H := hP
      have hD : va_D A (wX cA xa ka ra na ia ua va ca za pa qa X K R P L P2 L2 Tn Ti Tu Tv C Z q0 q1 q2 q3 q4 q5) := hD
      refine lv_if_ne (tgt := 21) hx hb dX7_law_14 (by decide) (fun c6 => ?_) (fun c6 => ?_)
      · replace h := tx_neg c6 h
        refine lv_aload_n hx hb dX7_law_21 rfl (lv_at hl 0 rfl) ?_
        refine va_get (D := G) (ci := 7) (v := .ref (na 0)) (C := RX7) (T := TX7) (N := 12) hx hb hT ku_7 hown hK hP 0 rfl rfl 2 (by decide) (hT _ kw_2_0) (fun _ h9 => h9) rfl dX7_law_22 ?_
        refine lv_iload_n hx hb dX7_law_25 rfl (lv_at hl 1 rfl) ?_
        refine lv_iload_n hx hb dX7_law_26 rfl (lv_at hl 2 rfl) ?_
        refine lv_aload_n hx hb dX7_law_27 rfl (lv_at hl 0 rfl) ?_
        refine va_get (D := G) (ci := 7) (v := .ref (na 0)) (C := RX7) (T := TX7) (N := 12) hx hb hT ku_7 hown hK hP 0 rfl rfl 2 (by decide) (hT _ kw_2_0) (fun _ h9 => h9) rfl dX7_law_28 ?_
        refine va_get (D := G) (ci := 6) (v := .ref (na 10)) (C := RX6) (T := TX6) (N := 20) hx hb hT ku_6 hown hK hP 53 rfl rfl 9 (by decide) (hT _ kw_29_0) (fun _ h9 => h9) rfl dX7_law_31 ?_
        refine lv_aload_n hx hb dX7_law_34 rfl (lv_at hl 0 rfl) ?_
        refine va_get (D := G) (ci := 7) (v := .ref q4) (C := RX7) (T := TX7) (N := 12) hx hb hT ku_7 hown hK hP 0 rfl rfl 1 (by decide) (hT _ kw_1_20) (fun _ h9 => h9) rfl dX7_law_35 ?_
        replace h := tx_ck h
        obtain ⟨g7, h⟩ := h
        have eg7 := of_decide_eq_true g7
        subst eg7
        refine va_get (D := G) (ci := 2) (v := .ref (pa 14)) (C := RX2) (T := TX2) (N := 19) hx hb hT ku_2 hown hK hP 9 rfl rfl 13 (by decide) (hT _ kw_30_0) (fun _ h9 => h9) rfl dX7_law_38 ?_
        refine lv_iload_n hx hb dX7_law_41 rfl (lv_at hl 2 rfl) ?_
        replace h := tx_ck h
        obtain ⟨g8, h⟩ := h
        refine va_iald (i := x2) hx hb hK hP 16 0 rfl rfl (tx_in g8) dX7_law_42 ?_
        replace h := tx_ck h
        obtain ⟨g9, h⟩ := h
        refine va_iald (i := (P 14 x2.toNatClampNeg)) hx hb hK hP 55 0 rfl rfl (tx_in g9) dX7_law_43 ?_
        replace h := tx_ck h
        obtain ⟨g10, h⟩ := h
        have eg10 := of_decide_eq_true g10
        subst eg10
        replace h := tx_bd h
        obtain ⟨⟨r11, Tn_12, L_13⟩, hc14, h⟩ := h
        replace h := tx_let (y := r11) rfl h
        replace h := tx_let (y := Tn_12) rfl h
        replace h := tx_let (y := L_13) rfl h
        refine tw_cl pX_na hP hD hS hA (va_runV (As := [.int x1, .int x2, .int (Tn 10 (P 14 x2.toNatClampNeg).toNatClampNeg)]) (rest := []) ⟨hx, hb, hml, hown, hT⟩ (c_X6_worked l G cA H.size na pa Tn P L x1 x2 (Tn 10 (P 14 x2.toNatClampNeg).toNatClampNeg)  r11 Tn_12 L_13 hc14) (cwV 3 hT (tq_gV kw_33_9 kw_33_10 kw_33_11 kw_1_23 kw_33_12) rfl rfl rfl dkdV_yX6_worked_3 ⟨Nat.le_of_ble_eq_true rfl, Nat.le_of_ble_eq_true rfl⟩) ⟨(tw_pre pX_na hP hD hK hN).1, va_recv hK hP (ci := 6) (q0 := 53) rfl rfl, (tw_pre pX_na hP hD hK hN).2⟩ rfl rfl hl.1 rfl (lv_room (Nat.le_of_ble_eq_true rfl)) dX7_law_44 ⟨Nat.le_of_ble_eq_true rfl, Nat.le_of_ble_eq_true rfl⟩) (fun _ _ H locs z15 hP hD hS => ?_)
        have z15 := z15.symm
        subst z15
        replace hP := tw_P pX_na.symm hP
        replace hD := tw_D pX_na.symm hD
        have hP : va_P G vwCl (wX cA xa ka ra na ia ua va ca za pa qa X K R P L_13 P2 L2 Tn_12 Ti Tu Tv C Z (pa 0) q1 q2 q3 (pa 0) q5) H := hP
        have hD : va_D A (wX cA xa ka ra na ia ua va ca za pa qa X K R P L_13 P2 L2 Tn_12 Ti Tu Tv C Z (pa 0) q1 q2 q3 (pa 0) q5) := hD
        obtain ⟨rfl, rfl, rfl⟩ := tx_3 h
        exact W.lret hx hb hr (fun t ht hW => ⟨⟨_, (), rfl, rfl, by rw [ht]; exact hP, hD⟩, hS.F ht⟩) hS.2.2 dX7_law_47
      · replace h := tx_pos c6 h
        refine lv_ldc2 (v := (-9223372036854775808)) hx hb hown (hT _ kw_33_8) dX7_law_17 ?_
        obtain ⟨rfl, rfl, rfl⟩ := tx_3 h
        exact W.lret hx hb hr (fun t ht hW => ⟨⟨_, (), rfl, rfl, by rw [ht]; exact hP, hD⟩, hS.F ht⟩) hS.2.2 dX7_law_20
abbrev G_X7_listComing (p : Program) (l : Launch) (e : Env) (s : State) (m : MethodId) (below : List Frame) (meth : Method) (c : Code) (G : va_G) (cA : Nat → ClassId) (A : Nat → Prop) (xa : Nat → Nat) (ka : Nat → Nat) (ra : Nat → Nat) (na : Nat → Nat) (ia : Nat → Nat) (ua : Nat → Nat) (va : Nat → Nat) (ca : Nat → Nat) (za : Nat → Nat) (pa : Nat → Nat) (qa : Nat → Nat) (K : Tr) (R : Tr) (P : Tr) (L : Lo) (P2 : Tr) (L2 : Lo) (Tn : Tr) (Ti : Tr) (Tu : Tr) (Tv : Tr) (C : Tr) (Z : Tr) (q0 : Nat) (q1 : Nat) (q2 : Nat) (q3 : Nat) (q4 : Nat) (q5 : Nat) (r0 : Int32) (X' : Tr) (H : Heap) (locs : List Loc) (g : JFrame) : Prop := W p l e (headSpec (.code yX7_listComing cX7_listComing 3 (some .int) :: T0) ({ frames := 2, cells := 0, slots := 0, locals := 42 } : Room)).room s m ([.ref (xa 0)] : List Value).toArray below meth c H locs 0 0 (MQ below (tqQi G cA (fun (r : Int32) (_ : Unit) => r = r0) (fun (_ : Unit) => wX cA xa ka ra na ia ua va ca za pa qa (X') K R P L P2 L2 Tn Ti Tu Tv C Z q0 q1 q2 q3 q4 q5) A) ([.ref (xa 0)] : List Value).toArray s 0 0 A) g
set_option maxHeartbeats 4000000 in
set_option maxRecDepth 100000 in
theorem w_X7_listComing_L4 {p : Program} {l : Launch} {e : Env} {s : State} {m : MethodId} {below : List Frame} {meth : Method} {c : Code} {G : va_G} {cA : Nat → ClassId} {A : Nat → Prop} {xa : Nat → Nat} {ka : Nat → Nat} {ra : Nat → Nat} {na : Nat → Nat} {ia : Nat → Nat} {ua : Nat → Nat} {va : Nat → Nat} {ca : Nat → Nat} {za : Nat → Nat} {pa : Nat → Nat} {qa : Nat → Nat} {K : Tr} {R : Tr} {P : Tr} {L : Lo} {P2 : Tr} {L2 : Lo} {Tn : Tr} {Ti : Tr} {Tu : Tr} {Tv : Tr} {C : Tr} {Z : Tr} {q0 : Nat} {q1 : Nat} {q2 : Nat} {q3 : Nat} {q4 : Nat} {q5 : Nat} {r0 : Int32} {X' : Tr} (F : tF p s m ([.ref (xa 0)] : List Value).toArray meth c G cA A RX7 cX7_listComing 3 (some .int))    (N : Nat) : ∀ (x1 : Int32) (x2 : Int32) (X : Tr) (H : Heap) (locs : List Loc) (ls : Array Slot), lpF (fun _ _ _ => none) (fB_X7_listComing_L4 pa qa P Tn q4) N x1 x2 X = some (r0, X') → va_P G vwCl (wX cA xa ka ra na ia ua va ca za pa qa X K R P L P2 L2 Tn Ti Tu Tv C Z q0 q1 q2 q3 q4 q5) H → va_D A (wX cA xa ka ra na ia ua va ca za pa qa X K R P L P2 L2 Tn Ti Tu Tv C Z q0 q1 q2 q3 q4 q5) → va_S A s.heap H locs → lv_has ls 3 [(0, .ref (xa 0)), (1, .int x1), (2, .int x2)] → G_X7_listComing p l e s m below meth c G cA A xa ka ra na ia ua va ca za pa qa K R P L P2 L2 Tn Ti Tu Tv C Z q0 q1 q2 q3 q4 q5 r0 X' H locs (F0 m 4 ls []) := by
  obtain ⟨hx, hb, hr, hml, hT, hown, hlocks, hK, hN, hA⟩ := id F
  induction N with
  | zero =>
    intro x1 x2 X H locs ls h
    replace h : (none : Option (Int32 × Tr)) = some (r0, X') := h
    cases h
  | succ N hk4 =>
    intro x1 x2 X H locs ls h hP hD hS hl
    replace h : fB_X7_listComing_L4 pa qa P Tn q4 (lpF (fun _ _ _ => none) (fB_X7_listComing_L4 pa qa P Tn q4) N) x1 x2 X = some (r0, X') := h
    generalize hk4e : lpF (fun _ _ _ => none) (fB_X7_listComing_L4 pa qa P Tn q4) N = k4 at h hk4
    unfold fB_X7_listComing_L4 at h
    refine lv_iload_n hx hb dX7_listComing_4 rfl (lv_at hl 2 rfl) ?_
    refine lv_aload_n hx hb dX7_listComing_5 rfl (lv_at hl 0 rfl) ?_
    refine va_get (D := G) (ci := 7) (v := .ref q4) (C := RX7) (T := TX7) (N := 12) hx hb hT ku_7 hown hK hP 0 rfl rfl 1 (by decide) (hT _ kw_1_20) (fun _ h9 => h9) rfl dX7_listComing_6 ?_
    replace h := tx_ck h
    obtain ⟨g1, h⟩ := h
    have eg1 := of_decide_eq_true g1
    subst eg1
    refine va_get (D := G) (ci := 2) (v := .int (P 0 2)) (C := RX2) (T := TX2) (N := 19) hx hb hT ku_2 hown hK hP 9 rfl rfl 2 (by decide) (hT _ kw_30_9) (fun _ h9 => h9) rfl dX7_listComing_9 ?_
    refine lv_icmp_ge (tgt := 39) hx hb dX7_listComing_12 (by decide) (fun c2 => ?_) (fun c2 => ?_)
    · replace h := tx_pos c2 h
      refine lv_iload_n hx hb dX7_listComing_39 rfl (lv_at hl 1 rfl) ?_
      obtain ⟨rfl, rfl⟩ := tx_2 h
      exact W.iret hx hb hr (fun t ht hW => ⟨⟨_, (), rfl, rfl, by rw [ht]; exact hP, hD⟩, hS.F ht⟩) hS.2.2 dX7_listComing_40
    · replace h := tx_neg c2 h
      refine lv_aload_n hx hb dX7_listComing_15 rfl (lv_at hl 0 rfl) ?_
      refine lv_iload_n hx hb dX7_listComing_16 rfl (lv_at hl 2 rfl) ?_
      replace h := tx_bd h
      obtain ⟨r3, hc4, h⟩ := h
      refine tz_i (As := [.int x2]) (rest := []) ⟨hx, hb, hml, hown, hT⟩ hP hD hS hA hK hN (c_X7_comesNow l G cA H.size xa ka ra na ia ua va ca za pa qa X K R P L P2 L2 Tn Ti Tu Tv C Z q0 q1 q2 q3 (pa 0) q5 x2  r3 hc4) (tq_gV kw_46_7 kw_46_8 kw_46_9 kw_1_2 kw_46_10) rfl rfl dkdV_yX7_comesNow_1 (Nat.le_of_ble_eq_true rfl) (Nat.le_of_ble_eq_true rfl) (ci := 7) (q0 := 0) rfl rfl rfl hl.1 rfl (Nat.le_of_ble_eq_true rfl) dX7_listComing_17 ⟨Nat.le_of_ble_eq_true rfl, Nat.le_of_ble_eq_true rfl⟩ (fun _ _ H locs z5 hP hD hS => ?_)
      have z5 := z5.symm
      subst z5
      have hP : va_P G vwCl (wX cA xa ka ra na ia ua va ca za pa qa X K R P L P2 L2 Tn Ti Tu Tv C Z q0 q1 q2 q3 (pa 0) q5) H := hP
      have hD : va_D A (wX cA xa ka ra na ia ua va ca za pa qa X K R P L P2 L2 Tn Ti Tu Tv C Z q0 q1 q2 q3 (pa 0) q5) := hD
      refine lv_if_eq (tgt := 33) hx hb dX7_listComing_20 (by decide) (fun c6 => ?_) (fun c6 => ?_)
      · replace h := tx_pos c6 h
        replace h := tx_lt h
        obtain ⟨y7, ey7, h⟩ := h
        refine lv_iinc (v := y7) (lv' := [(2, .int y7), (0, .ref (xa 0)), (1, .int x1)]) hx hb dX7_listComing_33 hl (k := 2) rfl ey7 (by decide) rfl (fun ls hl => ?_)
        refine lv_goto (tgt := 4) hx hb dX7_listComing_36 (by decide) ?_
        exact hk4 x1 y7 X H locs ls h hP hD hS (lv_sub hl [1, 2, 0] rfl)
      · replace h := tx_neg c6 h
        refine lv_aload_n hx hb dX7_listComing_23 rfl (lv_at hl 0 rfl) ?_
        refine va_get (D := G) (ci := 7) (v := .ref (xa 10)) (C := RX7) (T := TX7) (N := 12) hx hb hT ku_7 hown hK hP 0 rfl rfl 9 (by decide) (hT _ kw_2_14) (fun _ h9 => h9) rfl dX7_listComing_24 ?_
        refine lv_iload_n hx hb dX7_listComing_27 rfl (lv_at hl 1 rfl) ?_
        refine lv_iload_n hx hb dX7_listComing_28 rfl (lv_at hl 2 rfl) ?_
        replace h := tx_ck h
        obtain ⟨g8, h⟩ := h
        refine va_iast (i := x1) hx hb hK hP hD hS 1 0 rfl rfl (tx_in g8) dX7_listComing_29 (fun H locs hP hD hS => ?_)
        replace h := tx_lt h
        obtain ⟨X_9, eX_9, h⟩ := h
        rw [sX_xa_a9, eX_9] at hP hD
        replace h := tx_lt h
        obtain ⟨y10, ey10, h⟩ := h
        refine lv_iinc (v := y10) (lv' := [(1, .int y10), (0, .ref (xa 0)), (2, .int x2)]) hx hb dX7_listComing_30 hl (k := 1) rfl ey10 (by decide) rfl (fun ls hl => ?_)
        replace h := tx_lt h
        obtain ⟨y11, ey11, h⟩ := h
        refine lv_iinc (v := y11) (lv' := [(2, .int y11), (1, .int y10), (0, .ref (xa 0))]) hx hb dX7_listComing_33 hl (k := 2) rfl ey11 (by decide) rfl (fun ls hl => ?_)
        refine lv_goto (tgt := 4) hx hb dX7_listComing_36 (by decide) ?_
        exact hk4 y10 y11 X_9 H locs ls h hP hD hS (lv_sub hl [2, 1, 0] rfl)
set_option maxHeartbeats 4000000 in
set_option maxRecDepth 100000 in
theorem c_X7_listComing (l : Launch) (G : va_G) (cA : Nat → ClassId) (sz : Nat) (xa : Nat → Nat) (ka : Nat → Nat) (ra : Nat → Nat) (na : Nat → Nat) (ia : Nat → Nat) (ua : Nat → Nat) (va : Nat → Nat) (ca : Nat → Nat) (za : Nat → Nat) (pa : Nat → Nat) (qa : Nat → Nat) (X : Tr) (K : Tr) (R : Tr) (P : Tr) (L : Lo) (P2 : Tr) (L2 : Lo) (Tn : Tr) (Ti : Tr) (Tu : Tr) (Tv : Tr) (C : Tr) (Z : Tr) (q0 : Nat) (q1 : Nat) (q2 : Nat) (q3 : Nat) (q4 : Nat) (q5 : Nat)  (r0 : Int32) (X' : Tr) (h : f_X7_listComing pa qa X P Tn q4 = some (r0, X')) : Met l yX7_listComing (.code yX7_listComing cX7_listComing 3 (some .int) :: T0) ({ frames := 2, cells := 0, slots := 0, locals := 42 } : Room) (tqP G cA [.ref (xa 0)] (wX cA xa ka ra na ia ua va ca za pa qa X K R P L P2 L2 Tn Ti Tu Tv C Z q0 q1 q2 q3 q4 q5) sz) (tqQi G cA (fun (r : Int32) (_ : Unit) => r = r0) (fun (_ : Unit) => wX cA xa ka ra na ia ua va ca za pa qa (X') K R P L P2 L2 Tn Ti Tu Tv C Z q0 q1 q2 q3 q4 q5) (va_A (wX cA xa ka ra na ia ua va ca za pa qa X K R P L P2 L2 Tn Ti Tu Tv C Z q0 q1 q2 q3 q4 q5) sz)) 0 0 (va_A (wX cA xa ka ra na ia ua va ca za pa qa X K R P L P2 L2 Tn Ti Tu Tv C Z q0 q1 q2 q3 q4 q5) sz) := by
  refine Met.ofW (cc := cX7_listComing) (maxL := 3) (ret := (some .int)) (by decide) rfl ?_
  intro p e s m args below meth c s₁ B hml hv
  obtain ⟨rfl, hsz, hP, hK, hD0, hN⟩ := hv
  have hx := B.exec
  have hb := B.bytes
  have hr := B.returns
  have hts := atoms_spec (ws := .code yX7_listComing cX7_listComing 3 (some .int) :: T0) B.pre
  have hT : ∀ w ∈ T0, w.before _ s = true := fun w h => hts w (List.mem_cons_of_mem _ h)
  have hown : s.vm.findClass RX7 = some m.cls := findClass_of_methodNamed B.named
  have hlocks := B.notSynchronized
  subst hsz
  have hD := hD0.self (sz := s.heap.size)
  generalize hAe : va_A (wX cA xa ka ra na ia ua va ca za pa qa X K R P L P2 L2 Tn Ti Tu Tv C Z q0 q1 q2 q3 q4 q5) s.heap.size = A at hD ⊢
  have hA : ∀ q : Nat, s.heap.size ≤ q → A q := fun q h => by rw [← hAe]; exact Or.inr h
  have hS : va_S A s.heap s.heap [] := va_S.rf
  have hl := lv_entry ([.ref (xa 0)]) (n := 3) (Nat.le_of_ble_eq_true rfl)
  rw [lg_entry_eq]
  generalize (lg_sl ([.ref (xa 0)]) ++ List.replicate (3 - (lg_sl ([.ref (xa 0)])).length) Slot.unset).toArray = ls at hl ⊢
  have hl : lv_has ls 3 [(0, .ref (xa 0))] := hl
  have F : tF p s m ([.ref (xa 0)] : List Value).toArray meth c G cA A RX7 cX7_listComing 3 (some .int) := ⟨hx, hb, hr, hml, hT, hown, hlocks, hK, hN, hA⟩
  obtain ⟨H, hH⟩ : ∃ z, z = s.heap := ⟨_, rfl⟩
  rw [← hH] at hP
  have hS : va_S A s.heap H [] := by rw [hH]; exact hS
  suffices hgo : G_X7_listComing p l e s m below meth c G cA A xa ka ra na ia ua va ca za pa qa K R P L P2 L2 Tn Ti Tu Tv C Z q0 q1 q2 q3 q4 q5 r0 X' H [] (F0 m 0 ls []) by rw [hH] at hgo; exact hgo
  generalize ([] : List Loc) = locs at hS ⊢
  unfold f_X7_listComing at h
  refine lv_iconst (v := 0) hx hb dX7_listComing_0 (by decide) ?_
  refine lv_istore_n (lv' := [(1, .int 0), (0, .ref (xa 0))]) hx hb dX7_listComing_1 rfl hl (by decide) rfl (fun ls hl => ?_)
  refine lv_iconst (v := 0) hx hb dX7_listComing_2 (by decide) ?_
  refine lv_istore_n (lv' := [(2, .int 0), (1, .int 0), (0, .ref (xa 0))]) hx hb dX7_listComing_3 rfl hl (by decide) rfl (fun ls hl => ?_)
  exact w_X7_listComing_L4 F 2000 0 0 X H locs ls h hP hD hS (lv_sub hl [2, 1, 0] rfl)
abbrev G_X7_least (p : Program) (l : Launch) (e : Env) (s : State) (m : MethodId) (below : List Frame) (meth : Method) (c : Code) (G : va_G) (cA : Nat → ClassId) (A : Nat → Prop) (xa : Nat → Nat) (ka : Nat → Nat) (ra : Nat → Nat) (na : Nat → Nat) (ia : Nat → Nat) (ua : Nat → Nat) (va : Nat → Nat) (ca : Nat → Nat) (za : Nat → Nat) (pa : Nat → Nat) (qa : Nat → Nat) (K : Tr) (R : Tr) (P : Tr) (P2 : Tr) (L2 : Lo) (Tn : Tr) (Ti : Tr) (C : Tr) (Z : Tr) (q0 : Nat) (q1 : Nat) (q4 : Nat) (q5 : Nat) (x1 : Int32) (r0 : Int32) (X' : Tr) (L' : Lo) (Tu' : Tr) (Tv' : Tr) (q2' : Nat) (q3' : Nat) (H : Heap) (locs : List Loc) (g : JFrame) : Prop := W p l e (headSpec (.code yX7_least cX7_least 4 (some .int) :: T0) ({ frames := 7, cells := 0, slots := 0, locals := 178 } : Room)).room s m ([.ref (xa 0), .int x1] : List Value).toArray below meth c H locs 0 0 (MQ below (tqQi G cA (fun (r : Int32) (_ : Unit) => r = r0) (fun (_ : Unit) => wX cA xa ka ra na ia ua va ca za pa qa (X') K R P (L') P2 L2 Tn Ti (Tu') (Tv') C Z q0 q1 (q2') (q3') q4 q5) A) ([.ref (xa 0), .int x1] : List Value).toArray s 0 0 A) g
set_option maxHeartbeats 4000000 in
set_option maxRecDepth 100000 in
theorem c_X7_least (l : Launch) (G : va_G) (cA : Nat → ClassId) (sz : Nat) (xa : Nat → Nat) (ka : Nat → Nat) (ra : Nat → Nat) (na : Nat → Nat) (ia : Nat → Nat) (ua : Nat → Nat) (va : Nat → Nat) (ca : Nat → Nat) (za : Nat → Nat) (pa : Nat → Nat) (qa : Nat → Nat) (X : Tr) (K : Tr) (R : Tr) (P : Tr) (L : Lo) (P2 : Tr) (L2 : Lo) (Tn : Tr) (Ti : Tr) (Tu : Tr) (Tv : Tr) (C : Tr) (Z : Tr) (q0 : Nat) (q1 : Nat) (q2 : Nat) (q3 : Nat) (q4 : Nat) (q5 : Nat) (x1 : Int32)  (r0 : Int32) (X' : Tr) (L' : Lo) (Tu' : Tr) (Tv' : Tr) (q2' : Nat) (q3' : Nat) (h : f_X7_least pa qa X P L Tn Tu Tv q0 q2 q3 q4 x1 = some (r0, X', L', Tu', Tv', q2', q3')) : Met l yX7_least (.code yX7_least cX7_least 4 (some .int) :: T0) ({ frames := 7, cells := 0, slots := 0, locals := 178 } : Room) (tqP G cA [.ref (xa 0), .int x1] (wX cA xa ka ra na ia ua va ca za pa qa X K R P L P2 L2 Tn Ti Tu Tv C Z q0 q1 q2 q3 q4 q5) sz) (tqQi G cA (fun (r : Int32) (_ : Unit) => r = r0) (fun (_ : Unit) => wX cA xa ka ra na ia ua va ca za pa qa (X') K R P (L') P2 L2 Tn Ti (Tu') (Tv') C Z q0 q1 (q2') (q3') q4 q5) (va_A (wX cA xa ka ra na ia ua va ca za pa qa X K R P L P2 L2 Tn Ti Tu Tv C Z q0 q1 q2 q3 q4 q5) sz)) 0 0 (va_A (wX cA xa ka ra na ia ua va ca za pa qa X K R P L P2 L2 Tn Ti Tu Tv C Z q0 q1 q2 q3 q4 q5) sz) := by
  refine Met.ofW (cc := cX7_least) (maxL := 4) (ret := (some .int)) (by decide) rfl ?_
  intro p e s m args below meth c s₁ B hml hv
  obtain ⟨rfl, hsz, hP, hK, hD0, hN⟩ := hv
  have hx := B.exec
  have hb := B.bytes
  have hr := B.returns
  have hts := atoms_spec (ws := .code yX7_least cX7_least 4 (some .int) :: T0) B.pre
  have hT : ∀ w ∈ T0, w.before _ s = true := fun w h => hts w (List.mem_cons_of_mem _ h)
  have hown : s.vm.findClass RX7 = some m.cls := findClass_of_methodNamed B.named
  have hlocks := B.notSynchronized
  subst hsz
  have hD := hD0.self (sz := s.heap.size)
  generalize hAe : va_A (wX cA xa ka ra na ia ua va ca za pa qa X K R P L P2 L2 Tn Ti Tu Tv C Z q0 q1 q2 q3 q4 q5) s.heap.size = A at hD ⊢
  have hA : ∀ q : Nat, s.heap.size ≤ q → A q := fun q h => by rw [← hAe]; exact Or.inr h
  have hS : va_S A s.heap s.heap [] := va_S.rf
  have hl := lv_entry ([.ref (xa 0), .int x1]) (n := 4) (Nat.le_of_ble_eq_true rfl)
  rw [lg_entry_eq]
  generalize (lg_sl ([.ref (xa 0), .int x1]) ++ List.replicate (4 - (lg_sl ([.ref (xa 0), .int x1])).length) Slot.unset).toArray = ls at hl ⊢
  have hl : lv_has ls 4 [(0, .ref (xa 0)), (1, .int x1)] := hl
  have F : tF p s m ([.ref (xa 0), .int x1] : List Value).toArray meth c G cA A RX7 cX7_least 4 (some .int) := ⟨hx, hb, hr, hml, hT, hown, hlocks, hK, hN, hA⟩
  obtain ⟨H, hH⟩ : ∃ z, z = s.heap := ⟨_, rfl⟩
  rw [← hH] at hP
  have hS : va_S A s.heap H [] := by rw [hH]; exact hS
  suffices hgo : G_X7_least p l e s m below meth c G cA A xa ka ra na ia ua va ca za pa qa K R P P2 L2 Tn Ti C Z q0 q1 q4 q5 x1 r0 X' L' Tu' Tv' q2' q3' H [] (F0 m 0 ls []) by rw [hH] at hgo; exact hgo
  generalize ([] : List Loc) = locs at hS ⊢
  unfold f_X7_least at h
  refine lv_iload_n hx hb dX7_least_0 rfl (lv_at hl 1 rfl) ?_
  refine lv_if_lt (tgt := 21) hx hb dX7_least_1 (by decide) (fun c1 => ?_) (fun c1 => ?_)
  · replace h := tx_pos c1 h
    refine lv_iconst (v := (-1)) hx hb dX7_least_21 (by decide) ?_
    obtain ⟨rfl, rfl, rfl, rfl, rfl, rfl, rfl⟩ := tx_7 h
    exact W.iret hx hb hr (fun t ht hW => ⟨⟨_, (), rfl, rfl, by rw [ht]; exact hP, hD⟩, hS.F ht⟩) hS.2.2 dX7_least_22
  · replace h := tx_neg c1 h
    refine lv_iload_n hx hb dX7_least_4 rfl (lv_at hl 1 rfl) ?_
    refine lv_iconst (v := 4) hx hb dX7_least_5 (by decide) ?_
    refine lv_icmp_gt (tgt := 21) hx hb dX7_least_6 (by decide) (fun c2 => ?_) (fun c2 => ?_)
    · replace h := tx_pos c2 h
      refine lv_iconst (v := (-1)) hx hb dX7_least_21 (by decide) ?_
      obtain ⟨rfl, rfl, rfl, rfl, rfl, rfl, rfl⟩ := tx_7 h
      exact W.iret hx hb hr (fun t ht hW => ⟨⟨_, (), rfl, rfl, by rw [ht]; exact hP, hD⟩, hS.F ht⟩) hS.2.2 dX7_least_22
    · replace h := tx_neg c2 h
      refine lv_aload_n hx hb dX7_least_9 rfl (lv_at hl 0 rfl) ?_
      refine va_get (D := G) (ci := 7) (v := .ref (na 0)) (C := RX7) (T := TX7) (N := 12) hx hb hT ku_7 hown hK hP 0 rfl rfl 2 (by decide) (hT _ kw_2_0) (fun _ h9 => h9) rfl dX7_least_10 ?_
      refine va_get (D := G) (ci := 6) (v := .int (Tn 0 0)) (C := RX6) (T := TX6) (N := 20) hx hb hT ku_6 hown hK hP 53 rfl rfl 0 (by decide) (hT _ kw_40_5) (fun _ h9 => h9) rfl dX7_least_13 ?_
      refine lv_bipush (v := 20) hx hb dX7_least_16 (by decide) ?_
      refine lv_icmp_le (tgt := 23) hx hb dX7_least_18 (by decide) (fun c3 => ?_) (fun c3 => ?_)
      · replace h := tx_pos c3 h
        refine lv_aload_n hx hb dX7_least_23 rfl (lv_at hl 0 rfl) ?_
        replace h := tx_bd h
        obtain ⟨⟨r4, X_5⟩, hc6, h⟩ := h
        replace h := tx_let (y := r4) rfl h
        replace h := tx_let (y := X_5) rfl h
        refine tz_i (As := []) (rest := []) ⟨hx, hb, hml, hown, hT⟩ hP hD hS hA hK hN (c_X7_listComing l G cA H.size xa ka ra na ia ua va ca za pa qa X K R P L P2 L2 Tn Ti Tu Tv C Z q0 q1 q2 q3 q4 q5  r4 X_5 hc6) (tq_gV kw_46_3 kw_46_4 kw_46_5 kw_1_2 kw_46_6) rfl rfl dkdV_yX7_listComing_0 (Nat.le_of_ble_eq_true rfl) (Nat.le_of_ble_eq_true rfl) (ci := 7) (q0 := 0) rfl rfl rfl hl.1 rfl (Nat.le_of_ble_eq_true rfl) dX7_least_24 ⟨Nat.le_of_ble_eq_true rfl, Nat.le_of_ble_eq_true rfl⟩ (fun _ _ H locs z7 hP hD hS => ?_)
        have z7 := z7.symm
        subst z7
        have hP : va_P G vwCl (wX cA xa ka ra na ia ua va ca za pa qa X_5 K R P L P2 L2 Tn Ti Tu Tv C Z q0 q1 q2 q3 q4 q5) H := hP
        have hD : va_D A (wX cA xa ka ra na ia ua va ca za pa qa X_5 K R P L P2 L2 Tn Ti Tu Tv C Z q0 q1 q2 q3 q4 q5) := hD
        refine lv_istore_n (lv' := [(2, .int r4), (0, .ref (xa 0)), (1, .int x1)]) hx hb dX7_least_27 rfl hl (by decide) rfl (fun ls hl => ?_)
        refine lv_iload_n hx hb dX7_least_28 rfl (lv_at hl 0 rfl) ?_
        refine lv_iconst (v := 4) hx hb dX7_least_29 (by decide) ?_
        refine lv_icmp_le (tgt := 36) hx hb dX7_least_30 (by decide) (fun c8 => ?_) (fun c8 => ?_)
        · replace h := tx_pos c8 h
          refine lv_aload_n hx hb dX7_least_36 rfl (lv_at hl 1 rfl) ?_
          refine lv_iload_n hx hb dX7_least_37 rfl (lv_at hl 0 rfl) ?_
          replace h := tx_bd h
          obtain ⟨⟨r9, L_10, Tu_11, Tv_12, q2_13, q3_14⟩, hc15, h⟩ := h
          replace h := tx_let (y := r9) rfl h
          replace h := tx_let (y := L_10) rfl h
          replace h := tx_let (y := Tu_11) rfl h
          replace h := tx_let (y := Tv_12) rfl h
          replace h := tx_let (y := q2_13) rfl h
          replace h := tx_let (y := q3_14) rfl h
          refine tz_i (As := [.int r4]) (rest := []) ⟨hx, hb, hml, hown, hT⟩ hP hD hS hA hK hN (c_X7_findLeast l G cA H.size xa ka ra na ia ua va ca za pa qa X_5 K R P L P2 L2 Tn Ti Tu Tv C Z q0 q1 q2 q3 q4 q5 r4  r9 L_10 Tu_11 Tv_12 q2_13 q3_14 hc15) (tq_gV kw_46_11 kw_46_12 kw_46_13 kw_1_2 kw_46_14) rfl rfl dkdV_yX7_findLeast_1 (Nat.le_of_ble_eq_true rfl) (Nat.le_of_ble_eq_true rfl) (ci := 7) (q0 := 0) rfl rfl rfl hl.1 rfl (Nat.le_of_ble_eq_true rfl) dX7_least_38 ⟨Nat.le_of_ble_eq_true rfl, Nat.le_of_ble_eq_true rfl⟩ (fun _ _ H locs z16 hP hD hS => ?_)
          have z16 := z16.symm
          subst z16
          have hP : va_P G vwCl (wX cA xa ka ra na ia ua va ca za pa qa X_5 K R P L_10 P2 L2 Tn Ti Tu_11 Tv_12 C Z q0 q1 q2_13 q3_14 q4 q5) H := hP
          have hD : va_D A (wX cA xa ka ra na ia ua va ca za pa qa X_5 K R P L_10 P2 L2 Tn Ti Tu_11 Tv_12 C Z q0 q1 q2_13 q3_14 q4 q5) := hD
          refine lv_istore_n (lv' := [(3, .int r9), (2, .int r4), (0, .ref (xa 0)), (1, .int x1)]) hx hb dX7_least_41 rfl hl (by decide) rfl (fun ls hl => ?_)
          refine lv_iload_n hx hb dX7_least_42 rfl (lv_at hl 0 rfl) ?_
          refine lv_if_ge (tgt := 49) hx hb dX7_least_43 (by decide) (fun c17 => ?_) (fun c17 => ?_)
          · replace h := tx_pos c17 h
            refine lv_iload_n hx hb dX7_least_49 rfl (lv_at hl 3 rfl) ?_
            refine lv_if_ne (tgt := 59) hx hb dX7_least_50 (by decide) (fun c18 => ?_) (fun c18 => ?_)
            · replace h := tx_neg c18 h
              refine lv_iload_n hx hb dX7_least_59 rfl (lv_at hl 3 rfl) ?_
              refine lv_iload_n hx hb dX7_least_60 rfl (lv_at hl 1 rfl) ?_
              refine lv_icmp_le (tgt := 69) hx hb dX7_least_61 (by decide) (fun c19 => ?_) (fun c19 => ?_)
              · replace h := tx_pos c19 h
                refine lv_aload_n hx hb dX7_least_69 rfl (lv_at hl 2 rfl) ?_
                refine lv_iload_n hx hb dX7_least_70 rfl (lv_at hl 0 rfl) ?_
                refine lv_sipush (v := 1024) hx hb dX7_least_71 (by decide) ?_
                refine lv_irem hx hb dX7_least_74 (by decide) ?_
                refine lv_iload_n hx hb dX7_least_75 rfl (lv_at hl 1 rfl) ?_
                refine lv_iload_n hx hb dX7_least_76 rfl (lv_at hl 3 rfl) ?_
                refine lv_isub hx hb dX7_least_77 ?_
                replace h := tx_bd h
                obtain ⟨r20, hc21, h⟩ := h
                refine tz_i (As := [.int (r9 - r9 / 1024 * 1024), .int (r4 - x1)]) (rest := []) ⟨hx, hb, hml, hown, hT⟩ hP hD hS hA hK hN (c_X7_digit l G cA H.size xa ka ra na ia ua va ca za pa qa X_5 K R P L_10 P2 L2 Tn Ti Tu_11 Tv_12 C Z q0 q1 q2_13 q3_14 q4 q5 (r9 - r9 / 1024 * 1024) (r4 - x1)  r20 hc21) (tq_gV kw_47_0 kw_47_1 kw_47_2 kw_1_2 kw_47_3) rfl rfl dkdV_yX7_digit_2 (Nat.le_of_ble_eq_true rfl) (Nat.le_of_ble_eq_true rfl) (ci := 7) (q0 := 0) rfl rfl rfl hl.1 rfl (Nat.le_of_ble_eq_true rfl) dX7_least_78 ⟨Nat.le_of_ble_eq_true rfl, Nat.le_of_ble_eq_true rfl⟩ (fun _ _ H locs z22 hP hD hS => ?_)
                have z22 := z22.symm
                subst z22
                have hP : va_P G vwCl (wX cA xa ka ra na ia ua va ca za pa qa X_5 K R P L_10 P2 L2 Tn Ti Tu_11 Tv_12 C Z q0 q1 q2_13 q3_14 q4 q5) H := hP
                have hD : va_D A (wX cA xa ka ra na ia ua va ca za pa qa X_5 K R P L_10 P2 L2 Tn Ti Tu_11 Tv_12 C Z q0 q1 q2_13 q3_14 q4 q5) := hD
                obtain ⟨rfl, rfl, rfl, rfl, rfl, rfl, rfl⟩ := tx_7 h
                exact W.iret hx hb hr (fun t ht hW => ⟨⟨_, (), rfl, rfl, by rw [ht]; exact hP, hD⟩, hS.F ht⟩) hS.2.2 dX7_least_81
              · replace h := tx_neg c19 h
                refine lv_bipush (v := (-2)) hx hb dX7_least_64 (by decide) ?_
                refine lv_goto (tgt := 81) hx hb dX7_least_66 (by decide) ?_
                obtain ⟨rfl, rfl, rfl, rfl, rfl, rfl, rfl⟩ := tx_7 h
                exact W.iret hx hb hr (fun t ht hW => ⟨⟨_, (), rfl, rfl, by rw [ht]; exact hP, hD⟩, hS.F ht⟩) hS.2.2 dX7_least_81
            · replace h := tx_pos c18 h
              refine lv_iload_n hx hb dX7_least_53 rfl (lv_at hl 0 rfl) ?_
              refine lv_sipush (v := 1024) hx hb dX7_least_54 (by decide) ?_
              refine lv_idiv hx hb dX7_least_57 (by decide) ?_
              obtain ⟨rfl, rfl, rfl, rfl, rfl, rfl, rfl⟩ := tx_7 h
              exact W.iret hx hb hr (fun t ht hW => ⟨⟨_, (), rfl, rfl, by rw [ht]; exact hP, hD⟩, hS.F ht⟩) hS.2.2 dX7_least_58
          · replace h := tx_neg c17 h
            refine lv_bipush (v := (-3)) hx hb dX7_least_46 (by decide) ?_
            obtain ⟨rfl, rfl, rfl, rfl, rfl, rfl, rfl⟩ := tx_7 h
            exact W.iret hx hb hr (fun t ht hW => ⟨⟨_, (), rfl, rfl, by rw [ht]; exact hP, hD⟩, hS.F ht⟩) hS.2.2 dX7_least_48
        · replace h := tx_neg c8 h
          refine lv_bipush (v := (-4)) hx hb dX7_least_33 (by decide) ?_
          obtain ⟨rfl, rfl, rfl, rfl, rfl, rfl, rfl⟩ := tx_7 h
          exact W.iret hx hb hr (fun t ht hW => ⟨⟨_, (), rfl, rfl, by rw [ht]; exact hP, hD⟩, hS.F ht⟩) hS.2.2 dX7_least_35
      · replace h := tx_neg c3 h
        refine lv_iconst (v := (-1)) hx hb dX7_least_21 (by decide) ?_
        obtain ⟨rfl, rfl, rfl, rfl, rfl, rfl, rfl⟩ := tx_7 h
        exact W.iret hx hb hr (fun t ht hW => ⟨⟨_, (), rfl, rfl, by rw [ht]; exact hP, hD⟩, hS.F ht⟩) hS.2.2 dX7_least_22
abbrev G_X7_mine (p : Program) (l : Launch) (e : Env) (s : State) (m : MethodId) (below : List Frame) (meth : Method) (c : Code) (G : va_G) (cA : Nat → ClassId) (A : Nat → Prop) (xa : Nat → Nat) (ka : Nat → Nat) (ra : Nat → Nat) (na : Nat → Nat) (ia : Nat → Nat) (ua : Nat → Nat) (va : Nat → Nat) (ca : Nat → Nat) (za : Nat → Nat) (pa : Nat → Nat) (qa : Nat → Nat) (X : Tr) (K : Tr) (R : Tr) (P : Tr) (P2 : Tr) (L2 : Lo) (Tn : Tr) (Ti : Tr) (Tv : Tr) (C : Tr) (Z : Tr) (q0 : Nat) (q1 : Nat) (q3 : Nat) (q4 : Nat) (q5 : Nat) (x1 : Int32) (x2 : Int32) (r0 : Int32) (L' : Lo) (Tu' : Tr) (q2' : Nat) (H : Heap) (locs : List Loc) (g : JFrame) : Prop := W p l e (headSpec (.code yX7_mine cX7_mine 4 (some .int) :: T0) ({ frames := 7, cells := 0, slots := 0, locals := 179 } : Room)).room s m ([.ref (xa 0), .int x1, .int x2] : List Value).toArray below meth c H locs 0 0 (MQ below (tqQi G cA (fun (r : Int32) (_ : Unit) => r = r0) (fun (_ : Unit) => wX cA xa ka ra na ia ua va ca za pa qa X K R P (L') P2 L2 Tn Ti (Tu') Tv C Z q0 q1 (q2') q3 q4 q5) A) ([.ref (xa 0), .int x1, .int x2] : List Value).toArray s 0 0 A) g
set_option maxHeartbeats 4000000 in
set_option maxRecDepth 100000 in
theorem w_X7_mine_J31 {p : Program} {l : Launch} {e : Env} {s : State} {m : MethodId} {below : List Frame} {meth : Method} {c : Code} {G : va_G} {cA : Nat → ClassId} {A : Nat → Prop} {xa : Nat → Nat} {ka : Nat → Nat} {ra : Nat → Nat} {na : Nat → Nat} {ia : Nat → Nat} {ua : Nat → Nat} {va : Nat → Nat} {ca : Nat → Nat} {za : Nat → Nat} {pa : Nat → Nat} {qa : Nat → Nat} {X : Tr} {K : Tr} {R : Tr} {P : Tr} {P2 : Tr} {L2 : Lo} {Tn : Tr} {Ti : Tr} {Tv : Tr} {C : Tr} {Z : Tr} {q0 : Nat} {q1 : Nat} {q3 : Nat} {q4 : Nat} {q5 : Nat} {x1₀ : Int32} {x2₀ : Int32} {r0 : Int32} {L' : Lo} {Tu' : Tr} {q2' : Nat} (F : tF p s m ([.ref (xa 0), .int x1₀, .int x2₀] : List Value).toArray meth c G cA A RX7 cX7_mine 4 (some .int))    (x2 : Int32) (s0 : Int32) (s1 : Int32) (L : Lo) (Tu : Tr) (q2 : Nat) (H : Heap) (locs : List Loc) (ls : Array Slot) (h : fJ_X7_mine_J31 pa qa P Tn q0 q4 x2 s0 s1 L Tu q2 = some (r0, L', Tu', q2')) (hP : va_P G vwCl (wX cA xa ka ra na ia ua va ca za pa qa X K R P L P2 L2 Tn Ti Tu Tv C Z q0 q1 q2 q3 q4 q5) H) (hD : va_D A (wX cA xa ka ra na ia ua va ca za pa qa X K R P L P2 L2 Tn Ti Tu Tv C Z q0 q1 q2 q3 q4 q5)) (hS : va_S A s.heap H locs) (hl : lv_has ls 4 [(2, .int x2)]) : G_X7_mine p l e s m below meth c G cA A xa ka ra na ia ua va ca za pa qa X K R P P2 L2 Tn Ti Tv C Z q0 q1 q3 q4 q5 x1₀ x2₀ r0 L' Tu' q2' H locs (F0 m 31 ls [.int s0, .int s1, .ref (xa 0)]) := by
  obtain ⟨hx, hb, hr, hml, hT, hown, hlocks, hK, hN, hA⟩ := id F
  unfold fJ_X7_mine_J31 at h
  replace h := tx_bd h
  obtain ⟨⟨r8, L_9, Tu_10, q2_11⟩, hc12, h⟩ := h
  replace h := tx_let (y := r8) rfl h
  replace h := tx_let (y := L_9) rfl h
  replace h := tx_let (y := Tu_10) rfl h
  replace h := tx_let (y := q2_11) rfl h
  refine tz_i (As := [.int s1, .int s0]) (rest := []) ⟨hx, hb, hml, hown, hT⟩ hP hD hS hA hK hN (c_X7_findMine l G cA H.size xa ka ra na ia ua va ca za pa qa X K R P L P2 L2 Tn Ti Tu Tv C Z q0 q1 q2 q3 q4 q5 s1 s0  r8 L_9 Tu_10 q2_11 hc12) (tq_gV kw_48_17 kw_48_18 kw_48_19 kw_1_2 kw_48_20) rfl rfl dkdV_yX7_findMine_2 (Nat.le_of_ble_eq_true rfl) (Nat.le_of_ble_eq_true rfl) (ci := 7) (q0 := 0) rfl rfl rfl hl.1 rfl (Nat.le_of_ble_eq_true rfl) dX7_mine_31 ⟨Nat.le_of_ble_eq_true rfl, Nat.le_of_ble_eq_true rfl⟩ (fun _ _ H locs z13 hP hD hS => ?_)
  have z13 := z13.symm
  subst z13
  have hP : va_P G vwCl (wX cA xa ka ra na ia ua va ca za pa qa X K R P L_9 P2 L2 Tn Ti Tu_10 Tv C Z q0 q1 q2_11 q3 q4 q5) H := hP
  have hD : va_D A (wX cA xa ka ra na ia ua va ca za pa qa X K R P L_9 P2 L2 Tn Ti Tu_10 Tv C Z q0 q1 q2_11 q3 q4 q5) := hD
  refine lv_istore_n (lv' := [(3, .int r8), (2, .int x2)]) hx hb dX7_mine_34 rfl hl (by decide) rfl (fun ls hl => ?_)
  refine lv_iload_n hx hb dX7_mine_35 rfl (lv_at hl 0 rfl) ?_
  refine lv_if_ge (tgt := 42) hx hb dX7_mine_36 (by decide) (fun c14 => ?_) (fun c14 => ?_)
  · replace h := tx_pos c14 h
    refine lv_iload_n hx hb dX7_mine_42 rfl (lv_at hl 1 rfl) ?_
    refine lv_iconst (v := 2) hx hb dX7_mine_43 (by decide) ?_
    refine lv_irem hx hb dX7_mine_44 (by decide) ?_
    refine lv_if_ne (tgt := 54) hx hb dX7_mine_45 (by decide) (fun c15 => ?_) (fun c15 => ?_)
    · replace h := tx_neg c15 h
      refine lv_iload_n hx hb dX7_mine_54 rfl (lv_at hl 0 rfl) ?_
      refine lv_iconst (v := 5) hx hb dX7_mine_55 (by decide) ?_
      refine lv_idiv hx hb dX7_mine_56 (by decide) ?_
      obtain ⟨rfl, rfl, rfl, rfl⟩ := tx_4 h
      exact W.iret hx hb hr (fun t ht hW => ⟨⟨_, (), rfl, rfl, by rw [ht]; exact hP, hD⟩, hS.F ht⟩) hS.2.2 dX7_mine_57
    · replace h := tx_pos c15 h
      refine lv_iload_n hx hb dX7_mine_48 rfl (lv_at hl 0 rfl) ?_
      refine lv_iconst (v := 5) hx hb dX7_mine_49 (by decide) ?_
      refine lv_irem hx hb dX7_mine_50 (by decide) ?_
      refine lv_goto (tgt := 57) hx hb dX7_mine_51 (by decide) ?_
      obtain ⟨rfl, rfl, rfl, rfl⟩ := tx_4 h
      exact W.iret hx hb hr (fun t ht hW => ⟨⟨_, (), rfl, rfl, by rw [ht]; exact hP, hD⟩, hS.F ht⟩) hS.2.2 dX7_mine_57
  · replace h := tx_neg c14 h
    refine lv_bipush (v := (-2)) hx hb dX7_mine_39 (by decide) ?_
    obtain ⟨rfl, rfl, rfl, rfl⟩ := tx_4 h
    exact W.iret hx hb hr (fun t ht hW => ⟨⟨_, (), rfl, rfl, by rw [ht]; exact hP, hD⟩, hS.F ht⟩) hS.2.2 dX7_mine_41
set_option maxHeartbeats 4000000 in
set_option maxRecDepth 100000 in
theorem c_X7_mine (l : Launch) (G : va_G) (cA : Nat → ClassId) (sz : Nat) (xa : Nat → Nat) (ka : Nat → Nat) (ra : Nat → Nat) (na : Nat → Nat) (ia : Nat → Nat) (ua : Nat → Nat) (va : Nat → Nat) (ca : Nat → Nat) (za : Nat → Nat) (pa : Nat → Nat) (qa : Nat → Nat) (X : Tr) (K : Tr) (R : Tr) (P : Tr) (L : Lo) (P2 : Tr) (L2 : Lo) (Tn : Tr) (Ti : Tr) (Tu : Tr) (Tv : Tr) (C : Tr) (Z : Tr) (q0 : Nat) (q1 : Nat) (q2 : Nat) (q3 : Nat) (q4 : Nat) (q5 : Nat) (x1 : Int32) (x2 : Int32)  (r0 : Int32) (L' : Lo) (Tu' : Tr) (q2' : Nat) (h : f_X7_mine pa qa P L Tn Tu q0 q2 q4 x1 x2 = some (r0, L', Tu', q2')) : Met l yX7_mine (.code yX7_mine cX7_mine 4 (some .int) :: T0) ({ frames := 7, cells := 0, slots := 0, locals := 179 } : Room) (tqP G cA [.ref (xa 0), .int x1, .int x2] (wX cA xa ka ra na ia ua va ca za pa qa X K R P L P2 L2 Tn Ti Tu Tv C Z q0 q1 q2 q3 q4 q5) sz) (tqQi G cA (fun (r : Int32) (_ : Unit) => r = r0) (fun (_ : Unit) => wX cA xa ka ra na ia ua va ca za pa qa X K R P (L') P2 L2 Tn Ti (Tu') Tv C Z q0 q1 (q2') q3 q4 q5) (va_A (wX cA xa ka ra na ia ua va ca za pa qa X K R P L P2 L2 Tn Ti Tu Tv C Z q0 q1 q2 q3 q4 q5) sz)) 0 0 (va_A (wX cA xa ka ra na ia ua va ca za pa qa X K R P L P2 L2 Tn Ti Tu Tv C Z q0 q1 q2 q3 q4 q5) sz) := by
  refine Met.ofW (cc := cX7_mine) (maxL := 4) (ret := (some .int)) (by decide) rfl ?_
  intro p e s m args below meth c s₁ B hml hv
  obtain ⟨rfl, hsz, hP, hK, hD0, hN⟩ := hv
  have hx := B.exec
  have hb := B.bytes
  have hr := B.returns
  have hts := atoms_spec (ws := .code yX7_mine cX7_mine 4 (some .int) :: T0) B.pre
  have hT : ∀ w ∈ T0, w.before _ s = true := fun w h => hts w (List.mem_cons_of_mem _ h)
  have hown : s.vm.findClass RX7 = some m.cls := findClass_of_methodNamed B.named
  have hlocks := B.notSynchronized
  subst hsz
  have hD := hD0.self (sz := s.heap.size)
  generalize hAe : va_A (wX cA xa ka ra na ia ua va ca za pa qa X K R P L P2 L2 Tn Ti Tu Tv C Z q0 q1 q2 q3 q4 q5) s.heap.size = A at hD ⊢
  have hA : ∀ q : Nat, s.heap.size ≤ q → A q := fun q h => by rw [← hAe]; exact Or.inr h
  have hS : va_S A s.heap s.heap [] := va_S.rf
  have hl := lv_entry ([.ref (xa 0), .int x1, .int x2]) (n := 4) (Nat.le_of_ble_eq_true rfl)
  rw [lg_entry_eq]
  generalize (lg_sl ([.ref (xa 0), .int x1, .int x2]) ++ List.replicate (4 - (lg_sl ([.ref (xa 0), .int x1, .int x2])).length) Slot.unset).toArray = ls at hl ⊢
  have hl : lv_has ls 4 [(0, .ref (xa 0)), (1, .int x1), (2, .int x2)] := hl
  have F : tF p s m ([.ref (xa 0), .int x1, .int x2] : List Value).toArray meth c G cA A RX7 cX7_mine 4 (some .int) := ⟨hx, hb, hr, hml, hT, hown, hlocks, hK, hN, hA⟩
  obtain ⟨H, hH⟩ : ∃ z, z = s.heap := ⟨_, rfl⟩
  rw [← hH] at hP
  have hS : va_S A s.heap H [] := by rw [hH]; exact hS
  suffices hgo : G_X7_mine p l e s m below meth c G cA A xa ka ra na ia ua va ca za pa qa X K R P P2 L2 Tn Ti Tv C Z q0 q1 q3 q4 q5 x1 x2 r0 L' Tu' q2' H [] (F0 m 0 ls []) by rw [hH] at hgo; exact hgo
  generalize ([] : List Loc) = locs at hS ⊢
  unfold f_X7_mine at h
  refine lv_iload_n hx hb dX7_mine_0 rfl (lv_at hl 2 rfl) ?_
  refine lv_if_lt (tgt := 17) hx hb dX7_mine_1 (by decide) (fun c1 => ?_) (fun c1 => ?_)
  · replace h := tx_pos c1 h
    refine lv_iconst (v := (-1)) hx hb dX7_mine_17 (by decide) ?_
    obtain ⟨rfl, rfl, rfl, rfl⟩ := tx_4 h
    exact W.iret hx hb hr (fun t ht hW => ⟨⟨_, (), rfl, rfl, by rw [ht]; exact hP, hD⟩, hS.F ht⟩) hS.2.2 dX7_mine_18
  · replace h := tx_neg c1 h
    refine lv_iload_n hx hb dX7_mine_4 rfl (lv_at hl 2 rfl) ?_
    refine lv_iconst (v := 3) hx hb dX7_mine_5 (by decide) ?_
    refine lv_icmp_gt (tgt := 17) hx hb dX7_mine_6 (by decide) (fun c2 => ?_) (fun c2 => ?_)
    · replace h := tx_pos c2 h
      refine lv_iconst (v := (-1)) hx hb dX7_mine_17 (by decide) ?_
      obtain ⟨rfl, rfl, rfl, rfl⟩ := tx_4 h
      exact W.iret hx hb hr (fun t ht hW => ⟨⟨_, (), rfl, rfl, by rw [ht]; exact hP, hD⟩, hS.F ht⟩) hS.2.2 dX7_mine_18
    · replace h := tx_neg c2 h
      refine lv_aload_n hx hb dX7_mine_9 rfl (lv_at hl 0 rfl) ?_
      refine lv_iload_n hx hb dX7_mine_10 rfl (lv_at hl 1 rfl) ?_
      replace h := tx_bd h
      obtain ⟨r3, hc4, h⟩ := h
      refine tz_i (As := [.int x1]) (rest := []) ⟨hx, hb, hml, hown, hT⟩ hP hD hS hA hK hN (c_X7_comesNow l G cA H.size xa ka ra na ia ua va ca za pa qa X K R P L P2 L2 Tn Ti Tu Tv C Z q0 q1 q2 q3 q4 q5 x1  r3 hc4) (tq_gV kw_46_7 kw_46_8 kw_46_9 kw_1_2 kw_46_10) rfl rfl dkdV_yX7_comesNow_1 (Nat.le_of_ble_eq_true rfl) (Nat.le_of_ble_eq_true rfl) (ci := 7) (q0 := 0) rfl rfl rfl hl.1 rfl (Nat.le_of_ble_eq_true rfl) dX7_mine_11 ⟨Nat.le_of_ble_eq_true rfl, Nat.le_of_ble_eq_true rfl⟩ (fun _ _ H locs z5 hP hD hS => ?_)
      have z5 := z5.symm
      subst z5
      have hP : va_P G vwCl (wX cA xa ka ra na ia ua va ca za pa qa X K R P L P2 L2 Tn Ti Tu Tv C Z q0 q1 q2 q3 q4 q5) H := hP
      have hD : va_D A (wX cA xa ka ra na ia ua va ca za pa qa X K R P L P2 L2 Tn Ti Tu Tv C Z q0 q1 q2 q3 q4 q5) := hD
      refine lv_if_ne (tgt := 19) hx hb dX7_mine_14 (by decide) (fun c6 => ?_) (fun c6 => ?_)
      · replace h := tx_neg c6 h
        refine lv_aload_n hx hb dX7_mine_19 rfl (lv_at hl 0 rfl) ?_
        refine lv_iload_n hx hb dX7_mine_20 rfl (lv_at hl 1 rfl) ?_
        refine lv_iload_n hx hb dX7_mine_21 rfl (lv_at hl 2 rfl) ?_
        refine lv_iconst (v := 2) hx hb dX7_mine_22 (by decide) ?_
        refine lv_icmp_lt (tgt := 30) hx hb dX7_mine_23 (by decide) (fun c7 => ?_) (fun c7 => ?_)
        · replace h := tx_pos c7 h
          refine lv_iconst (v := 0) hx hb dX7_mine_30 (by decide) ?_
          exact w_X7_mine_J31 F x2 0 x1 L Tu q2 H locs ls h hP hD hS (lv_sub hl [2] rfl)
        · replace h := tx_neg c7 h
          refine lv_iconst (v := 1) hx hb dX7_mine_26 (by decide) ?_
          refine lv_goto (tgt := 31) hx hb dX7_mine_27 (by decide) ?_
          exact w_X7_mine_J31 F x2 1 x1 L Tu q2 H locs ls h hP hD hS (lv_sub hl [2] rfl)
      · replace h := tx_pos c6 h
        refine lv_iconst (v := (-1)) hx hb dX7_mine_17 (by decide) ?_
        obtain ⟨rfl, rfl, rfl, rfl⟩ := tx_4 h
        exact W.iret hx hb hr (fun t ht hW => ⟨⟨_, (), rfl, rfl, by rw [ht]; exact hP, hD⟩, hS.F ht⟩) hS.2.2 dX7_mine_18
abbrev G_X7_missed (p : Program) (l : Launch) (e : Env) (s : State) (m : MethodId) (below : List Frame) (meth : Method) (c : Code) (G : va_G) (cA : Nat → ClassId) (A : Nat → Prop) (xa : Nat → Nat) (ka : Nat → Nat) (ra : Nat → Nat) (na : Nat → Nat) (ia : Nat → Nat) (ua : Nat → Nat) (va : Nat → Nat) (ca : Nat → Nat) (za : Nat → Nat) (pa : Nat → Nat) (qa : Nat → Nat) (X : Tr) (K : Tr) (R : Tr) (P : Tr) (P2 : Tr) (L2 : Lo) (Tn : Tr) (Ti : Tr) (C : Tr) (Z : Tr) (q0 : Nat) (q1 : Nat) (q4 : Nat) (q5 : Nat) (x1 : Int32) (r0 : Int32) (L' : Lo) (Tu' : Tr) (Tv' : Tr) (q2' : Nat) (q3' : Nat) (H : Heap) (locs : List Loc) (g : JFrame) : Prop := W p l e (headSpec (.code yX7_missed cX7_missed 4 (some .int) :: T0) ({ frames := 6, cells := 0, slots := 0, locals := 144 } : Room)).room s m ([.ref (xa 0), .int x1] : List Value).toArray below meth c H locs 0 0 (MQ below (tqQi G cA (fun (r : Int32) (_ : Unit) => r = r0) (fun (_ : Unit) => wX cA xa ka ra na ia ua va ca za pa qa X K R P (L') P2 L2 Tn Ti (Tu') (Tv') C Z q0 q1 (q2') (q3') q4 q5) A) ([.ref (xa 0), .int x1] : List Value).toArray s 0 0 A) g
set_option maxHeartbeats 4000000 in
set_option maxRecDepth 100000 in
theorem w_X7_missed_J69 {p : Program} {l : Launch} {e : Env} {s : State} {m : MethodId} {below : List Frame} {meth : Method} {c : Code} {G : va_G} {cA : Nat → ClassId} {A : Nat → Prop} {xa : Nat → Nat} {ka : Nat → Nat} {ra : Nat → Nat} {na : Nat → Nat} {ia : Nat → Nat} {ua : Nat → Nat} {va : Nat → Nat} {ca : Nat → Nat} {za : Nat → Nat} {pa : Nat → Nat} {qa : Nat → Nat} {X : Tr} {K : Tr} {R : Tr} {P : Tr} {P2 : Tr} {L2 : Lo} {Tn : Tr} {Ti : Tr} {C : Tr} {Z : Tr} {q0 : Nat} {q1 : Nat} {q4 : Nat} {q5 : Nat} {x1₀ : Int32} {r0 : Int32} {L' : Lo} {Tu' : Tr} {Tv' : Tr} {q2' : Nat} {q3' : Nat} (F : tF p s m ([.ref (xa 0), .int x1₀] : List Value).toArray meth c G cA A RX7 cX7_missed 4 (some .int))    (x1 : Int32) (x2 : Int32) (x3 : Int32) (L : Lo) (Tu : Tr) (Tv : Tr) (q2 : Nat) (q3 : Nat) (H : Heap) (locs : List Loc) (ls : Array Slot) (h : fJ_X7_missed_J69 pa qa P Tn q0 q4 x1 x2 x3 L Tu Tv q2 q3 = some (r0, L', Tu', Tv', q2', q3')) (hP : va_P G vwCl (wX cA xa ka ra na ia ua va ca za pa qa X K R P L P2 L2 Tn Ti Tu Tv C Z q0 q1 q2 q3 q4 q5) H) (hD : va_D A (wX cA xa ka ra na ia ua va ca za pa qa X K R P L P2 L2 Tn Ti Tu Tv C Z q0 q1 q2 q3 q4 q5)) (hS : va_S A s.heap H locs) (hl : lv_has ls 4 [(0, .ref (xa 0)), (1, .int x1), (2, .int x2), (3, .int x3)]) : G_X7_missed p l e s m below meth c G cA A xa ka ra na ia ua va ca za pa qa X K R P P2 L2 Tn Ti C Z q0 q1 q4 q5 x1₀ r0 L' Tu' Tv' q2' q3' H locs (F0 m 69 ls []) := by
  obtain ⟨hx, hb, hr, hml, hT, hown, hlocks, hK, hN, hA⟩ := id F
  unfold fJ_X7_missed_J69 at h
  refine lv_iload_n hx hb dX7_missed_69 rfl (lv_at hl 1 rfl) ?_
  refine lv_if_ne (tgt := 77) hx hb dX7_missed_70 (by decide) (fun c33 => ?_) (fun c33 => ?_)
  · replace h := tx_neg c33 h
    refine lv_aload_n hx hb dX7_missed_77 rfl (lv_at hl 0 rfl) ?_
    refine va_get (D := G) (ci := 7) (v := .ref (va 0)) (C := RX7) (T := TX7) (N := 12) hx hb hT ku_7 hown hK hP 0 rfl rfl 6 (by decide) (hT _ kw_2_4) (fun _ h9 => h9) rfl dX7_missed_78 ?_
    refine lv_ldcw (v := 1000000) hx hb hown (hT _ kw_52_2) dX7_missed_81 ?_
    replace h := tx_ck h
    obtain ⟨g34, h⟩ := h
    have eg34 := of_decide_eq_true g34
    subst eg34
    replace h := tx_bd h
    obtain ⟨⟨r35, Tv_36, L_37⟩, hc38, h⟩ := h
    replace h := tx_let (y := r35) rfl h
    replace h := tx_let (y := Tv_36) rfl h
    replace h := tx_let (y := L_37) rfl h
    refine tw_ci pX_va hP hD hS hA (va_runV (As := [.int 1000000]) (rest := []) ⟨hx, hb, hml, hown, hT⟩ (c_X6_takeDown l G cA H.size va pa Tv P L (1000000 : Int32)  r35 Tv_36 L_37 hc38) (cwV 1 hT (tq_gV kw_46_23 kw_40_13 kw_40_14 kw_1_23 kw_40_15) rfl rfl rfl dkdV_yX6_takeDown_1 ⟨Nat.le_of_ble_eq_true rfl, Nat.le_of_ble_eq_true rfl⟩) ⟨(tw_pre pX_va hP hD hK hN).1, va_recv hK hP (ci := 6) (q0 := 89) rfl rfl, (tw_pre pX_va hP hD hK hN).2⟩ rfl rfl hl.1 rfl (lv_room (Nat.le_of_ble_eq_true rfl)) dX7_missed_84 ⟨Nat.le_of_ble_eq_true rfl, Nat.le_of_ble_eq_true rfl⟩) (fun _ _ H locs z39 hP hD hS => ?_)
    have z39 := z39.symm
    subst z39
    replace hP := tw_P pX_va.symm hP
    replace hD := tw_D pX_va.symm hD
    have hP : va_P G vwCl (wX cA xa ka ra na ia ua va ca za pa qa X K R P L_37 P2 L2 Tn Ti Tu Tv_36 C Z q0 q1 q2 (pa 0) q4 q5) H := hP
    have hD : va_D A (wX cA xa ka ra na ia ua va ca za pa qa X K R P L_37 P2 L2 Tn Ti Tu Tv_36 C Z q0 q1 q2 (pa 0) q4 q5) := hD
    refine lv_aload_n hx hb dX7_missed_87 rfl (lv_at hl 0 rfl) ?_
    refine va_get (D := G) (ci := 7) (v := .ref q4) (C := RX7) (T := TX7) (N := 12) hx hb hT ku_7 hown hK hP 0 rfl rfl 1 (by decide) (hT _ kw_1_20) (fun _ h9 => h9) rfl dX7_missed_88 ?_
    replace h := tx_ck h
    obtain ⟨g40, h⟩ := h
    have eg40 := of_decide_eq_true g40
    subst eg40
    refine va_get (D := G) (ci := 2) (v := .ref (pa 18)) (C := RX2) (T := TX2) (N := 19) hx hb hT ku_2 hown hK hP 9 rfl rfl 17 (by decide) (hT _ kw_32_23) (fun _ h9 => h9) rfl dX7_missed_91 ?_
    refine lv_iload_n hx hb dX7_missed_94 rfl (lv_at hl 2 rfl) ?_
    replace h := tx_ck h
    obtain ⟨g41, h⟩ := h
    refine va_iald (i := x2) hx hb hK hP 20 0 rfl rfl (tx_in g41) dX7_missed_95 ?_
    refine lv_isub hx hb dX7_missed_96 ?_
    obtain ⟨rfl, rfl, rfl, rfl, rfl, rfl⟩ := tx_6 h
    exact W.iret hx hb hr (fun t ht hW => ⟨⟨_, (), rfl, rfl, by rw [ht]; exact hP, hD⟩, hS.F ht⟩) hS.2.2 dX7_missed_97
  · replace h := tx_pos c33 h
    refine lv_iload_n hx hb dX7_missed_73 rfl (lv_at hl 3 rfl) ?_
    refine lv_goto (tgt := 97) hx hb dX7_missed_74 (by decide) ?_
    obtain ⟨rfl, rfl, rfl, rfl, rfl, rfl⟩ := tx_6 h
    exact W.iret hx hb hr (fun t ht hW => ⟨⟨_, (), rfl, rfl, by rw [ht]; exact hP, hD⟩, hS.F ht⟩) hS.2.2 dX7_missed_97
set_option maxHeartbeats 4000000 in
set_option maxRecDepth 100000 in
theorem w_X7_missed_L23 {p : Program} {l : Launch} {e : Env} {s : State} {m : MethodId} {below : List Frame} {meth : Method} {c : Code} {G : va_G} {cA : Nat → ClassId} {A : Nat → Prop} {xa : Nat → Nat} {ka : Nat → Nat} {ra : Nat → Nat} {na : Nat → Nat} {ia : Nat → Nat} {ua : Nat → Nat} {va : Nat → Nat} {ca : Nat → Nat} {za : Nat → Nat} {pa : Nat → Nat} {qa : Nat → Nat} {X : Tr} {K : Tr} {R : Tr} {P : Tr} {P2 : Tr} {L2 : Lo} {Tn : Tr} {Ti : Tr} {C : Tr} {Z : Tr} {q0 : Nat} {q1 : Nat} {q4 : Nat} {q5 : Nat} {x1₀ : Int32} {r0 : Int32} {L' : Lo} {Tu' : Tr} {Tv' : Tr} {q2' : Nat} {q3' : Nat} {q2 : Nat} {x1 : Int32} (F : tF p s m ([.ref (xa 0), .int x1₀] : List Value).toArray meth c G cA A RX7 cX7_missed 4 (some .int))    (N : Nat) : ∀ (x2 : Int32) (L : Lo) (Tu : Tr) (Tv : Tr) (q3 : Nat) (H : Heap) (locs : List Loc) (ls : Array Slot), lpF (fun _ _ _ _ _ => none) (fB_X7_missed_L23 pa qa P Tn q0 q2 q4 x1) N x2 L Tu Tv q3 = some (r0, L', Tu', Tv', q2', q3') → va_P G vwCl (wX cA xa ka ra na ia ua va ca za pa qa X K R P L P2 L2 Tn Ti Tu Tv C Z q0 q1 q2 q3 q4 q5) H → va_D A (wX cA xa ka ra na ia ua va ca za pa qa X K R P L P2 L2 Tn Ti Tu Tv C Z q0 q1 q2 q3 q4 q5) → va_S A s.heap H locs → lv_has ls 4 [(0, .ref (xa 0)), (1, .int x1), (2, .int x2)] → G_X7_missed p l e s m below meth c G cA A xa ka ra na ia ua va ca za pa qa X K R P P2 L2 Tn Ti C Z q0 q1 q4 q5 x1₀ r0 L' Tu' Tv' q2' q3' H locs (F0 m 23 ls []) := by
  obtain ⟨hx, hb, hr, hml, hT, hown, hlocks, hK, hN, hA⟩ := id F
  induction N with
  | zero =>
    intro x2 L Tu Tv q3 H locs ls h
    replace h : (none : Option (Int32 × Lo × Tr × Tr × Nat × Nat)) = some (r0, L', Tu', Tv', q2', q3') := h
    cases h
  | succ N hk23 =>
    intro x2 L Tu Tv q3 H locs ls h hP hD hS hl
    replace h : fB_X7_missed_L23 pa qa P Tn q0 q2 q4 x1 (lpF (fun _ _ _ _ _ => none) (fB_X7_missed_L23 pa qa P Tn q0 q2 q4 x1) N) x2 L Tu Tv q3 = some (r0, L', Tu', Tv', q2', q3') := h
    generalize hk23e : lpF (fun _ _ _ _ _ => none) (fB_X7_missed_L23 pa qa P Tn q0 q2 q4 x1) N = k23 at h hk23
    unfold fB_X7_missed_L23 at h
    refine lv_iload_n hx hb dX7_missed_23 rfl (lv_at hl 2 rfl) ?_
    refine lv_bipush (v := 20) hx hb dX7_missed_24 (by decide) ?_
    refine lv_icmp_gt (tgt := 118) hx hb dX7_missed_26 (by decide) (fun c8 => ?_) (fun c8 => ?_)
    · replace h := tx_pos c8 h
      refine lv_bipush (v := (-2)) hx hb dX7_missed_118 (by decide) ?_
      obtain ⟨rfl, rfl, rfl, rfl, rfl, rfl⟩ := tx_6 h
      exact W.iret hx hb hr (fun t ht hW => ⟨⟨_, (), rfl, rfl, by rw [ht]; exact hP, hD⟩, hS.F ht⟩) hS.2.2 dX7_missed_120
    · replace h := tx_neg c8 h
      refine lv_aload_n hx hb dX7_missed_29 rfl (lv_at hl 0 rfl) ?_
      refine va_get (D := G) (ci := 7) (v := .ref (va 0)) (C := RX7) (T := TX7) (N := 12) hx hb hT ku_7 hown hK hP 0 rfl rfl 6 (by decide) (hT _ kw_2_4) (fun _ h9 => h9) rfl dX7_missed_30 ?_
      refine lv_aload_n hx hb dX7_missed_33 rfl (lv_at hl 0 rfl) ?_
      refine va_get (D := G) (ci := 7) (v := .ref (ua 0)) (C := RX7) (T := TX7) (N := 12) hx hb hT ku_7 hown hK hP 0 rfl rfl 5 (by decide) (hT _ kw_2_3) (fun _ h9 => h9) rfl dX7_missed_34 ?_
      replace h := tx_bd h
      obtain ⟨⟨Tv_9, q3_10⟩, hc11, h⟩ := h
      replace h := tx_let (y := Tv_9) rfl h
      replace h := tx_let (y := q3_10) rfl h
      refine tw_cv pX_va_ua hP hD hS hA (va_runV (As := [.ref (ua 0)]) (rest := []) ⟨hx, hb, hml, hown, hT⟩ (c_X6_copy l G cA H.size va ua Tv Tu q3 q2  Tv_9 q3_10 hc11) (cwV 1 hT (tq_gV kw_38_6 kw_38_7 kw_38_8 kw_1_23 kw_38_9) rfl rfl rfl dkdV_yX6_copy_1 ⟨Nat.le_of_ble_eq_true rfl, Nat.le_of_ble_eq_true rfl⟩) ⟨(tw_pre pX_va_ua hP hD hK hN).1, va_recv hK hP (ci := 6) (q0 := 89) rfl rfl, (tw_pre pX_va_ua hP hD hK hN).2⟩ rfl rfl hl.1 rfl (lv_room (Nat.le_of_ble_eq_true rfl)) dX7_missed_37 ⟨Nat.le_of_ble_eq_true rfl, Nat.le_of_ble_eq_true rfl⟩) (fun _ H locs z12 hP hD hS => ?_)
      replace hP := tw_P pX_va_ua.symm hP
      replace hD := tw_D pX_va_ua.symm hD
      have hP : va_P G vwCl (wX cA xa ka ra na ia ua va ca za pa qa X K R P L P2 L2 Tn Ti Tu Tv_9 C Z q0 q1 q2 q3_10 q4 q5) H := hP
      have hD : va_D A (wX cA xa ka ra na ia ua va ca za pa qa X K R P L P2 L2 Tn Ti Tu Tv_9 C Z q0 q1 q2 q3_10 q4 q5) := hD
      refine lv_aload_n hx hb dX7_missed_40 rfl (lv_at hl 0 rfl) ?_
      refine va_get (D := G) (ci := 7) (v := .ref (ua 0)) (C := RX7) (T := TX7) (N := 12) hx hb hT ku_7 hown hK hP 0 rfl rfl 5 (by decide) (hT _ kw_2_3) (fun _ h9 => h9) rfl dX7_missed_41 ?_
      refine lv_aload_n hx hb dX7_missed_44 rfl (lv_at hl 0 rfl) ?_
      refine va_get (D := G) (ci := 7) (v := .ref q4) (C := RX7) (T := TX7) (N := 12) hx hb hT ku_7 hown hK hP 0 rfl rfl 1 (by decide) (hT _ kw_1_20) (fun _ h9 => h9) rfl dX7_missed_45 ?_
      replace h := tx_ck h
      obtain ⟨g13, h⟩ := h
      have eg13 := of_decide_eq_true g13
      subst eg13
      refine va_get (D := G) (ci := 2) (v := .ref (pa 18)) (C := RX2) (T := TX2) (N := 19) hx hb hT ku_2 hown hK hP 9 rfl rfl 17 (by decide) (hT _ kw_32_23) (fun _ h9 => h9) rfl dX7_missed_48 ?_
      refine lv_iload_n hx hb dX7_missed_51 rfl (lv_at hl 2 rfl) ?_
      replace h := tx_ck h
      obtain ⟨g14, h⟩ := h
      refine va_iald (i := x2) hx hb hK hP 20 0 rfl rfl (tx_in g14) dX7_missed_52 ?_
      replace h := tx_ck h
      obtain ⟨g15, h⟩ := h
      have eg15 := of_decide_eq_true g15
      subst eg15
      replace h := tx_bd h
      obtain ⟨⟨r16, Tu_17, L_18⟩, hc19, h⟩ := h
      replace h := tx_let (y := r16) rfl h
      replace h := tx_let (y := Tu_17) rfl h
      replace h := tx_let (y := L_18) rfl h
      refine tw_ci pX_ua hP hD hS hA (va_runV (As := [.int (P 18 x2.toNatClampNeg)]) (rest := []) ⟨hx, hb, hml, hown, hT⟩ (c_X6_takeDown l G cA H.size ua pa Tu P L (P 18 x2.toNatClampNeg)  r16 Tu_17 L_18 hc19) (cwV 1 hT (tq_gV kw_46_23 kw_40_13 kw_40_14 kw_1_23 kw_40_15) rfl rfl rfl dkdV_yX6_takeDown_1 ⟨Nat.le_of_ble_eq_true rfl, Nat.le_of_ble_eq_true rfl⟩) ⟨(tw_pre pX_ua hP hD hK hN).1, va_recv hK hP (ci := 6) (q0 := 77) rfl rfl, (tw_pre pX_ua hP hD hK hN).2⟩ rfl rfl hl.1 rfl (lv_room (Nat.le_of_ble_eq_true rfl)) dX7_missed_53 ⟨Nat.le_of_ble_eq_true rfl, Nat.le_of_ble_eq_true rfl⟩) (fun _ _ H locs z20 hP hD hS => ?_)
      have z20 := z20.symm
      subst z20
      replace hP := tw_P pX_ua.symm hP
      replace hD := tw_D pX_ua.symm hD
      have hP : va_P G vwCl (wX cA xa ka ra na ia ua va ca za pa qa X K R P L_18 P2 L2 Tn Ti Tu_17 Tv_9 C Z q0 q1 (pa 0) q3_10 (pa 0) q5) H := hP
      have hD : va_D A (wX cA xa ka ra na ia ua va ca za pa qa X K R P L_18 P2 L2 Tn Ti Tu_17 Tv_9 C Z q0 q1 (pa 0) q3_10 (pa 0) q5) := hD
      refine lv_pop hx hb dX7_missed_56 rfl ?_
      refine lv_aload_n hx hb dX7_missed_57 rfl (lv_at hl 0 rfl) ?_
      refine va_get (D := G) (ci := 7) (v := .ref (ua 0)) (C := RX7) (T := TX7) (N := 12) hx hb hT ku_7 hown hK hP 0 rfl rfl 5 (by decide) (hT _ kw_2_3) (fun _ h9 => h9) rfl dX7_missed_58 ?_
      replace h := tx_bd h
      obtain ⟨r21, hc22, h⟩ := h
      refine tw_ci pX_ua hP hD hS hA (va_runV (As := []) (rest := []) ⟨hx, hb, hml, hown, hT⟩ (c_X6_firstLate l G cA H.size ua pa Tu_17 P L_18  r21 hc22) (cwV 0 hT (tq_gV kw_52_11 kw_52_12 kw_52_13 kw_1_23 kw_52_14) rfl rfl rfl dkdV_yX6_firstLate_0 ⟨Nat.le_of_ble_eq_true rfl, Nat.le_of_ble_eq_true rfl⟩) ⟨(tw_pre pX_ua hP hD hK hN).1, va_recv hK hP (ci := 6) (q0 := 77) rfl rfl, (tw_pre pX_ua hP hD hK hN).2⟩ rfl rfl hl.1 rfl (lv_room (Nat.le_of_ble_eq_true rfl)) dX7_missed_61 ⟨Nat.le_of_ble_eq_true rfl, Nat.le_of_ble_eq_true rfl⟩) (fun _ _ H locs z23 hP hD hS => ?_)
      have z23 := z23.symm
      subst z23
      replace hP := tw_P pX_ua.symm hP
      replace hD := tw_D pX_ua.symm hD
      have hP : va_P G vwCl (wX cA xa ka ra na ia ua va ca za pa qa X K R P L_18 P2 L2 Tn Ti Tu_17 Tv_9 C Z q0 q1 (pa 0) q3_10 (pa 0) q5) H := hP
      have hD : va_D A (wX cA xa ka ra na ia ua va ca za pa qa X K R P L_18 P2 L2 Tn Ti Tu_17 Tv_9 C Z q0 q1 (pa 0) q3_10 (pa 0) q5) := hD
      refine lv_istore_n (lv' := [(3, .int r21), (0, .ref (xa 0)), (1, .int x1), (2, .int x2)]) hx hb dX7_missed_64 rfl hl (by decide) rfl (fun ls hl => ?_)
      refine lv_iload_n hx hb dX7_missed_65 rfl (lv_at hl 0 rfl) ?_
      refine lv_if_lt (tgt := 98) hx hb dX7_missed_66 (by decide) (fun c24 => ?_) (fun c24 => ?_)
      · replace h := tx_pos c24 h
        refine lv_aload_n hx hb dX7_missed_98 rfl (lv_at hl 1 rfl) ?_
        refine va_get (D := G) (ci := 7) (v := .ref (ua 0)) (C := RX7) (T := TX7) (N := 12) hx hb hT ku_7 hown hK hP 0 rfl rfl 5 (by decide) (hT _ kw_2_3) (fun _ h9 => h9) rfl dX7_missed_99 ?_
        replace h := tx_bd h
        obtain ⟨Tu_25, hc26, h⟩ := h
        refine tw_cv pX_ua hP hD hS hA (va_runV (As := []) (rest := []) ⟨hx, hb, hml, hown, hT⟩ (c_X6_getIn l G cA H.size ua pa Tu_17 P L_18  Tu_25 hc26) (cwV 0 hT (tq_gV kw_47_4 kw_41_13 kw_41_14 kw_1_23 kw_41_15) rfl rfl rfl dkdV_yX6_getIn_0 ⟨Nat.le_of_ble_eq_true rfl, Nat.le_of_ble_eq_true rfl⟩) ⟨(tw_pre pX_ua hP hD hK hN).1, va_recv hK hP (ci := 6) (q0 := 77) rfl rfl, (tw_pre pX_ua hP hD hK hN).2⟩ rfl rfl hl.1 rfl (lv_room (Nat.le_of_ble_eq_true rfl)) dX7_missed_102 ⟨Nat.le_of_ble_eq_true rfl, Nat.le_of_ble_eq_true rfl⟩) (fun _ H locs z27 hP hD hS => ?_)
        replace hP := tw_P pX_ua.symm hP
        replace hD := tw_D pX_ua.symm hD
        have hP : va_P G vwCl (wX cA xa ka ra na ia ua va ca za pa qa X K R P L_18 P2 L2 Tn Ti Tu_25 Tv_9 C Z q0 q1 (pa 0) q3_10 (pa 0) q5) H := hP
        have hD : va_D A (wX cA xa ka ra na ia ua va ca za pa qa X K R P L_18 P2 L2 Tn Ti Tu_25 Tv_9 C Z q0 q1 (pa 0) q3_10 (pa 0) q5) := hD
        refine lv_aload_n hx hb dX7_missed_105 rfl (lv_at hl 1 rfl) ?_
        refine va_get (D := G) (ci := 7) (v := .ref (ua 0)) (C := RX7) (T := TX7) (N := 12) hx hb hT ku_7 hown hK hP 0 rfl rfl 5 (by decide) (hT _ kw_2_3) (fun _ h9 => h9) rfl dX7_missed_106 ?_
        replace h := tx_bd h
        obtain ⟨⟨Tu_28, L_29⟩, hc30, h⟩ := h
        replace h := tx_let (y := Tu_28) rfl h
        replace h := tx_let (y := L_29) rfl h
        refine tw_cv pX_ua hP hD hS hA (va_runV (As := []) (rest := []) ⟨hx, hb, hml, hown, hT⟩ (c_X6_wayOn l G cA H.size ua pa Tu_25 P L_18  Tu_28 L_29 hc30) (cwV 0 hT (tq_gV kw_47_9 kw_42_4 kw_42_5 kw_1_23 kw_42_6) rfl rfl rfl dkdV_yX6_wayOn_0 ⟨Nat.le_of_ble_eq_true rfl, Nat.le_of_ble_eq_true rfl⟩) ⟨(tw_pre pX_ua hP hD hK hN).1, va_recv hK hP (ci := 6) (q0 := 77) rfl rfl, (tw_pre pX_ua hP hD hK hN).2⟩ rfl rfl hl.1 rfl (lv_room (Nat.le_of_ble_eq_true rfl)) dX7_missed_109 ⟨Nat.le_of_ble_eq_true rfl, Nat.le_of_ble_eq_true rfl⟩) (fun _ H locs z31 hP hD hS => ?_)
        replace hP := tw_P pX_ua.symm hP
        replace hD := tw_D pX_ua.symm hD
        have hP : va_P G vwCl (wX cA xa ka ra na ia ua va ca za pa qa X K R P L_29 P2 L2 Tn Ti Tu_28 Tv_9 C Z q0 q1 (pa 0) q3_10 (pa 0) q5) H := hP
        have hD : va_D A (wX cA xa ka ra na ia ua va ca za pa qa X K R P L_29 P2 L2 Tn Ti Tu_28 Tv_9 C Z q0 q1 (pa 0) q3_10 (pa 0) q5) := hD
        replace h := tx_lt h
        obtain ⟨y32, ey32, h⟩ := h
        refine lv_iinc (v := y32) (lv' := [(2, .int y32), (3, .int r21), (0, .ref (xa 0)), (1, .int x1)]) hx hb dX7_missed_112 hl (k := 3) rfl ey32 (by decide) rfl (fun ls hl => ?_)
        refine lv_goto (tgt := 23) hx hb dX7_missed_115 (by decide) ?_
        exact hk23 y32 L_29 Tu_28 Tv_9 q3_10 H locs ls h hP hD hS (lv_sub hl [2, 3, 0] rfl)
      · replace h := tx_neg c24 h
        exact w_X7_missed_J69 F x1 x2 r21 L_18 Tu_17 Tv_9 (pa 0) q3_10 H locs ls h hP hD hS (lv_sub hl [1, 2, 3, 0] rfl)
set_option maxHeartbeats 4000000 in
set_option maxRecDepth 100000 in
theorem c_X7_missed (l : Launch) (G : va_G) (cA : Nat → ClassId) (sz : Nat) (xa : Nat → Nat) (ka : Nat → Nat) (ra : Nat → Nat) (na : Nat → Nat) (ia : Nat → Nat) (ua : Nat → Nat) (va : Nat → Nat) (ca : Nat → Nat) (za : Nat → Nat) (pa : Nat → Nat) (qa : Nat → Nat) (X : Tr) (K : Tr) (R : Tr) (P : Tr) (L : Lo) (P2 : Tr) (L2 : Lo) (Tn : Tr) (Ti : Tr) (Tu : Tr) (Tv : Tr) (C : Tr) (Z : Tr) (q0 : Nat) (q1 : Nat) (q2 : Nat) (q3 : Nat) (q4 : Nat) (q5 : Nat) (x1 : Int32)  (r0 : Int32) (L' : Lo) (Tu' : Tr) (Tv' : Tr) (q2' : Nat) (q3' : Nat) (h : f_X7_missed pa qa P L Tn Tu Tv q0 q2 q3 q4 x1 = some (r0, L', Tu', Tv', q2', q3')) : Met l yX7_missed (.code yX7_missed cX7_missed 4 (some .int) :: T0) ({ frames := 6, cells := 0, slots := 0, locals := 144 } : Room) (tqP G cA [.ref (xa 0), .int x1] (wX cA xa ka ra na ia ua va ca za pa qa X K R P L P2 L2 Tn Ti Tu Tv C Z q0 q1 q2 q3 q4 q5) sz) (tqQi G cA (fun (r : Int32) (_ : Unit) => r = r0) (fun (_ : Unit) => wX cA xa ka ra na ia ua va ca za pa qa X K R P (L') P2 L2 Tn Ti (Tu') (Tv') C Z q0 q1 (q2') (q3') q4 q5) (va_A (wX cA xa ka ra na ia ua va ca za pa qa X K R P L P2 L2 Tn Ti Tu Tv C Z q0 q1 q2 q3 q4 q5) sz)) 0 0 (va_A (wX cA xa ka ra na ia ua va ca za pa qa X K R P L P2 L2 Tn Ti Tu Tv C Z q0 q1 q2 q3 q4 q5) sz) := by
  refine Met.ofW (cc := cX7_missed) (maxL := 4) (ret := (some .int)) (by decide) rfl ?_
  intro p e s m args below meth c s₁ B hml hv
  obtain ⟨rfl, hsz, hP, hK, hD0, hN⟩ := hv
  have hx := B.exec
  have hb := B.bytes
  have hr := B.returns
  have hts := atoms_spec (ws := .code yX7_missed cX7_missed 4 (some .int) :: T0) B.pre
  have hT : ∀ w ∈ T0, w.before _ s = true := fun w h => hts w (List.mem_cons_of_mem _ h)
  have hown : s.vm.findClass RX7 = some m.cls := findClass_of_methodNamed B.named
  have hlocks := B.notSynchronized
  subst hsz
  have hD := hD0.self (sz := s.heap.size)
  generalize hAe : va_A (wX cA xa ka ra na ia ua va ca za pa qa X K R P L P2 L2 Tn Ti Tu Tv C Z q0 q1 q2 q3 q4 q5) s.heap.size = A at hD ⊢
  have hA : ∀ q : Nat, s.heap.size ≤ q → A q := fun q h => by rw [← hAe]; exact Or.inr h
  have hS : va_S A s.heap s.heap [] := va_S.rf
  have hl := lv_entry ([.ref (xa 0), .int x1]) (n := 4) (Nat.le_of_ble_eq_true rfl)
  rw [lg_entry_eq]
  generalize (lg_sl ([.ref (xa 0), .int x1]) ++ List.replicate (4 - (lg_sl ([.ref (xa 0), .int x1])).length) Slot.unset).toArray = ls at hl ⊢
  have hl : lv_has ls 4 [(0, .ref (xa 0)), (1, .int x1)] := hl
  have F : tF p s m ([.ref (xa 0), .int x1] : List Value).toArray meth c G cA A RX7 cX7_missed 4 (some .int) := ⟨hx, hb, hr, hml, hT, hown, hlocks, hK, hN, hA⟩
  obtain ⟨H, hH⟩ : ∃ z, z = s.heap := ⟨_, rfl⟩
  rw [← hH] at hP
  have hS : va_S A s.heap H [] := by rw [hH]; exact hS
  suffices hgo : G_X7_missed p l e s m below meth c G cA A xa ka ra na ia ua va ca za pa qa X K R P P2 L2 Tn Ti C Z q0 q1 q4 q5 x1 r0 L' Tu' Tv' q2' q3' H [] (F0 m 0 ls []) by rw [hH] at hgo; exact hgo
  generalize ([] : List Loc) = locs at hS ⊢
  unfold f_X7_missed at h
  refine lv_iload_n hx hb dX7_missed_0 rfl (lv_at hl 1 rfl) ?_
  refine lv_if_lt (tgt := 9) hx hb dX7_missed_1 (by decide) (fun c1 => ?_) (fun c1 => ?_)
  · replace h := tx_pos c1 h
    refine lv_iconst (v := (-1)) hx hb dX7_missed_9 (by decide) ?_
    obtain ⟨rfl, rfl, rfl, rfl, rfl, rfl⟩ := tx_6 h
    exact W.iret hx hb hr (fun t ht hW => ⟨⟨_, (), rfl, rfl, by rw [ht]; exact hP, hD⟩, hS.F ht⟩) hS.2.2 dX7_missed_10
  · replace h := tx_neg c1 h
    refine lv_iload_n hx hb dX7_missed_4 rfl (lv_at hl 1 rfl) ?_
    refine lv_iconst (v := 1) hx hb dX7_missed_5 (by decide) ?_
    refine lv_icmp_le (tgt := 11) hx hb dX7_missed_6 (by decide) (fun c2 => ?_) (fun c2 => ?_)
    · replace h := tx_pos c2 h
      refine lv_aload_n hx hb dX7_missed_11 rfl (lv_at hl 0 rfl) ?_
      replace h := tx_bd h
      obtain ⟨⟨Tu_3, q2_4⟩, hc5, h⟩ := h
      replace h := tx_let (y := Tu_3) rfl h
      replace h := tx_let (y := q2_4) rfl h
      refine tz_v (As := []) (rest := []) ⟨hx, hb, hml, hown, hT⟩ hP hD hS hA hK hN (c_X7_startTrial l G cA H.size xa ka ra na ia ua va ca za pa qa X K R P L P2 L2 Tn Ti Tu Tv C Z q0 q1 q2 q3 q4 q5  Tu_3 q2_4 hc5) (tq_gV kw_46_17 kw_46_18 kw_46_19 kw_1_2 kw_46_20) rfl rfl dkdV_yX7_startTrial_0 (Nat.le_of_ble_eq_true rfl) (Nat.le_of_ble_eq_true rfl) (ci := 7) (q0 := 0) rfl rfl rfl hl.1 rfl (Nat.le_of_ble_eq_true rfl) dX7_missed_12 ⟨Nat.le_of_ble_eq_true rfl, Nat.le_of_ble_eq_true rfl⟩ (fun _ H locs z6 hP hD hS => ?_)
      have hP : va_P G vwCl (wX cA xa ka ra na ia ua va ca za pa qa X K R P L P2 L2 Tn Ti Tu_3 Tv C Z q0 q1 q2_4 q3 q4 q5) H := hP
      have hD : va_D A (wX cA xa ka ra na ia ua va ca za pa qa X K R P L P2 L2 Tn Ti Tu_3 Tv C Z q0 q1 q2_4 q3 q4 q5) := hD
      refine lv_aload_n hx hb dX7_missed_15 rfl (lv_at hl 0 rfl) ?_
      refine va_get (D := G) (ci := 7) (v := .ref (na 0)) (C := RX7) (T := TX7) (N := 12) hx hb hT ku_7 hown hK hP 0 rfl rfl 2 (by decide) (hT _ kw_2_0) (fun _ h9 => h9) rfl dX7_missed_16 ?_
      refine va_get (D := G) (ci := 6) (v := .int (Tn 0 0)) (C := RX6) (T := TX6) (N := 20) hx hb hT ku_6 hown hK hP 53 rfl rfl 0 (by decide) (hT _ kw_40_5) (fun _ h9 => h9) rfl dX7_missed_19 ?_
      refine lv_topi (fun y7 ey7 => ?_)
      replace h := tx_let ey7 h
      refine lv_istore_n (lv' := [(2, .int y7), (0, .ref (xa 0)), (1, .int x1)]) hx hb dX7_missed_22 rfl hl (by decide) rfl (fun ls hl => ?_)
      exact w_X7_missed_L23 F 2000 y7 L Tu_3 Tv q3 H locs ls h hP hD hS (lv_sub hl [1, 2, 0] rfl)
    · replace h := tx_neg c2 h
      refine lv_iconst (v := (-1)) hx hb dX7_missed_9 (by decide) ?_
      obtain ⟨rfl, rfl, rfl, rfl, rfl, rfl⟩ := tx_6 h
      exact W.iret hx hb hr (fun t ht hW => ⟨⟨_, (), rfl, rfl, by rw [ht]; exact hP, hD⟩, hS.F ht⟩) hS.2.2 dX7_missed_10
abbrev G_X7_move (p : Program) (l : Launch) (e : Env) (s : State) (m : MethodId) (below : List Frame) (meth : Method) (c : Code) (G : va_G) (cA : Nat → ClassId) (A : Nat → Prop) (xa : Nat → Nat) (ka : Nat → Nat) (ra : Nat → Nat) (na : Nat → Nat) (ia : Nat → Nat) (ua : Nat → Nat) (va : Nat → Nat) (ca : Nat → Nat) (za : Nat → Nat) (pa : Nat → Nat) (qa : Nat → Nat) (X : Tr) (K : Tr) (R : Tr) (P : Tr) (L : Lo) (P2 : Tr) (L2 : Lo) (Ti : Tr) (Tu : Tr) (Tv : Tr) (Z : Tr) (q0 : Nat) (q1 : Nat) (q2 : Nat) (q3 : Nat) (q4 : Nat) (q5 : Nat) (x1 : Int32) (x2 : Int32) (r0 : Int32) (Tn' : Tr) (C' : Tr) (H : Heap) (locs : List Loc) (g : JFrame) : Prop := W p l e (headSpec (.code yX7_move cX7_move 3 (some .boolean) :: T0) ({ frames := 3, cells := 0, slots := 0, locals := 84 } : Room)).room s m ([.ref (xa 0), .int x1, .int x2] : List Value).toArray below meth c H locs 0 0 (MQ below (tqQi G cA (fun (r : Int32) (_ : Unit) => r = r0) (fun (_ : Unit) => wX cA xa ka ra na ia ua va ca za pa qa X K R P L P2 L2 (Tn') Ti Tu Tv (C') Z q0 q1 q2 q3 q4 q5) A) ([.ref (xa 0), .int x1, .int x2] : List Value).toArray s 0 0 A) g
set_option maxHeartbeats 4000000 in
set_option maxRecDepth 100000 in
theorem w_X7_move_J69 {p : Program} {l : Launch} {e : Env} {s : State} {m : MethodId} {below : List Frame} {meth : Method} {c : Code} {G : va_G} {cA : Nat → ClassId} {A : Nat → Prop} {xa : Nat → Nat} {ka : Nat → Nat} {ra : Nat → Nat} {na : Nat → Nat} {ia : Nat → Nat} {ua : Nat → Nat} {va : Nat → Nat} {ca : Nat → Nat} {za : Nat → Nat} {pa : Nat → Nat} {qa : Nat → Nat} {X : Tr} {K : Tr} {R : Tr} {P : Tr} {L : Lo} {P2 : Tr} {L2 : Lo} {Ti : Tr} {Tu : Tr} {Tv : Tr} {Z : Tr} {q0 : Nat} {q1 : Nat} {q2 : Nat} {q3 : Nat} {q4 : Nat} {q5 : Nat} {x1₀ : Int32} {x2₀ : Int32} {r0 : Int32} {Tn' : Tr} {C' : Tr} (F : tF p s m ([.ref (xa 0), .int x1₀, .int x2₀] : List Value).toArray meth c G cA A RX7 cX7_move 3 (some .boolean))    (x1 : Int32) (x2 : Int32) (Tn : Tr) (C : Tr) (H : Heap) (locs : List Loc) (ls : Array Slot) (h : fJ_X7_move_J69 pa qa P q0 q4 x1 x2 Tn C = some (r0, Tn', C')) (hP : va_P G vwCl (wX cA xa ka ra na ia ua va ca za pa qa X K R P L P2 L2 Tn Ti Tu Tv C Z q0 q1 q2 q3 q4 q5) H) (hD : va_D A (wX cA xa ka ra na ia ua va ca za pa qa X K R P L P2 L2 Tn Ti Tu Tv C Z q0 q1 q2 q3 q4 q5)) (hS : va_S A s.heap H locs) (hl : lv_has ls 3 [(0, .ref (xa 0)), (1, .int x1), (2, .int x2)]) : G_X7_move p l e s m below meth c G cA A xa ka ra na ia ua va ca za pa qa X K R P L P2 L2 Ti Tu Tv Z q0 q1 q2 q3 q4 q5 x1₀ x2₀ r0 Tn' C' H locs (F0 m 69 ls []) := by
  obtain ⟨hx, hb, hr, hml, hT, hown, hlocks, hK, hN, hA⟩ := id F
  unfold fJ_X7_move_J69 at h
  refine lv_aload_n hx hb dX7_move_69 rfl (lv_at hl 0 rfl) ?_
  refine va_get (D := G) (ci := 7) (v := .ref (ca 0)) (C := RX7) (T := TX7) (N := 12) hx hb hT ku_7 hown hK hP 0 rfl rfl 7 (by decide) (hT _ kw_2_8) (fun _ h9 => h9) rfl dX7_move_70 ?_
  refine lv_aload_n hx hb dX7_move_73 rfl (lv_at hl 0 rfl) ?_
  refine va_get (D := G) (ci := 7) (v := .ref (na 0)) (C := RX7) (T := TX7) (N := 12) hx hb hT ku_7 hown hK hP 0 rfl rfl 2 (by decide) (hT _ kw_2_0) (fun _ h9 => h9) rfl dX7_move_74 ?_
  replace h := tx_bd h
  obtain ⟨C_17, hc18, h⟩ := h
  refine tz_v (As := [.ref (na 0)]) (rest := []) ⟨hx, hb, hml, hown, hT⟩ hP hD hS hA hK hN (c_X0_save_x_na0 l G cA H.size xa ka ra na ia ua va ca za pa qa X K R P L P2 L2 Tn Ti Tu Tv C Z q0 q1 q2 q3 q4 q5  C_17 hc18) (tq_gV kw_36_1 kw_36_2 kw_36_3 kw_2_7 kw_36_4) rfl rfl dkdV_yX0_save_1 (Nat.le_of_ble_eq_true rfl) (Nat.le_of_ble_eq_true rfl) (ci := 0) (q0 := 101) rfl rfl rfl hl.1 rfl (Nat.le_of_ble_eq_true rfl) dX7_move_77 ⟨Nat.le_of_ble_eq_true rfl, Nat.le_of_ble_eq_true rfl⟩ (fun _ H locs z19 hP hD hS => ?_)
  have hP : va_P G vwCl (wX cA xa ka ra na ia ua va ca za pa qa X K R P L P2 L2 Tn Ti Tu Tv C_17 Z q0 q1 q2 q3 q4 q5) H := hP
  have hD : va_D A (wX cA xa ka ra na ia ua va ca za pa qa X K R P L P2 L2 Tn Ti Tu Tv C_17 Z q0 q1 q2 q3 q4 q5) := hD
  refine lv_aload_n hx hb dX7_move_80 rfl (lv_at hl 0 rfl) ?_
  refine va_get (D := G) (ci := 7) (v := .ref (na 0)) (C := RX7) (T := TX7) (N := 12) hx hb hT ku_7 hown hK hP 0 rfl rfl 2 (by decide) (hT _ kw_2_0) (fun _ h9 => h9) rfl dX7_move_81 ?_
  refine lv_iload_n hx hb dX7_move_84 rfl (lv_at hl 1 rfl) ?_
  refine lv_iconst (v := 1) hx hb dX7_move_85 (by decide) ?_
  replace h := tx_ck h
  obtain ⟨g20, h⟩ := h
  have eg20 := of_decide_eq_true g20
  subst eg20
  replace h := tx_bd h
  obtain ⟨Tn_21, hc22, h⟩ := h
  refine tw_cv pX_na hP hD hS hA (va_runV (As := [.int x1, .int 1]) (rest := []) ⟨hx, hb, hml, hown, hT⟩ (c_X6_takeAway l G cA H.size na pa Tn P L x1 (1 : Int32)  Tn_21 hc22) (cwV 2 hT (tq_gV kw_36_18 kw_36_19 kw_36_20 kw_1_23 kw_36_21) rfl rfl rfl dkdV_yX6_takeAway_2 ⟨Nat.le_of_ble_eq_true rfl, Nat.le_of_ble_eq_true rfl⟩) ⟨(tw_pre pX_na hP hD hK hN).1, va_recv hK hP (ci := 6) (q0 := 53) rfl rfl, (tw_pre pX_na hP hD hK hN).2⟩ rfl rfl hl.1 rfl (lv_room (Nat.le_of_ble_eq_true rfl)) dX7_move_86 ⟨Nat.le_of_ble_eq_true rfl, Nat.le_of_ble_eq_true rfl⟩) (fun _ H locs z23 hP hD hS => ?_)
  replace hP := tw_P pX_na.symm hP
  replace hD := tw_D pX_na.symm hD
  have hP : va_P G vwCl (wX cA xa ka ra na ia ua va ca za pa qa X K R P L P2 L2 Tn_21 Ti Tu Tv C_17 Z (pa 0) q1 q2 q3 q4 q5) H := hP
  have hD : va_D A (wX cA xa ka ra na ia ua va ca za pa qa X K R P L P2 L2 Tn_21 Ti Tu Tv C_17 Z (pa 0) q1 q2 q3 q4 q5) := hD
  refine lv_aload_n hx hb dX7_move_89 rfl (lv_at hl 0 rfl) ?_
  refine va_get (D := G) (ci := 7) (v := .ref (na 0)) (C := RX7) (T := TX7) (N := 12) hx hb hT ku_7 hown hK hP 0 rfl rfl 2 (by decide) (hT _ kw_2_0) (fun _ h9 => h9) rfl dX7_move_90 ?_
  refine lv_iload_n hx hb dX7_move_93 rfl (lv_at hl 2 rfl) ?_
  refine lv_iload_n hx hb dX7_move_94 rfl (lv_at hl 1 rfl) ?_
  replace h := tx_bd h
  obtain ⟨Tn_24, hc25, h⟩ := h
  refine tw_cv pX_na hP hD hS hA (va_runV (As := [.int x2, .int x1]) (rest := []) ⟨hx, hb, hml, hown, hT⟩ (c_X6_putOn l G cA H.size na pa Tn_21 P L x2 x1  Tn_24 hc25) (cwV 2 hT (tq_gV kw_36_22 kw_36_23 kw_37_0 kw_1_23 kw_37_1) rfl rfl rfl dkdV_yX6_putOn_2 ⟨Nat.le_of_ble_eq_true rfl, Nat.le_of_ble_eq_true rfl⟩) ⟨(tw_pre pX_na hP hD hK hN).1, va_recv hK hP (ci := 6) (q0 := 53) rfl rfl, (tw_pre pX_na hP hD hK hN).2⟩ rfl rfl hl.1 rfl (lv_room (Nat.le_of_ble_eq_true rfl)) dX7_move_95 ⟨Nat.le_of_ble_eq_true rfl, Nat.le_of_ble_eq_true rfl⟩) (fun _ H locs z26 hP hD hS => ?_)
  replace hP := tw_P pX_na.symm hP
  replace hD := tw_D pX_na.symm hD
  have hP : va_P G vwCl (wX cA xa ka ra na ia ua va ca za pa qa X K R P L P2 L2 Tn_24 Ti Tu Tv C_17 Z (pa 0) q1 q2 q3 q4 q5) H := hP
  have hD : va_D A (wX cA xa ka ra na ia ua va ca za pa qa X K R P L P2 L2 Tn_24 Ti Tu Tv C_17 Z (pa 0) q1 q2 q3 q4 q5) := hD
  refine lv_iconst (v := 1) hx hb dX7_move_98 (by decide) ?_
  obtain ⟨rfl, rfl, rfl⟩ := tx_3 h
  exact W.zret (ty := .boolean) hx hb hr rfl (fun t ht hW => ⟨⟨_, (), rfl, rfl, by rw [ht]; exact hP, hD⟩, hS.F ht⟩) hS.2.2 dX7_move_99
set_option maxHeartbeats 4000000 in
set_option maxRecDepth 100000 in
theorem c_X7_move (l : Launch) (G : va_G) (cA : Nat → ClassId) (sz : Nat) (xa : Nat → Nat) (ka : Nat → Nat) (ra : Nat → Nat) (na : Nat → Nat) (ia : Nat → Nat) (ua : Nat → Nat) (va : Nat → Nat) (ca : Nat → Nat) (za : Nat → Nat) (pa : Nat → Nat) (qa : Nat → Nat) (X : Tr) (K : Tr) (R : Tr) (P : Tr) (L : Lo) (P2 : Tr) (L2 : Lo) (Tn : Tr) (Ti : Tr) (Tu : Tr) (Tv : Tr) (C : Tr) (Z : Tr) (q0 : Nat) (q1 : Nat) (q2 : Nat) (q3 : Nat) (q4 : Nat) (q5 : Nat) (x1 : Int32) (x2 : Int32)  (r0 : Int32) (Tn' : Tr) (C' : Tr) (h : f_X7_move pa qa P Tn C q0 q4 x1 x2 = some (r0, Tn', C')) : Met l yX7_move (.code yX7_move cX7_move 3 (some .boolean) :: T0) ({ frames := 3, cells := 0, slots := 0, locals := 84 } : Room) (tqP G cA [.ref (xa 0), .int x1, .int x2] (wX cA xa ka ra na ia ua va ca za pa qa X K R P L P2 L2 Tn Ti Tu Tv C Z q0 q1 q2 q3 q4 q5) sz) (tqQi G cA (fun (r : Int32) (_ : Unit) => r = r0) (fun (_ : Unit) => wX cA xa ka ra na ia ua va ca za pa qa X K R P L P2 L2 (Tn') Ti Tu Tv (C') Z q0 q1 q2 q3 q4 q5) (va_A (wX cA xa ka ra na ia ua va ca za pa qa X K R P L P2 L2 Tn Ti Tu Tv C Z q0 q1 q2 q3 q4 q5) sz)) 0 0 (va_A (wX cA xa ka ra na ia ua va ca za pa qa X K R P L P2 L2 Tn Ti Tu Tv C Z q0 q1 q2 q3 q4 q5) sz) := by
  refine Met.ofW (cc := cX7_move) (maxL := 3) (ret := (some .boolean)) (by decide) rfl ?_
  intro p e s m args below meth c s₁ B hml hv
  obtain ⟨rfl, hsz, hP, hK, hD0, hN⟩ := hv
  have hx := B.exec
  have hb := B.bytes
  have hr := B.returns
  have hts := atoms_spec (ws := .code yX7_move cX7_move 3 (some .boolean) :: T0) B.pre
  have hT : ∀ w ∈ T0, w.before _ s = true := fun w h => hts w (List.mem_cons_of_mem _ h)
  have hown : s.vm.findClass RX7 = some m.cls := findClass_of_methodNamed B.named
  have hlocks := B.notSynchronized
  subst hsz
  have hD := hD0.self (sz := s.heap.size)
  generalize hAe : va_A (wX cA xa ka ra na ia ua va ca za pa qa X K R P L P2 L2 Tn Ti Tu Tv C Z q0 q1 q2 q3 q4 q5) s.heap.size = A at hD ⊢
  have hA : ∀ q : Nat, s.heap.size ≤ q → A q := fun q h => by rw [← hAe]; exact Or.inr h
  have hS : va_S A s.heap s.heap [] := va_S.rf
  have hl := lv_entry ([.ref (xa 0), .int x1, .int x2]) (n := 3) (Nat.le_of_ble_eq_true rfl)
  rw [lg_entry_eq]
  generalize (lg_sl ([.ref (xa 0), .int x1, .int x2]) ++ List.replicate (3 - (lg_sl ([.ref (xa 0), .int x1, .int x2])).length) Slot.unset).toArray = ls at hl ⊢
  have hl : lv_has ls 3 [(0, .ref (xa 0)), (1, .int x1), (2, .int x2)] := hl
  have F : tF p s m ([.ref (xa 0), .int x1, .int x2] : List Value).toArray meth c G cA A RX7 cX7_move 3 (some .boolean) := ⟨hx, hb, hr, hml, hT, hown, hlocks, hK, hN, hA⟩
  obtain ⟨H, hH⟩ : ∃ z, z = s.heap := ⟨_, rfl⟩
  rw [← hH] at hP
  have hS : va_S A s.heap H [] := by rw [hH]; exact hS
  suffices hgo : G_X7_move p l e s m below meth c G cA A xa ka ra na ia ua va ca za pa qa X K R P L P2 L2 Ti Tu Tv Z q0 q1 q2 q3 q4 q5 x1 x2 r0 Tn' C' H [] (F0 m 0 ls []) by rw [hH] at hgo; exact hgo
  generalize ([] : List Loc) = locs at hS ⊢
  unfold f_X7_move at h
  refine lv_aload_n hx hb dX7_move_0 rfl (lv_at hl 0 rfl) ?_
  refine lv_iload_n hx hb dX7_move_1 rfl (lv_at hl 1 rfl) ?_
  replace h := tx_bd h
  obtain ⟨r1, hc2, h⟩ := h
  refine tz_i (As := [.int x1]) (rest := []) ⟨hx, hb, hml, hown, hT⟩ hP hD hS hA hK hN (c_X7_isPiece l G cA H.size xa ka ra na ia ua va ca za pa qa X K R P L P2 L2 Tn Ti Tu Tv C Z q0 q1 q2 q3 q4 q5 x1  r1 hc2) (tq_gV kw_30_5 kw_30_6 kw_30_7 kw_1_2 kw_30_8) rfl rfl dkdV_yX7_isPiece_1 (Nat.le_of_ble_eq_true rfl) (Nat.le_of_ble_eq_true rfl) (ci := 7) (q0 := 0) rfl rfl rfl hl.1 rfl (Nat.le_of_ble_eq_true rfl) dX7_move_2 ⟨Nat.le_of_ble_eq_true rfl, Nat.le_of_ble_eq_true rfl⟩ (fun _ _ H locs z3 hP hD hS => ?_)
  have z3 := z3.symm
  subst z3
  have hP : va_P G vwCl (wX cA xa ka ra na ia ua va ca za pa qa X K R P L P2 L2 Tn Ti Tu Tv C Z q0 q1 q2 q3 q4 q5) H := hP
  have hD : va_D A (wX cA xa ka ra na ia ua va ca za pa qa X K R P L P2 L2 Tn Ti Tu Tv C Z q0 q1 q2 q3 q4 q5) := hD
  refine lv_if_eq (tgt := 40) hx hb dX7_move_5 (by decide) (fun c4 => ?_) (fun c4 => ?_)
  · replace h := tx_pos c4 h
    refine lv_iconst (v := 0) hx hb dX7_move_40 (by decide) ?_
    obtain ⟨rfl, rfl, rfl⟩ := tx_3 h
    exact W.zret (ty := .boolean) hx hb hr rfl (fun t ht hW => ⟨⟨_, (), rfl, rfl, by rw [ht]; exact hP, hD⟩, hS.F ht⟩) hS.2.2 dX7_move_41
  · replace h := tx_neg c4 h
    refine lv_aload_n hx hb dX7_move_8 rfl (lv_at hl 0 rfl) ?_
    refine lv_iload_n hx hb dX7_move_9 rfl (lv_at hl 2 rfl) ?_
    replace h := tx_bd h
    obtain ⟨r5, hc6, h⟩ := h
    refine tz_i (As := [.int x2]) (rest := []) ⟨hx, hb, hml, hown, hT⟩ hP hD hS hA hK hN (c_X7_isPlace l G cA H.size xa ka ra na ia ua va ca za pa qa X K R P L P2 L2 Tn Ti Tu Tv C Z q0 q1 q2 q3 q4 q5 x2  r5 hc6) (tq_gV kw_31_22 kw_31_23 kw_32_0 kw_1_2 kw_32_1) rfl rfl dkdV_yX7_isPlace_1 (Nat.le_of_ble_eq_true rfl) (Nat.le_of_ble_eq_true rfl) (ci := 7) (q0 := 0) rfl rfl rfl hl.1 rfl (Nat.le_of_ble_eq_true rfl) dX7_move_10 ⟨Nat.le_of_ble_eq_true rfl, Nat.le_of_ble_eq_true rfl⟩ (fun _ _ H locs z7 hP hD hS => ?_)
    have z7 := z7.symm
    subst z7
    have hP : va_P G vwCl (wX cA xa ka ra na ia ua va ca za pa qa X K R P L P2 L2 Tn Ti Tu Tv C Z q0 q1 q2 q3 q4 q5) H := hP
    have hD : va_D A (wX cA xa ka ra na ia ua va ca za pa qa X K R P L P2 L2 Tn Ti Tu Tv C Z q0 q1 q2 q3 q4 q5) := hD
    refine lv_if_eq (tgt := 40) hx hb dX7_move_13 (by decide) (fun c8 => ?_) (fun c8 => ?_)
    · replace h := tx_pos c8 h
      refine lv_iconst (v := 0) hx hb dX7_move_40 (by decide) ?_
      obtain ⟨rfl, rfl, rfl⟩ := tx_3 h
      exact W.zret (ty := .boolean) hx hb hr rfl (fun t ht hW => ⟨⟨_, (), rfl, rfl, by rw [ht]; exact hP, hD⟩, hS.F ht⟩) hS.2.2 dX7_move_41
    · replace h := tx_neg c8 h
      refine lv_aload_n hx hb dX7_move_16 rfl (lv_at hl 0 rfl) ?_
      refine va_get (D := G) (ci := 7) (v := .ref (na 0)) (C := RX7) (T := TX7) (N := 12) hx hb hT ku_7 hown hK hP 0 rfl rfl 2 (by decide) (hT _ kw_2_0) (fun _ h9 => h9) rfl dX7_move_17 ?_
      refine va_get (D := G) (ci := 6) (v := .ref (na 15)) (C := RX6) (T := TX6) (N := 20) hx hb hT ku_6 hown hK hP 53 rfl rfl 14 (by decide) (hT _ kw_30_4) (fun _ h9 => h9) rfl dX7_move_20 ?_
      refine lv_iload_n hx hb dX7_move_23 rfl (lv_at hl 1 rfl) ?_
      replace h := tx_ck h
      obtain ⟨g9, h⟩ := h
      refine va_iald (i := x1) hx hb hK hP 60 0 rfl rfl (tx_in g9) dX7_move_24 ?_
      refine lv_if_lt (tgt := 40) hx hb dX7_move_25 (by decide) (fun c10 => ?_) (fun c10 => ?_)
      · replace h := tx_pos c10 h
        refine lv_iconst (v := 0) hx hb dX7_move_40 (by decide) ?_
        obtain ⟨rfl, rfl, rfl⟩ := tx_3 h
        exact W.zret (ty := .boolean) hx hb hr rfl (fun t ht hW => ⟨⟨_, (), rfl, rfl, by rw [ht]; exact hP, hD⟩, hS.F ht⟩) hS.2.2 dX7_move_41
      · replace h := tx_neg c10 h
        refine lv_aload_n hx hb dX7_move_28 rfl (lv_at hl 0 rfl) ?_
        refine va_get (D := G) (ci := 7) (v := .ref (na 0)) (C := RX7) (T := TX7) (N := 12) hx hb hT ku_7 hown hK hP 0 rfl rfl 2 (by decide) (hT _ kw_2_0) (fun _ h9 => h9) rfl dX7_move_29 ?_
        refine lv_iload_n hx hb dX7_move_32 rfl (lv_at hl 2 rfl) ?_
        replace h := tx_ck h
        obtain ⟨g11, h⟩ := h
        have eg11 := of_decide_eq_true g11
        subst eg11
        replace h := tx_bd h
        obtain ⟨r12, hc13, h⟩ := h
        refine tw_ci pX_na hP hD hS hA (va_runV (As := [.int x2]) (rest := []) ⟨hx, hb, hml, hown, hT⟩ (c_X6_top l G cA H.size na pa Tn P L x2  r12 hc13) (cwV 1 hT (tq_gV kw_32_3 kw_32_4 kw_32_5 kw_1_23 kw_32_6) rfl rfl rfl dkdV_yX6_top_1 ⟨Nat.le_of_ble_eq_true rfl, Nat.le_of_ble_eq_true rfl⟩) ⟨(tw_pre pX_na hP hD hK hN).1, va_recv hK hP (ci := 6) (q0 := 53) rfl rfl, (tw_pre pX_na hP hD hK hN).2⟩ rfl rfl hl.1 rfl (lv_room (Nat.le_of_ble_eq_true rfl)) dX7_move_33 ⟨Nat.le_of_ble_eq_true rfl, Nat.le_of_ble_eq_true rfl⟩) (fun _ _ H locs z14 hP hD hS => ?_)
        have z14 := z14.symm
        subst z14
        replace hP := tw_P pX_na.symm hP
        replace hD := tw_D pX_na.symm hD
        have hP : va_P G vwCl (wX cA xa ka ra na ia ua va ca za pa qa X K R P L P2 L2 Tn Ti Tu Tv C Z (pa 0) q1 q2 q3 q4 q5) H := hP
        have hD : va_D A (wX cA xa ka ra na ia ua va ca za pa qa X K R P L P2 L2 Tn Ti Tu Tv C Z (pa 0) q1 q2 q3 q4 q5) := hD
        refine lv_iload_n hx hb dX7_move_36 rfl (lv_at hl 1 rfl) ?_
        refine lv_icmp_ne (tgt := 42) hx hb dX7_move_37 (by decide) (fun c15 => ?_) (fun c15 => ?_)
        · replace h := tx_neg c15 h
          refine lv_aload_n hx hb dX7_move_42 rfl (lv_at hl 0 rfl) ?_
          refine va_get (D := G) (ci := 7) (v := .ref (na 0)) (C := RX7) (T := TX7) (N := 12) hx hb hT ku_7 hown hK hP 0 rfl rfl 2 (by decide) (hT _ kw_2_0) (fun _ h9 => h9) rfl dX7_move_43 ?_
          refine va_get (D := G) (ci := 6) (v := .ref (na 15)) (C := RX6) (T := TX6) (N := 20) hx hb hT ku_6 hown hK hP 53 rfl rfl 14 (by decide) (hT _ kw_30_4) (fun _ h9 => h9) rfl dX7_move_46 ?_
          refine lv_iload_n hx hb dX7_move_49 rfl (lv_at hl 1 rfl) ?_
          refine va_iald (i := x1) hx hb hK hP 60 0 rfl rfl (tx_in g9) dX7_move_50 ?_
          refine lv_iload_n hx hb dX7_move_51 rfl (lv_at hl 2 rfl) ?_
          refine lv_icmp_eq (tgt := 69) hx hb dX7_move_52 (by decide) (fun c16 => ?_) (fun c16 => ?_)
          · replace h := tx_pos c16 h
            exact w_X7_move_J69 F x1 x2 Tn C H locs ls h hP hD hS (lv_sub hl [0, 1, 2] rfl)
          · replace h := tx_neg c16 h
            refine lv_aload_n hx hb dX7_move_55 rfl (lv_at hl 0 rfl) ?_
            refine va_get (D := G) (ci := 7) (v := .ref (na 0)) (C := RX7) (T := TX7) (N := 12) hx hb hT ku_7 hown hK hP 0 rfl rfl 2 (by decide) (hT _ kw_2_0) (fun _ h9 => h9) rfl dX7_move_56 ?_
            refine lv_iload_n hx hb dX7_move_59 rfl (lv_at hl 2 rfl) ?_
            refine lv_iload_n hx hb dX7_move_60 rfl (lv_at hl 1 rfl) ?_
            replace h := tx_bd h
            obtain ⟨r27, hc28, h⟩ := h
            refine tw_ci pX_na hP hD hS hA (va_runV (As := [.int x2, .int x1]) (rest := []) ⟨hx, hb, hml, hown, hT⟩ (c_X6_hasRoom l G cA H.size na pa Tn P L x2 x1  r27 hc28) (cwV 2 hT (tq_gV kw_35_20 kw_35_21 kw_35_22 kw_1_23 kw_35_23) rfl rfl rfl dkdV_yX6_hasRoom_2 ⟨Nat.le_of_ble_eq_true rfl, Nat.le_of_ble_eq_true rfl⟩) ⟨(tw_pre pX_na hP hD hK hN).1, va_recv hK hP (ci := 6) (q0 := 53) rfl rfl, (tw_pre pX_na hP hD hK hN).2⟩ rfl rfl hl.1 rfl (lv_room (Nat.le_of_ble_eq_true rfl)) dX7_move_61 ⟨Nat.le_of_ble_eq_true rfl, Nat.le_of_ble_eq_true rfl⟩) (fun _ _ H locs z29 hP hD hS => ?_)
            have z29 := z29.symm
            subst z29
            replace hP := tw_P pX_na.symm hP
            replace hD := tw_D pX_na.symm hD
            have hP : va_P G vwCl (wX cA xa ka ra na ia ua va ca za pa qa X K R P L P2 L2 Tn Ti Tu Tv C Z (pa 0) q1 q2 q3 q4 q5) H := hP
            have hD : va_D A (wX cA xa ka ra na ia ua va ca za pa qa X K R P L P2 L2 Tn Ti Tu Tv C Z (pa 0) q1 q2 q3 q4 q5) := hD
            refine lv_if_ne (tgt := 69) hx hb dX7_move_64 (by decide) (fun c30 => ?_) (fun c30 => ?_)
            · replace h := tx_neg c30 h
              exact w_X7_move_J69 F x1 x2 Tn C H locs ls h hP hD hS (lv_sub hl [0, 1, 2] rfl)
            · replace h := tx_pos c30 h
              refine lv_iconst (v := 0) hx hb dX7_move_67 (by decide) ?_
              obtain ⟨rfl, rfl, rfl⟩ := tx_3 h
              exact W.zret (ty := .boolean) hx hb hr rfl (fun t ht hW => ⟨⟨_, (), rfl, rfl, by rw [ht]; exact hP, hD⟩, hS.F ht⟩) hS.2.2 dX7_move_68
        · replace h := tx_pos c15 h
          refine lv_iconst (v := 0) hx hb dX7_move_40 (by decide) ?_
          obtain ⟨rfl, rfl, rfl⟩ := tx_3 h
          exact W.zret (ty := .boolean) hx hb hr rfl (fun t ht hW => ⟨⟨_, (), rfl, rfl, by rw [ht]; exact hP, hD⟩, hS.F ht⟩) hS.2.2 dX7_move_41
abbrev G_X2_personNamed_x (p : Program) (l : Launch) (e : Env) (s : State) (m : MethodId) (below : List Frame) (meth : Method) (c : Code) (G : va_G) (cA : Nat → ClassId) (A : Nat → Prop) (xa : Nat → Nat) (ka : Nat → Nat) (ra : Nat → Nat) (na : Nat → Nat) (ia : Nat → Nat) (ua : Nat → Nat) (va : Nat → Nat) (ca : Nat → Nat) (za : Nat → Nat) (pa : Nat → Nat) (qa : Nat → Nat) (X : Tr) (K : Tr) (R : Tr) (P : Tr) (L : Lo) (P2 : Tr) (L2 : Lo) (Tn : Tr) (Ti : Tr) (Tu : Tr) (Tv : Tr) (C : Tr) (Z : Tr) (q0 : Nat) (q1 : Nat) (q2 : Nat) (q3 : Nat) (q4 : Nat) (q5 : Nat) (x1 : Int32) (r0 : Int32) (H : Heap) (locs : List Loc) (g : JFrame) : Prop := W p l e (headSpec (.code yX2_personNamed cX2_personNamed 3 (some .int) :: T0) ({ frames := 0, cells := 0, slots := 0, locals := 0 } : Room)).room s m ([.ref (pa 0), .int x1] : List Value).toArray below meth c H locs 0 0 (MQ below (tqQi G cA (fun (r : Int32) (_ : Unit) => r = r0) (fun (_ : Unit) => wX cA xa ka ra na ia ua va ca za pa qa X K R P L P2 L2 Tn Ti Tu Tv C Z q0 q1 q2 q3 q4 q5) A) ([.ref (pa 0), .int x1] : List Value).toArray s 0 0 A) g
set_option maxHeartbeats 4000000 in
set_option maxRecDepth 100000 in
theorem w_X2_personNamed_x_L2 {p : Program} {l : Launch} {e : Env} {s : State} {m : MethodId} {below : List Frame} {meth : Method} {c : Code} {G : va_G} {cA : Nat → ClassId} {A : Nat → Prop} {xa : Nat → Nat} {ka : Nat → Nat} {ra : Nat → Nat} {na : Nat → Nat} {ia : Nat → Nat} {ua : Nat → Nat} {va : Nat → Nat} {ca : Nat → Nat} {za : Nat → Nat} {pa : Nat → Nat} {qa : Nat → Nat} {X : Tr} {K : Tr} {R : Tr} {P : Tr} {L : Lo} {P2 : Tr} {L2 : Lo} {Tn : Tr} {Ti : Tr} {Tu : Tr} {Tv : Tr} {C : Tr} {Z : Tr} {q0 : Nat} {q1 : Nat} {q2 : Nat} {q3 : Nat} {q4 : Nat} {q5 : Nat} {x1₀ : Int32} {r0 : Int32} {x1 : Int32} (F : tF p s m ([.ref (pa 0), .int x1₀] : List Value).toArray meth c G cA A RX2 cX2_personNamed 3 (some .int))    (N : Nat) : ∀ (x2 : Int32) (H : Heap) (locs : List Loc) (ls : Array Slot), lpF (fun _ => none) (fB_X2_personNamed_x_L2 pa qa P x1) N x2 = some r0 → va_P G vwCl (wX cA xa ka ra na ia ua va ca za pa qa X K R P L P2 L2 Tn Ti Tu Tv C Z q0 q1 q2 q3 q4 q5) H → va_D A (wX cA xa ka ra na ia ua va ca za pa qa X K R P L P2 L2 Tn Ti Tu Tv C Z q0 q1 q2 q3 q4 q5) → va_S A s.heap H locs → lv_has ls 3 [(0, .ref (pa 0)), (1, .int x1), (2, .int x2)] → G_X2_personNamed_x p l e s m below meth c G cA A xa ka ra na ia ua va ca za pa qa X K R P L P2 L2 Tn Ti Tu Tv C Z q0 q1 q2 q3 q4 q5 x1₀ r0 H locs (F0 m 2 ls []) := by
  obtain ⟨hx, hb, hr, hml, hT, hown, hlocks, hK, hN, hA⟩ := id F
  induction N with
  | zero =>
    intro x2 H locs ls h
    replace h : (none : Option (Int32)) = some r0 := h
    cases h
  | succ N hk2 =>
    intro x2 H locs ls h hP hD hS hl
    replace h : fB_X2_personNamed_x_L2 pa qa P x1 (lpF (fun _ => none) (fB_X2_personNamed_x_L2 pa qa P x1) N) x2 = some r0 := h
    generalize hk2e : lpF (fun _ => none) (fB_X2_personNamed_x_L2 pa qa P x1) N = k2 at h hk2
    unfold fB_X2_personNamed_x_L2 at h
    refine lv_iload_n hx hb dX2_personNamed_2 rfl (lv_at hl 2 rfl) ?_
    refine lv_aload_n hx hb dX2_personNamed_3 rfl (lv_at hl 0 rfl) ?_
    refine va_get (D := G) (ci := 2) (v := .int (P 0 1)) (C := RX2) (T := TX2) (N := 19) hx hb hT ku_2 hown hK hP 9 rfl rfl 1 (by decide) (hT _ kw_6_19) (fun _ h9 => h9) rfl dX2_personNamed_4 ?_
    refine lv_icmp_ge (tgt := 28) hx hb dX2_personNamed_7 (by decide) (fun c1 => ?_) (fun c1 => ?_)
    · replace h := tx_pos c1 h
      refine lv_iconst (v := (-1)) hx hb dX2_personNamed_28 (by decide) ?_
      obtain rfl := tx_1 h
      exact W.iret hx hb hr (fun t ht hW => ⟨⟨_, (), rfl, rfl, by rw [ht]; exact hP, hD⟩, hS.F ht⟩) hS.2.2 dX2_personNamed_29
    · replace h := tx_neg c1 h
      refine lv_aload_n hx hb dX2_personNamed_10 rfl (lv_at hl 0 rfl) ?_
      refine va_get (D := G) (ci := 2) (v := .ref (pa 10)) (C := RX2) (T := TX2) (N := 19) hx hb hT ku_2 hown hK hP 9 rfl rfl 9 (by decide) (hT _ kw_5_20) (fun _ h9 => h9) rfl dX2_personNamed_11 ?_
      refine lv_iload_n hx hb dX2_personNamed_14 rfl (lv_at hl 2 rfl) ?_
      replace h := tx_ck h
      obtain ⟨g2, h⟩ := h
      refine va_iald (i := x2) hx hb hK hP 12 0 rfl rfl (tx_in g2) dX2_personNamed_15 ?_
      refine lv_iload_n hx hb dX2_personNamed_16 rfl (lv_at hl 1 rfl) ?_
      refine lv_icmp_ne (tgt := 22) hx hb dX2_personNamed_17 (by decide) (fun c3 => ?_) (fun c3 => ?_)
      · replace h := tx_neg c3 h
        replace h := tx_lt h
        obtain ⟨y4, ey4, h⟩ := h
        refine lv_iinc (v := y4) (lv' := [(2, .int y4), (0, .ref (pa 0)), (1, .int x1)]) hx hb dX2_personNamed_22 hl (k := 2) rfl ey4 (by decide) rfl (fun ls hl => ?_)
        refine lv_goto (tgt := 2) hx hb dX2_personNamed_25 (by decide) ?_
        exact hk2 y4 H locs ls h hP hD hS (lv_sub hl [1, 2, 0] rfl)
      · replace h := tx_pos c3 h
        refine lv_iload_n hx hb dX2_personNamed_20 rfl (lv_at hl 2 rfl) ?_
        obtain rfl := tx_1 h
        exact W.iret hx hb hr (fun t ht hW => ⟨⟨_, (), rfl, rfl, by rw [ht]; exact hP, hD⟩, hS.F ht⟩) hS.2.2 dX2_personNamed_21
set_option maxHeartbeats 4000000 in
set_option maxRecDepth 100000 in
theorem c_X2_personNamed_x (l : Launch) (G : va_G) (cA : Nat → ClassId) (sz : Nat) (xa : Nat → Nat) (ka : Nat → Nat) (ra : Nat → Nat) (na : Nat → Nat) (ia : Nat → Nat) (ua : Nat → Nat) (va : Nat → Nat) (ca : Nat → Nat) (za : Nat → Nat) (pa : Nat → Nat) (qa : Nat → Nat) (X : Tr) (K : Tr) (R : Tr) (P : Tr) (L : Lo) (P2 : Tr) (L2 : Lo) (Tn : Tr) (Ti : Tr) (Tu : Tr) (Tv : Tr) (C : Tr) (Z : Tr) (q0 : Nat) (q1 : Nat) (q2 : Nat) (q3 : Nat) (q4 : Nat) (q5 : Nat) (x1 : Int32)  (r0 : Int32) (h : f_X2_personNamed_x pa qa P x1 = some r0) : Met l yX2_personNamed (.code yX2_personNamed cX2_personNamed 3 (some .int) :: T0) ({ frames := 0, cells := 0, slots := 0, locals := 0 } : Room) (tqP G cA [.ref (pa 0), .int x1] (wX cA xa ka ra na ia ua va ca za pa qa X K R P L P2 L2 Tn Ti Tu Tv C Z q0 q1 q2 q3 q4 q5) sz) (tqQi G cA (fun (r : Int32) (_ : Unit) => r = r0) (fun (_ : Unit) => wX cA xa ka ra na ia ua va ca za pa qa X K R P L P2 L2 Tn Ti Tu Tv C Z q0 q1 q2 q3 q4 q5) (va_A (wX cA xa ka ra na ia ua va ca za pa qa X K R P L P2 L2 Tn Ti Tu Tv C Z q0 q1 q2 q3 q4 q5) sz)) 0 0 (va_A (wX cA xa ka ra na ia ua va ca za pa qa X K R P L P2 L2 Tn Ti Tu Tv C Z q0 q1 q2 q3 q4 q5) sz) := by
  refine Met.ofW (cc := cX2_personNamed) (maxL := 3) (ret := (some .int)) (by decide) rfl ?_
  intro p e s m args below meth c s₁ B hml hv
  obtain ⟨rfl, hsz, hP, hK, hD0, hN⟩ := hv
  have hx := B.exec
  have hb := B.bytes
  have hr := B.returns
  have hts := atoms_spec (ws := .code yX2_personNamed cX2_personNamed 3 (some .int) :: T0) B.pre
  have hT : ∀ w ∈ T0, w.before _ s = true := fun w h => hts w (List.mem_cons_of_mem _ h)
  have hown : s.vm.findClass RX2 = some m.cls := findClass_of_methodNamed B.named
  have hlocks := B.notSynchronized
  subst hsz
  have hD := hD0.self (sz := s.heap.size)
  generalize hAe : va_A (wX cA xa ka ra na ia ua va ca za pa qa X K R P L P2 L2 Tn Ti Tu Tv C Z q0 q1 q2 q3 q4 q5) s.heap.size = A at hD ⊢
  have hA : ∀ q : Nat, s.heap.size ≤ q → A q := fun q h => by rw [← hAe]; exact Or.inr h
  have hS : va_S A s.heap s.heap [] := va_S.rf
  have hl := lv_entry ([.ref (pa 0), .int x1]) (n := 3) (Nat.le_of_ble_eq_true rfl)
  rw [lg_entry_eq]
  generalize (lg_sl ([.ref (pa 0), .int x1]) ++ List.replicate (3 - (lg_sl ([.ref (pa 0), .int x1])).length) Slot.unset).toArray = ls at hl ⊢
  have hl : lv_has ls 3 [(0, .ref (pa 0)), (1, .int x1)] := hl
  have F : tF p s m ([.ref (pa 0), .int x1] : List Value).toArray meth c G cA A RX2 cX2_personNamed 3 (some .int) := ⟨hx, hb, hr, hml, hT, hown, hlocks, hK, hN, hA⟩
  obtain ⟨H, hH⟩ : ∃ z, z = s.heap := ⟨_, rfl⟩
  rw [← hH] at hP
  have hS : va_S A s.heap H [] := by rw [hH]; exact hS
  suffices hgo : G_X2_personNamed_x p l e s m below meth c G cA A xa ka ra na ia ua va ca za pa qa X K R P L P2 L2 Tn Ti Tu Tv C Z q0 q1 q2 q3 q4 q5 x1 r0 H [] (F0 m 0 ls []) by rw [hH] at hgo; exact hgo
  generalize ([] : List Loc) = locs at hS ⊢
  unfold f_X2_personNamed_x at h
  refine lv_iconst (v := 0) hx hb dX2_personNamed_0 (by decide) ?_
  refine lv_istore_n (lv' := [(2, .int 0), (0, .ref (pa 0)), (1, .int x1)]) hx hb dX2_personNamed_1 rfl hl (by decide) rfl (fun ls hl => ?_)
  exact w_X2_personNamed_x_L2 F 2000 0 H locs ls h hP hD hS (lv_sub hl [1, 2, 0] rfl)
abbrev G_X7_named (p : Program) (l : Launch) (e : Env) (s : State) (m : MethodId) (below : List Frame) (meth : Method) (c : Code) (G : va_G) (cA : Nat → ClassId) (A : Nat → Prop) (xa : Nat → Nat) (ka : Nat → Nat) (ra : Nat → Nat) (na : Nat → Nat) (ia : Nat → Nat) (ua : Nat → Nat) (va : Nat → Nat) (ca : Nat → Nat) (za : Nat → Nat) (pa : Nat → Nat) (qa : Nat → Nat) (X : Tr) (K : Tr) (R : Tr) (P : Tr) (L : Lo) (P2 : Tr) (L2 : Lo) (Tn : Tr) (Ti : Tr) (Tu : Tr) (Tv : Tr) (C : Tr) (Z : Tr) (q0 : Nat) (q1 : Nat) (q2 : Nat) (q3 : Nat) (q4 : Nat) (q5 : Nat) (x1 : Int32) (r0 : Int32) (H : Heap) (locs : List Loc) (g : JFrame) : Prop := W p l e (headSpec (.code yX7_named cX7_named 2 (some .int) :: T0) ({ frames := 1, cells := 0, slots := 0, locals := 22 } : Room)).room s m ([.ref (xa 0), .int x1] : List Value).toArray below meth c H locs 0 0 (MQ below (tqQi G cA (fun (r : Int32) (_ : Unit) => r = r0) (fun (_ : Unit) => wX cA xa ka ra na ia ua va ca za pa qa X K R P L P2 L2 Tn Ti Tu Tv C Z q0 q1 q2 q3 q4 q5) A) ([.ref (xa 0), .int x1] : List Value).toArray s 0 0 A) g
set_option maxHeartbeats 4000000 in
set_option maxRecDepth 100000 in
theorem c_X7_named (l : Launch) (G : va_G) (cA : Nat → ClassId) (sz : Nat) (xa : Nat → Nat) (ka : Nat → Nat) (ra : Nat → Nat) (na : Nat → Nat) (ia : Nat → Nat) (ua : Nat → Nat) (va : Nat → Nat) (ca : Nat → Nat) (za : Nat → Nat) (pa : Nat → Nat) (qa : Nat → Nat) (X : Tr) (K : Tr) (R : Tr) (P : Tr) (L : Lo) (P2 : Tr) (L2 : Lo) (Tn : Tr) (Ti : Tr) (Tu : Tr) (Tv : Tr) (C : Tr) (Z : Tr) (q0 : Nat) (q1 : Nat) (q2 : Nat) (q3 : Nat) (q4 : Nat) (q5 : Nat) (x1 : Int32)  (r0 : Int32) (h : f_X7_named pa qa P q4 x1 = some r0) : Met l yX7_named (.code yX7_named cX7_named 2 (some .int) :: T0) ({ frames := 1, cells := 0, slots := 0, locals := 22 } : Room) (tqP G cA [.ref (xa 0), .int x1] (wX cA xa ka ra na ia ua va ca za pa qa X K R P L P2 L2 Tn Ti Tu Tv C Z q0 q1 q2 q3 q4 q5) sz) (tqQi G cA (fun (r : Int32) (_ : Unit) => r = r0) (fun (_ : Unit) => wX cA xa ka ra na ia ua va ca za pa qa X K R P L P2 L2 Tn Ti Tu Tv C Z q0 q1 q2 q3 q4 q5) (va_A (wX cA xa ka ra na ia ua va ca za pa qa X K R P L P2 L2 Tn Ti Tu Tv C Z q0 q1 q2 q3 q4 q5) sz)) 0 0 (va_A (wX cA xa ka ra na ia ua va ca za pa qa X K R P L P2 L2 Tn Ti Tu Tv C Z q0 q1 q2 q3 q4 q5) sz) := by
  refine Met.ofW (cc := cX7_named) (maxL := 2) (ret := (some .int)) (by decide) rfl ?_
  intro p e s m args below meth c s₁ B hml hv
  obtain ⟨rfl, hsz, hP, hK, hD0, hN⟩ := hv
  have hx := B.exec
  have hb := B.bytes
  have hr := B.returns
  have hts := atoms_spec (ws := .code yX7_named cX7_named 2 (some .int) :: T0) B.pre
  have hT : ∀ w ∈ T0, w.before _ s = true := fun w h => hts w (List.mem_cons_of_mem _ h)
  have hown : s.vm.findClass RX7 = some m.cls := findClass_of_methodNamed B.named
  have hlocks := B.notSynchronized
  subst hsz
  have hD := hD0.self (sz := s.heap.size)
  generalize hAe : va_A (wX cA xa ka ra na ia ua va ca za pa qa X K R P L P2 L2 Tn Ti Tu Tv C Z q0 q1 q2 q3 q4 q5) s.heap.size = A at hD ⊢
  have hA : ∀ q : Nat, s.heap.size ≤ q → A q := fun q h => by rw [← hAe]; exact Or.inr h
  have hS : va_S A s.heap s.heap [] := va_S.rf
  have hl := lv_entry ([.ref (xa 0), .int x1]) (n := 2) (Nat.le_of_ble_eq_true rfl)
  rw [lg_entry_eq]
  generalize (lg_sl ([.ref (xa 0), .int x1]) ++ List.replicate (2 - (lg_sl ([.ref (xa 0), .int x1])).length) Slot.unset).toArray = ls at hl ⊢
  have hl : lv_has ls 2 [(0, .ref (xa 0)), (1, .int x1)] := hl
  have F : tF p s m ([.ref (xa 0), .int x1] : List Value).toArray meth c G cA A RX7 cX7_named 2 (some .int) := ⟨hx, hb, hr, hml, hT, hown, hlocks, hK, hN, hA⟩
  obtain ⟨H, hH⟩ : ∃ z, z = s.heap := ⟨_, rfl⟩
  rw [← hH] at hP
  have hS : va_S A s.heap H [] := by rw [hH]; exact hS
  suffices hgo : G_X7_named p l e s m below meth c G cA A xa ka ra na ia ua va ca za pa qa X K R P L P2 L2 Tn Ti Tu Tv C Z q0 q1 q2 q3 q4 q5 x1 r0 H [] (F0 m 0 ls []) by rw [hH] at hgo; exact hgo
  generalize ([] : List Loc) = locs at hS ⊢
  unfold f_X7_named at h
  refine lv_aload_n hx hb dX7_named_0 rfl (lv_at hl 0 rfl) ?_
  refine va_get (D := G) (ci := 7) (v := .ref q4) (C := RX7) (T := TX7) (N := 12) hx hb hT ku_7 hown hK hP 0 rfl rfl 1 (by decide) (hT _ kw_1_20) (fun _ h9 => h9) rfl dX7_named_1 ?_
  refine lv_iload_n hx hb dX7_named_4 rfl (lv_at hl 1 rfl) ?_
  replace h := tx_ck h
  obtain ⟨g1, h⟩ := h
  have eg1 := of_decide_eq_true g1
  subst eg1
  replace h := tx_bd h
  obtain ⟨r2, hc3, h⟩ := h
  refine tz_i (As := [.int x1]) (rest := []) ⟨hx, hb, hml, hown, hT⟩ hP hD hS hA hK hN (c_X2_personNamed_x l G cA H.size xa ka ra na ia ua va ca za pa qa X K R P L P2 L2 Tn Ti Tu Tv C Z q0 q1 q2 q3 (pa 0) q5 x1  r2 hc3) (tq_gV kw_28_3 kw_17_19 kw_17_20 kw_1_19 kw_17_21) rfl rfl dkdV_yX2_personNamed_1 (Nat.le_of_ble_eq_true rfl) (Nat.le_of_ble_eq_true rfl) (ci := 2) (q0 := 9) rfl rfl rfl hl.1 rfl (Nat.le_of_ble_eq_true rfl) dX7_named_5 ⟨Nat.le_of_ble_eq_true rfl, Nat.le_of_ble_eq_true rfl⟩ (fun _ _ H locs z4 hP hD hS => ?_)
  have z4 := z4.symm
  subst z4
  have hP : va_P G vwCl (wX cA xa ka ra na ia ua va ca za pa qa X K R P L P2 L2 Tn Ti Tu Tv C Z q0 q1 q2 q3 (pa 0) q5) H := hP
  have hD : va_D A (wX cA xa ka ra na ia ua va ca za pa qa X K R P L P2 L2 Tn Ti Tu Tv C Z q0 q1 q2 q3 (pa 0) q5) := hD
  obtain rfl := tx_1 h
  exact W.iret hx hb hr (fun t ht hW => ⟨⟨_, (), rfl, rfl, by rw [ht]; exact hP, hD⟩, hS.F ht⟩) hS.2.2 dX7_named_8
abbrev G_X7_piece (p : Program) (l : Launch) (e : Env) (s : State) (m : MethodId) (below : List Frame) (meth : Method) (c : Code) (G : va_G) (cA : Nat → ClassId) (A : Nat → Prop) (xa : Nat → Nat) (ka : Nat → Nat) (ra : Nat → Nat) (na : Nat → Nat) (ia : Nat → Nat) (ua : Nat → Nat) (va : Nat → Nat) (ca : Nat → Nat) (za : Nat → Nat) (pa : Nat → Nat) (qa : Nat → Nat) (X : Tr) (K : Tr) (R : Tr) (P : Tr) (L : Lo) (P2 : Tr) (L2 : Lo) (Tn : Tr) (Ti : Tr) (Tu : Tr) (Tv : Tr) (C : Tr) (Z : Tr) (q0 : Nat) (q1 : Nat) (q2 : Nat) (q3 : Nat) (q4 : Nat) (q5 : Nat) (x1 : Int32) (x2 : Int32) (r0 : Int32) (H : Heap) (locs : List Loc) (g : JFrame) : Prop := W p l e (headSpec (.code yX7_piece cX7_piece 3 (some .int) :: T0) ({ frames := 2, cells := 0, slots := 0, locals := 45 } : Room)).room s m ([.ref (xa 0), .int x1, .int x2] : List Value).toArray below meth c H locs 0 0 (MQ below (tqQi G cA (fun (r : Int32) (_ : Unit) => r = r0) (fun (_ : Unit) => wX cA xa ka ra na ia ua va ca za pa qa X K R P L P2 L2 Tn Ti Tu Tv C Z q0 q1 q2 q3 q4 q5) A) ([.ref (xa 0), .int x1, .int x2] : List Value).toArray s 0 0 A) g
set_option maxHeartbeats 4000000 in
set_option maxRecDepth 100000 in
theorem c_X7_piece (l : Launch) (G : va_G) (cA : Nat → ClassId) (sz : Nat) (xa : Nat → Nat) (ka : Nat → Nat) (ra : Nat → Nat) (na : Nat → Nat) (ia : Nat → Nat) (ua : Nat → Nat) (va : Nat → Nat) (ca : Nat → Nat) (za : Nat → Nat) (pa : Nat → Nat) (qa : Nat → Nat) (X : Tr) (K : Tr) (R : Tr) (P : Tr) (L : Lo) (P2 : Tr) (L2 : Lo) (Tn : Tr) (Ti : Tr) (Tu : Tr) (Tv : Tr) (C : Tr) (Z : Tr) (q0 : Nat) (q1 : Nat) (q2 : Nat) (q3 : Nat) (q4 : Nat) (q5 : Nat) (x1 : Int32) (x2 : Int32)  (r0 : Int32) (h : f_X7_piece pa qa P Tn q0 q4 x1 x2 = some r0) : Met l yX7_piece (.code yX7_piece cX7_piece 3 (some .int) :: T0) ({ frames := 2, cells := 0, slots := 0, locals := 45 } : Room) (tqP G cA [.ref (xa 0), .int x1, .int x2] (wX cA xa ka ra na ia ua va ca za pa qa X K R P L P2 L2 Tn Ti Tu Tv C Z q0 q1 q2 q3 q4 q5) sz) (tqQi G cA (fun (r : Int32) (_ : Unit) => r = r0) (fun (_ : Unit) => wX cA xa ka ra na ia ua va ca za pa qa X K R P L P2 L2 Tn Ti Tu Tv C Z q0 q1 q2 q3 q4 q5) (va_A (wX cA xa ka ra na ia ua va ca za pa qa X K R P L P2 L2 Tn Ti Tu Tv C Z q0 q1 q2 q3 q4 q5) sz)) 0 0 (va_A (wX cA xa ka ra na ia ua va ca za pa qa X K R P L P2 L2 Tn Ti Tu Tv C Z q0 q1 q2 q3 q4 q5) sz) := by
  refine Met.ofW (cc := cX7_piece) (maxL := 3) (ret := (some .int)) (by decide) rfl ?_
  intro p e s m args below meth c s₁ B hml hv
  obtain ⟨rfl, hsz, hP, hK, hD0, hN⟩ := hv
  have hx := B.exec
  have hb := B.bytes
  have hr := B.returns
  have hts := atoms_spec (ws := .code yX7_piece cX7_piece 3 (some .int) :: T0) B.pre
  have hT : ∀ w ∈ T0, w.before _ s = true := fun w h => hts w (List.mem_cons_of_mem _ h)
  have hown : s.vm.findClass RX7 = some m.cls := findClass_of_methodNamed B.named
  have hlocks := B.notSynchronized
  subst hsz
  have hD := hD0.self (sz := s.heap.size)
  generalize hAe : va_A (wX cA xa ka ra na ia ua va ca za pa qa X K R P L P2 L2 Tn Ti Tu Tv C Z q0 q1 q2 q3 q4 q5) s.heap.size = A at hD ⊢
  have hA : ∀ q : Nat, s.heap.size ≤ q → A q := fun q h => by rw [← hAe]; exact Or.inr h
  have hS : va_S A s.heap s.heap [] := va_S.rf
  have hl := lv_entry ([.ref (xa 0), .int x1, .int x2]) (n := 3) (Nat.le_of_ble_eq_true rfl)
  rw [lg_entry_eq]
  generalize (lg_sl ([.ref (xa 0), .int x1, .int x2]) ++ List.replicate (3 - (lg_sl ([.ref (xa 0), .int x1, .int x2])).length) Slot.unset).toArray = ls at hl ⊢
  have hl : lv_has ls 3 [(0, .ref (xa 0)), (1, .int x1), (2, .int x2)] := hl
  have F : tF p s m ([.ref (xa 0), .int x1, .int x2] : List Value).toArray meth c G cA A RX7 cX7_piece 3 (some .int) := ⟨hx, hb, hr, hml, hT, hown, hlocks, hK, hN, hA⟩
  obtain ⟨H, hH⟩ : ∃ z, z = s.heap := ⟨_, rfl⟩
  rw [← hH] at hP
  have hS : va_S A s.heap H [] := by rw [hH]; exact hS
  suffices hgo : G_X7_piece p l e s m below meth c G cA A xa ka ra na ia ua va ca za pa qa X K R P L P2 L2 Tn Ti Tu Tv C Z q0 q1 q2 q3 q4 q5 x1 x2 r0 H [] (F0 m 0 ls []) by rw [hH] at hgo; exact hgo
  generalize ([] : List Loc) = locs at hS ⊢
  unfold f_X7_piece at h
  refine lv_aload_n hx hb dX7_piece_0 rfl (lv_at hl 0 rfl) ?_
  refine lv_iload_n hx hb dX7_piece_1 rfl (lv_at hl 1 rfl) ?_
  replace h := tx_bd h
  obtain ⟨r1, hc2, h⟩ := h
  refine tz_i (As := [.int x1]) (rest := []) ⟨hx, hb, hml, hown, hT⟩ hP hD hS hA hK hN (c_X7_isPiece l G cA H.size xa ka ra na ia ua va ca za pa qa X K R P L P2 L2 Tn Ti Tu Tv C Z q0 q1 q2 q3 q4 q5 x1  r1 hc2) (tq_gV kw_30_5 kw_30_6 kw_30_7 kw_1_2 kw_30_8) rfl rfl dkdV_yX7_isPiece_1 (Nat.le_of_ble_eq_true rfl) (Nat.le_of_ble_eq_true rfl) (ci := 7) (q0 := 0) rfl rfl rfl hl.1 rfl (Nat.le_of_ble_eq_true rfl) dX7_piece_2 ⟨Nat.le_of_ble_eq_true rfl, Nat.le_of_ble_eq_true rfl⟩ (fun _ _ H locs z3 hP hD hS => ?_)
  have z3 := z3.symm
  subst z3
  have hP : va_P G vwCl (wX cA xa ka ra na ia ua va ca za pa qa X K R P L P2 L2 Tn Ti Tu Tv C Z q0 q1 q2 q3 q4 q5) H := hP
  have hD : va_D A (wX cA xa ka ra na ia ua va ca za pa qa X K R P L P2 L2 Tn Ti Tu Tv C Z q0 q1 q2 q3 q4 q5) := hD
  refine lv_if_ne (tgt := 10) hx hb dX7_piece_5 (by decide) (fun c4 => ?_) (fun c4 => ?_)
  · replace h := tx_neg c4 h
    refine lv_iload_n hx hb dX7_piece_10 rfl (lv_at hl 2 rfl) ?_
    by_cases c5 : x2 = 0
    · replace h := tx_pos c5 h
      refine lv_tableIn (off := 37) (tgt := 48) hx hb dX7_piece_11 (by rw [c5]; decide) (by rw [c5]; decide) (by rw [c5]; decide) (by decide) ?_
      refine lv_aload_n hx hb dX7_piece_48 rfl (lv_at hl 0 rfl) ?_
      refine va_get (D := G) (ci := 7) (v := .ref q4) (C := RX7) (T := TX7) (N := 12) hx hb hT ku_7 hown hK hP 0 rfl rfl 1 (by decide) (hT _ kw_1_20) (fun _ h9 => h9) rfl dX7_piece_49 ?_
      replace h := tx_ck h
      obtain ⟨g6, h⟩ := h
      have eg6 := of_decide_eq_true g6
      subst eg6
      refine va_get (D := G) (ci := 2) (v := .ref (pa 14)) (C := RX2) (T := TX2) (N := 19) hx hb hT ku_2 hown hK hP 9 rfl rfl 13 (by decide) (hT _ kw_30_0) (fun _ h9 => h9) rfl dX7_piece_52 ?_
      refine lv_iload_n hx hb dX7_piece_55 rfl (lv_at hl 1 rfl) ?_
      replace h := tx_ck h
      obtain ⟨g7, h⟩ := h
      refine va_iald (i := x1) hx hb hK hP 16 0 rfl rfl (tx_in g7) dX7_piece_56 ?_
      obtain rfl := tx_1 h
      exact W.iret hx hb hr (fun t ht hW => ⟨⟨_, (), rfl, rfl, by rw [ht]; exact hP, hD⟩, hS.F ht⟩) hS.2.2 dX7_piece_57
    · replace h := tx_neg c5 h
      by_cases c8 : x2 = 1
      · replace h := tx_pos c8 h
        refine lv_tableIn (off := 47) (tgt := 58) hx hb dX7_piece_11 (by rw [c8]; decide) (by rw [c8]; decide) (by rw [c8]; decide) (by decide) ?_
        refine lv_aload_n hx hb dX7_piece_58 rfl (lv_at hl 0 rfl) ?_
        refine va_get (D := G) (ci := 7) (v := .ref q4) (C := RX7) (T := TX7) (N := 12) hx hb hT ku_7 hown hK hP 0 rfl rfl 1 (by decide) (hT _ kw_1_20) (fun _ h9 => h9) rfl dX7_piece_59 ?_
        replace h := tx_ck h
        obtain ⟨g9, h⟩ := h
        have eg9 := of_decide_eq_true g9
        subst eg9
        refine va_get (D := G) (ci := 2) (v := .ref (pa 15)) (C := RX2) (T := TX2) (N := 19) hx hb hT ku_2 hown hK hP 9 rfl rfl 14 (by decide) (hT _ kw_30_1) (fun _ h9 => h9) rfl dX7_piece_62 ?_
        refine lv_iload_n hx hb dX7_piece_65 rfl (lv_at hl 1 rfl) ?_
        replace h := tx_ck h
        obtain ⟨g10, h⟩ := h
        refine va_iald (i := x1) hx hb hK hP 17 0 rfl rfl (tx_in g10) dX7_piece_66 ?_
        obtain rfl := tx_1 h
        exact W.iret hx hb hr (fun t ht hW => ⟨⟨_, (), rfl, rfl, by rw [ht]; exact hP, hD⟩, hS.F ht⟩) hS.2.2 dX7_piece_67
      · replace h := tx_neg c8 h
        by_cases c11 : x2 = 2
        · replace h := tx_pos c11 h
          refine lv_tableIn (off := 57) (tgt := 68) hx hb dX7_piece_11 (by rw [c11]; decide) (by rw [c11]; decide) (by rw [c11]; decide) (by decide) ?_
          refine lv_aload_n hx hb dX7_piece_68 rfl (lv_at hl 0 rfl) ?_
          refine va_get (D := G) (ci := 7) (v := .ref q4) (C := RX7) (T := TX7) (N := 12) hx hb hT ku_7 hown hK hP 0 rfl rfl 1 (by decide) (hT _ kw_1_20) (fun _ h9 => h9) rfl dX7_piece_69 ?_
          replace h := tx_ck h
          obtain ⟨g12, h⟩ := h
          have eg12 := of_decide_eq_true g12
          subst eg12
          refine va_get (D := G) (ci := 2) (v := .ref (pa 16)) (C := RX2) (T := TX2) (N := 19) hx hb hT ku_2 hown hK hP 9 rfl rfl 15 (by decide) (hT _ kw_30_2) (fun _ h9 => h9) rfl dX7_piece_72 ?_
          refine lv_iload_n hx hb dX7_piece_75 rfl (lv_at hl 1 rfl) ?_
          replace h := tx_ck h
          obtain ⟨g13, h⟩ := h
          refine va_iald (i := x1) hx hb hK hP 18 0 rfl rfl (tx_in g13) dX7_piece_76 ?_
          obtain rfl := tx_1 h
          exact W.iret hx hb hr (fun t ht hW => ⟨⟨_, (), rfl, rfl, by rw [ht]; exact hP, hD⟩, hS.F ht⟩) hS.2.2 dX7_piece_77
        · replace h := tx_neg c11 h
          by_cases c14 : x2 = 3
          · replace h := tx_pos c14 h
            refine lv_tableIn (off := 67) (tgt := 78) hx hb dX7_piece_11 (by rw [c14]; decide) (by rw [c14]; decide) (by rw [c14]; decide) (by decide) ?_
            refine lv_aload_n hx hb dX7_piece_78 rfl (lv_at hl 0 rfl) ?_
            refine va_get (D := G) (ci := 7) (v := .ref (na 0)) (C := RX7) (T := TX7) (N := 12) hx hb hT ku_7 hown hK hP 0 rfl rfl 2 (by decide) (hT _ kw_2_0) (fun _ h9 => h9) rfl dX7_piece_79 ?_
            refine va_get (D := G) (ci := 6) (v := .ref (na 14)) (C := RX6) (T := TX6) (N := 20) hx hb hT ku_6 hown hK hP 53 rfl rfl 13 (by decide) (hT _ kw_30_3) (fun _ h9 => h9) rfl dX7_piece_82 ?_
            refine lv_iload_n hx hb dX7_piece_85 rfl (lv_at hl 1 rfl) ?_
            replace h := tx_ck h
            obtain ⟨g15, h⟩ := h
            refine va_iald (i := x1) hx hb hK hP 59 0 rfl rfl (tx_in g15) dX7_piece_86 ?_
            obtain rfl := tx_1 h
            exact W.iret hx hb hr (fun t ht hW => ⟨⟨_, (), rfl, rfl, by rw [ht]; exact hP, hD⟩, hS.F ht⟩) hS.2.2 dX7_piece_87
          · replace h := tx_neg c14 h
            by_cases c16 : x2 = 4
            · replace h := tx_pos c16 h
              refine lv_tableIn (off := 77) (tgt := 88) hx hb dX7_piece_11 (by rw [c16]; decide) (by rw [c16]; decide) (by rw [c16]; decide) (by decide) ?_
              refine lv_aload_n hx hb dX7_piece_88 rfl (lv_at hl 0 rfl) ?_
              refine va_get (D := G) (ci := 7) (v := .ref (na 0)) (C := RX7) (T := TX7) (N := 12) hx hb hT ku_7 hown hK hP 0 rfl rfl 2 (by decide) (hT _ kw_2_0) (fun _ h9 => h9) rfl dX7_piece_89 ?_
              refine va_get (D := G) (ci := 6) (v := .ref (na 15)) (C := RX6) (T := TX6) (N := 20) hx hb hT ku_6 hown hK hP 53 rfl rfl 14 (by decide) (hT _ kw_30_4) (fun _ h9 => h9) rfl dX7_piece_92 ?_
              refine lv_iload_n hx hb dX7_piece_95 rfl (lv_at hl 1 rfl) ?_
              replace h := tx_ck h
              obtain ⟨g17, h⟩ := h
              refine va_iald (i := x1) hx hb hK hP 60 0 rfl rfl (tx_in g17) dX7_piece_96 ?_
              obtain rfl := tx_1 h
              exact W.iret hx hb hr (fun t ht hW => ⟨⟨_, (), rfl, rfl, by rw [ht]; exact hP, hD⟩, hS.F ht⟩) hS.2.2 dX7_piece_97
            · replace h := tx_neg c16 h
              by_cases c18 : x2 = 5
              · replace h := tx_pos c18 h
                refine lv_tableIn (off := 87) (tgt := 98) hx hb dX7_piece_11 (by rw [c18]; decide) (by rw [c18]; decide) (by rw [c18]; decide) (by decide) ?_
                refine lv_aload_n hx hb dX7_piece_98 rfl (lv_at hl 0 rfl) ?_
                refine va_get (D := G) (ci := 7) (v := .ref (na 0)) (C := RX7) (T := TX7) (N := 12) hx hb hT ku_7 hown hK hP 0 rfl rfl 2 (by decide) (hT _ kw_2_0) (fun _ h9 => h9) rfl dX7_piece_99 ?_
                refine lv_iload_n hx hb dX7_piece_102 rfl (lv_at hl 1 rfl) ?_
                replace h := tx_ck h
                obtain ⟨g19, h⟩ := h
                have eg19 := of_decide_eq_true g19
                subst eg19
                replace h := tx_bd h
                obtain ⟨r20, hc21, h⟩ := h
                refine tw_ci pX_na hP hD hS hA (va_runV (As := [.int x1]) (rest := []) ⟨hx, hb, hml, hown, hT⟩ (c_X6_above l G cA H.size na pa Tn P L x1  r20 hc21) (cwV 1 hT (tq_gV kw_30_10 kw_30_11 kw_30_12 kw_1_23 kw_30_13) rfl rfl rfl dkdV_yX6_above_1 ⟨Nat.le_of_ble_eq_true rfl, Nat.le_of_ble_eq_true rfl⟩) ⟨(tw_pre pX_na hP hD hK hN).1, va_recv hK hP (ci := 6) (q0 := 53) rfl rfl, (tw_pre pX_na hP hD hK hN).2⟩ rfl rfl hl.1 rfl (lv_room (Nat.le_of_ble_eq_true rfl)) dX7_piece_103 ⟨Nat.le_of_ble_eq_true rfl, Nat.le_of_ble_eq_true rfl⟩) (fun _ _ H locs z22 hP hD hS => ?_)
                have z22 := z22.symm
                subst z22
                replace hP := tw_P pX_na.symm hP
                replace hD := tw_D pX_na.symm hD
                have hP : va_P G vwCl (wX cA xa ka ra na ia ua va ca za pa qa X K R P L P2 L2 Tn Ti Tu Tv C Z (pa 0) q1 q2 q3 q4 q5) H := hP
                have hD : va_D A (wX cA xa ka ra na ia ua va ca za pa qa X K R P L P2 L2 Tn Ti Tu Tv C Z (pa 0) q1 q2 q3 q4 q5) := hD
                obtain rfl := tx_1 h
                exact W.iret hx hb hr (fun t ht hW => ⟨⟨_, (), rfl, rfl, by rw [ht]; exact hP, hD⟩, hS.F ht⟩) hS.2.2 dX7_piece_106
              · replace h := tx_neg c18 h
                have kc5 := tq_eqn (a := x2.toInt) (b := 0) rfl (by decide) c5
                have kc8 := tq_eqn (a := x2.toInt) (b := 1) rfl (by decide) c8
                have kc11 := tq_eqn (a := x2.toInt) (b := 2) rfl (by decide) c11
                have kc14 := tq_eqn (a := x2.toInt) (b := 3) rfl (by decide) c14
                have kc16 := tq_eqn (a := x2.toInt) (b := 4) rfl (by decide) c16
                have kc18 := tq_eqn (a := x2.toInt) (b := 5) rfl (by decide) c18
                refine lv_tableOut (tgt := 107) hx hb dX7_piece_11 (by omega) (by decide) ?_
                refine lv_iconst (v := (-1)) hx hb dX7_piece_107 (by decide) ?_
                obtain rfl := tx_1 h
                exact W.iret hx hb hr (fun t ht hW => ⟨⟨_, (), rfl, rfl, by rw [ht]; exact hP, hD⟩, hS.F ht⟩) hS.2.2 dX7_piece_108
  · replace h := tx_pos c4 h
    refine lv_iconst (v := (-1)) hx hb dX7_piece_8 (by decide) ?_
    obtain rfl := tx_1 h
    exact W.iret hx hb hr (fun t ht hW => ⟨⟨_, (), rfl, rfl, by rw [ht]; exact hP, hD⟩, hS.F ht⟩) hS.2.2 dX7_piece_9
abbrev G_X7_place (p : Program) (l : Launch) (e : Env) (s : State) (m : MethodId) (below : List Frame) (meth : Method) (c : Code) (G : va_G) (cA : Nat → ClassId) (A : Nat → Prop) (xa : Nat → Nat) (ka : Nat → Nat) (ra : Nat → Nat) (na : Nat → Nat) (ia : Nat → Nat) (ua : Nat → Nat) (va : Nat → Nat) (ca : Nat → Nat) (za : Nat → Nat) (pa : Nat → Nat) (qa : Nat → Nat) (X : Tr) (K : Tr) (R : Tr) (P : Tr) (L : Lo) (P2 : Tr) (L2 : Lo) (Tn : Tr) (Ti : Tr) (Tu : Tr) (Tv : Tr) (C : Tr) (Z : Tr) (q0 : Nat) (q1 : Nat) (q2 : Nat) (q3 : Nat) (q4 : Nat) (q5 : Nat) (x1 : Int32) (x2 : Int32) (r0 : Int32) (H : Heap) (locs : List Loc) (g : JFrame) : Prop := W p l e (headSpec (.code yX7_place cX7_place 3 (some .int) :: T0) ({ frames := 1, cells := 0, slots := 0, locals := 21 } : Room)).room s m ([.ref (xa 0), .int x1, .int x2] : List Value).toArray below meth c H locs 0 0 (MQ below (tqQi G cA (fun (r : Int32) (_ : Unit) => r = r0) (fun (_ : Unit) => wX cA xa ka ra na ia ua va ca za pa qa X K R P L P2 L2 Tn Ti Tu Tv C Z q0 q1 q2 q3 q4 q5) A) ([.ref (xa 0), .int x1, .int x2] : List Value).toArray s 0 0 A) g
set_option maxHeartbeats 4000000 in
set_option maxRecDepth 100000 in
theorem c_X7_place (l : Launch) (G : va_G) (cA : Nat → ClassId) (sz : Nat) (xa : Nat → Nat) (ka : Nat → Nat) (ra : Nat → Nat) (na : Nat → Nat) (ia : Nat → Nat) (ua : Nat → Nat) (va : Nat → Nat) (ca : Nat → Nat) (za : Nat → Nat) (pa : Nat → Nat) (qa : Nat → Nat) (X : Tr) (K : Tr) (R : Tr) (P : Tr) (L : Lo) (P2 : Tr) (L2 : Lo) (Tn : Tr) (Ti : Tr) (Tu : Tr) (Tv : Tr) (C : Tr) (Z : Tr) (q0 : Nat) (q1 : Nat) (q2 : Nat) (q3 : Nat) (q4 : Nat) (q5 : Nat) (x1 : Int32) (x2 : Int32)  (r0 : Int32) (h : f_X7_place pa qa P Tn q0 q4 x1 x2 = some r0) : Met l yX7_place (.code yX7_place cX7_place 3 (some .int) :: T0) ({ frames := 1, cells := 0, slots := 0, locals := 21 } : Room) (tqP G cA [.ref (xa 0), .int x1, .int x2] (wX cA xa ka ra na ia ua va ca za pa qa X K R P L P2 L2 Tn Ti Tu Tv C Z q0 q1 q2 q3 q4 q5) sz) (tqQi G cA (fun (r : Int32) (_ : Unit) => r = r0) (fun (_ : Unit) => wX cA xa ka ra na ia ua va ca za pa qa X K R P L P2 L2 Tn Ti Tu Tv C Z q0 q1 q2 q3 q4 q5) (va_A (wX cA xa ka ra na ia ua va ca za pa qa X K R P L P2 L2 Tn Ti Tu Tv C Z q0 q1 q2 q3 q4 q5) sz)) 0 0 (va_A (wX cA xa ka ra na ia ua va ca za pa qa X K R P L P2 L2 Tn Ti Tu Tv C Z q0 q1 q2 q3 q4 q5) sz) := by
  refine Met.ofW (cc := cX7_place) (maxL := 3) (ret := (some .int)) (by decide) rfl ?_
  intro p e s m args below meth c s₁ B hml hv
  obtain ⟨rfl, hsz, hP, hK, hD0, hN⟩ := hv
  have hx := B.exec
  have hb := B.bytes
  have hr := B.returns
  have hts := atoms_spec (ws := .code yX7_place cX7_place 3 (some .int) :: T0) B.pre
  have hT : ∀ w ∈ T0, w.before _ s = true := fun w h => hts w (List.mem_cons_of_mem _ h)
  have hown : s.vm.findClass RX7 = some m.cls := findClass_of_methodNamed B.named
  have hlocks := B.notSynchronized
  subst hsz
  have hD := hD0.self (sz := s.heap.size)
  generalize hAe : va_A (wX cA xa ka ra na ia ua va ca za pa qa X K R P L P2 L2 Tn Ti Tu Tv C Z q0 q1 q2 q3 q4 q5) s.heap.size = A at hD ⊢
  have hA : ∀ q : Nat, s.heap.size ≤ q → A q := fun q h => by rw [← hAe]; exact Or.inr h
  have hS : va_S A s.heap s.heap [] := va_S.rf
  have hl := lv_entry ([.ref (xa 0), .int x1, .int x2]) (n := 3) (Nat.le_of_ble_eq_true rfl)
  rw [lg_entry_eq]
  generalize (lg_sl ([.ref (xa 0), .int x1, .int x2]) ++ List.replicate (3 - (lg_sl ([.ref (xa 0), .int x1, .int x2])).length) Slot.unset).toArray = ls at hl ⊢
  have hl : lv_has ls 3 [(0, .ref (xa 0)), (1, .int x1), (2, .int x2)] := hl
  have F : tF p s m ([.ref (xa 0), .int x1, .int x2] : List Value).toArray meth c G cA A RX7 cX7_place 3 (some .int) := ⟨hx, hb, hr, hml, hT, hown, hlocks, hK, hN, hA⟩
  obtain ⟨H, hH⟩ : ∃ z, z = s.heap := ⟨_, rfl⟩
  rw [← hH] at hP
  have hS : va_S A s.heap H [] := by rw [hH]; exact hS
  suffices hgo : G_X7_place p l e s m below meth c G cA A xa ka ra na ia ua va ca za pa qa X K R P L P2 L2 Tn Ti Tu Tv C Z q0 q1 q2 q3 q4 q5 x1 x2 r0 H [] (F0 m 0 ls []) by rw [hH] at hgo; exact hgo
  generalize ([] : List Loc) = locs at hS ⊢
  unfold f_X7_place at h
  refine lv_aload_n hx hb dX7_place_0 rfl (lv_at hl 0 rfl) ?_
  refine lv_iload_n hx hb dX7_place_1 rfl (lv_at hl 1 rfl) ?_
  replace h := tx_bd h
  obtain ⟨r1, hc2, h⟩ := h
  refine tz_i (As := [.int x1]) (rest := []) ⟨hx, hb, hml, hown, hT⟩ hP hD hS hA hK hN (c_X7_isPlace l G cA H.size xa ka ra na ia ua va ca za pa qa X K R P L P2 L2 Tn Ti Tu Tv C Z q0 q1 q2 q3 q4 q5 x1  r1 hc2) (tq_gV kw_31_22 kw_31_23 kw_32_0 kw_1_2 kw_32_1) rfl rfl dkdV_yX7_isPlace_1 (Nat.le_of_ble_eq_true rfl) (Nat.le_of_ble_eq_true rfl) (ci := 7) (q0 := 0) rfl rfl rfl hl.1 rfl (Nat.le_of_ble_eq_true rfl) dX7_place_2 ⟨Nat.le_of_ble_eq_true rfl, Nat.le_of_ble_eq_true rfl⟩ (fun _ _ H locs z3 hP hD hS => ?_)
  have z3 := z3.symm
  subst z3
  have hP : va_P G vwCl (wX cA xa ka ra na ia ua va ca za pa qa X K R P L P2 L2 Tn Ti Tu Tv C Z q0 q1 q2 q3 q4 q5) H := hP
  have hD : va_D A (wX cA xa ka ra na ia ua va ca za pa qa X K R P L P2 L2 Tn Ti Tu Tv C Z q0 q1 q2 q3 q4 q5) := hD
  refine lv_if_ne (tgt := 10) hx hb dX7_place_5 (by decide) (fun c4 => ?_) (fun c4 => ?_)
  · replace h := tx_neg c4 h
    refine lv_iload_n hx hb dX7_place_10 rfl (lv_at hl 2 rfl) ?_
    by_cases c5 : x2 = 0
    · replace h := tx_pos c5 h
      refine lv_tableIn (off := 33) (tgt := 44) hx hb dX7_place_11 (by rw [c5]; decide) (by rw [c5]; decide) (by rw [c5]; decide) (by decide) ?_
      refine lv_aload_n hx hb dX7_place_44 rfl (lv_at hl 0 rfl) ?_
      refine va_get (D := G) (ci := 7) (v := .ref q4) (C := RX7) (T := TX7) (N := 12) hx hb hT ku_7 hown hK hP 0 rfl rfl 1 (by decide) (hT _ kw_1_20) (fun _ h9 => h9) rfl dX7_place_45 ?_
      replace h := tx_ck h
      obtain ⟨g6, h⟩ := h
      have eg6 := of_decide_eq_true g6
      subst eg6
      refine va_get (D := G) (ci := 2) (v := .ref (pa 8)) (C := RX2) (T := TX2) (N := 19) hx hb hT ku_2 hown hK hP 9 rfl rfl 7 (by decide) (hT _ kw_31_18) (fun _ h9 => h9) rfl dX7_place_48 ?_
      refine lv_iload_n hx hb dX7_place_51 rfl (lv_at hl 1 rfl) ?_
      replace h := tx_ck h
      obtain ⟨g7, h⟩ := h
      refine va_iald (i := x1) hx hb hK hP 10 0 rfl rfl (tx_in g7) dX7_place_52 ?_
      obtain rfl := tx_1 h
      exact W.iret hx hb hr (fun t ht hW => ⟨⟨_, (), rfl, rfl, by rw [ht]; exact hP, hD⟩, hS.F ht⟩) hS.2.2 dX7_place_53
    · replace h := tx_neg c5 h
      by_cases c8 : x2 = 1
      · replace h := tx_pos c8 h
        refine lv_tableIn (off := 43) (tgt := 54) hx hb dX7_place_11 (by rw [c8]; decide) (by rw [c8]; decide) (by rw [c8]; decide) (by decide) ?_
        refine lv_aload_n hx hb dX7_place_54 rfl (lv_at hl 0 rfl) ?_
        refine va_get (D := G) (ci := 7) (v := .ref q4) (C := RX7) (T := TX7) (N := 12) hx hb hT ku_7 hown hK hP 0 rfl rfl 1 (by decide) (hT _ kw_1_20) (fun _ h9 => h9) rfl dX7_place_55 ?_
        replace h := tx_ck h
        obtain ⟨g9, h⟩ := h
        have eg9 := of_decide_eq_true g9
        subst eg9
        refine va_get (D := G) (ci := 2) (v := .ref (pa 9)) (C := RX2) (T := TX2) (N := 19) hx hb hT ku_2 hown hK hP 9 rfl rfl 8 (by decide) (hT _ kw_31_19) (fun _ h9 => h9) rfl dX7_place_58 ?_
        refine lv_iload_n hx hb dX7_place_61 rfl (lv_at hl 1 rfl) ?_
        replace h := tx_ck h
        obtain ⟨g10, h⟩ := h
        refine va_iald (i := x1) hx hb hK hP 11 0 rfl rfl (tx_in g10) dX7_place_62 ?_
        obtain rfl := tx_1 h
        exact W.iret hx hb hr (fun t ht hW => ⟨⟨_, (), rfl, rfl, by rw [ht]; exact hP, hD⟩, hS.F ht⟩) hS.2.2 dX7_place_63
      · replace h := tx_neg c8 h
        by_cases c11 : x2 = 2
        · replace h := tx_pos c11 h
          refine lv_tableIn (off := 53) (tgt := 64) hx hb dX7_place_11 (by rw [c11]; decide) (by rw [c11]; decide) (by rw [c11]; decide) (by decide) ?_
          refine lv_aload_n hx hb dX7_place_64 rfl (lv_at hl 0 rfl) ?_
          refine va_get (D := G) (ci := 7) (v := .ref (na 0)) (C := RX7) (T := TX7) (N := 12) hx hb hT ku_7 hown hK hP 0 rfl rfl 2 (by decide) (hT _ kw_2_0) (fun _ h9 => h9) rfl dX7_place_65 ?_
          refine va_get (D := G) (ci := 6) (v := .ref (na 18)) (C := RX6) (T := TX6) (N := 20) hx hb hT ku_6 hown hK hP 53 rfl rfl 17 (by decide) (hT _ kw_31_20) (fun _ h9 => h9) rfl dX7_place_68 ?_
          refine lv_iload_n hx hb dX7_place_71 rfl (lv_at hl 1 rfl) ?_
          replace h := tx_ck h
          obtain ⟨g12, h⟩ := h
          refine va_iald (i := x1) hx hb hK hP 63 0 rfl rfl (tx_in g12) dX7_place_72 ?_
          obtain rfl := tx_1 h
          exact W.iret hx hb hr (fun t ht hW => ⟨⟨_, (), rfl, rfl, by rw [ht]; exact hP, hD⟩, hS.F ht⟩) hS.2.2 dX7_place_73
        · replace h := tx_neg c11 h
          by_cases c13 : x2 = 3
          · replace h := tx_pos c13 h
            refine lv_tableIn (off := 63) (tgt := 74) hx hb dX7_place_11 (by rw [c13]; decide) (by rw [c13]; decide) (by rw [c13]; decide) (by decide) ?_
            refine lv_aload_n hx hb dX7_place_74 rfl (lv_at hl 0 rfl) ?_
            refine va_get (D := G) (ci := 7) (v := .ref (na 0)) (C := RX7) (T := TX7) (N := 12) hx hb hT ku_7 hown hK hP 0 rfl rfl 2 (by decide) (hT _ kw_2_0) (fun _ h9 => h9) rfl dX7_place_75 ?_
            refine va_get (D := G) (ci := 6) (v := .ref (na 17)) (C := RX6) (T := TX6) (N := 20) hx hb hT ku_6 hown hK hP 53 rfl rfl 16 (by decide) (hT _ kw_31_21) (fun _ h9 => h9) rfl dX7_place_78 ?_
            refine lv_iload_n hx hb dX7_place_81 rfl (lv_at hl 1 rfl) ?_
            replace h := tx_ck h
            obtain ⟨g14, h⟩ := h
            refine va_iald (i := x1) hx hb hK hP 62 0 rfl rfl (tx_in g14) dX7_place_82 ?_
            obtain rfl := tx_1 h
            exact W.iret hx hb hr (fun t ht hW => ⟨⟨_, (), rfl, rfl, by rw [ht]; exact hP, hD⟩, hS.F ht⟩) hS.2.2 dX7_place_83
          · replace h := tx_neg c13 h
            by_cases c15 : x2 = 4
            · replace h := tx_pos c15 h
              refine lv_tableIn (off := 73) (tgt := 84) hx hb dX7_place_11 (by rw [c15]; decide) (by rw [c15]; decide) (by rw [c15]; decide) (by decide) ?_
              refine lv_aload_n hx hb dX7_place_84 rfl (lv_at hl 0 rfl) ?_
              refine va_get (D := G) (ci := 7) (v := .ref (na 0)) (C := RX7) (T := TX7) (N := 12) hx hb hT ku_7 hown hK hP 0 rfl rfl 2 (by decide) (hT _ kw_2_0) (fun _ h9 => h9) rfl dX7_place_85 ?_
              refine lv_iload_n hx hb dX7_place_88 rfl (lv_at hl 1 rfl) ?_
              replace h := tx_ck h
              obtain ⟨g16, h⟩ := h
              have eg16 := of_decide_eq_true g16
              subst eg16
              replace h := tx_bd h
              obtain ⟨r17, hc18, h⟩ := h
              refine tw_ci pX_na hP hD hS hA (va_runV (As := [.int x1]) (rest := []) ⟨hx, hb, hml, hown, hT⟩ (c_X6_top l G cA H.size na pa Tn P L x1  r17 hc18) (cwV 1 hT (tq_gV kw_32_3 kw_32_4 kw_32_5 kw_1_23 kw_32_6) rfl rfl rfl dkdV_yX6_top_1 ⟨Nat.le_of_ble_eq_true rfl, Nat.le_of_ble_eq_true rfl⟩) ⟨(tw_pre pX_na hP hD hK hN).1, va_recv hK hP (ci := 6) (q0 := 53) rfl rfl, (tw_pre pX_na hP hD hK hN).2⟩ rfl rfl hl.1 rfl (lv_room (Nat.le_of_ble_eq_true rfl)) dX7_place_89 ⟨Nat.le_of_ble_eq_true rfl, Nat.le_of_ble_eq_true rfl⟩) (fun _ _ H locs z19 hP hD hS => ?_)
              have z19 := z19.symm
              subst z19
              replace hP := tw_P pX_na.symm hP
              replace hD := tw_D pX_na.symm hD
              have hP : va_P G vwCl (wX cA xa ka ra na ia ua va ca za pa qa X K R P L P2 L2 Tn Ti Tu Tv C Z (pa 0) q1 q2 q3 q4 q5) H := hP
              have hD : va_D A (wX cA xa ka ra na ia ua va ca za pa qa X K R P L P2 L2 Tn Ti Tu Tv C Z (pa 0) q1 q2 q3 q4 q5) := hD
              obtain rfl := tx_1 h
              exact W.iret hx hb hr (fun t ht hW => ⟨⟨_, (), rfl, rfl, by rw [ht]; exact hP, hD⟩, hS.F ht⟩) hS.2.2 dX7_place_92
            · replace h := tx_neg c15 h
              have kc5 := tq_eqn (a := x2.toInt) (b := 0) rfl (by decide) c5
              have kc8 := tq_eqn (a := x2.toInt) (b := 1) rfl (by decide) c8
              have kc11 := tq_eqn (a := x2.toInt) (b := 2) rfl (by decide) c11
              have kc13 := tq_eqn (a := x2.toInt) (b := 3) rfl (by decide) c13
              have kc15 := tq_eqn (a := x2.toInt) (b := 4) rfl (by decide) c15
              refine lv_tableOut (tgt := 93) hx hb dX7_place_11 (by omega) (by decide) ?_
              refine lv_iconst (v := (-1)) hx hb dX7_place_93 (by decide) ?_
              obtain rfl := tx_1 h
              exact W.iret hx hb hr (fun t ht hW => ⟨⟨_, (), rfl, rfl, by rw [ht]; exact hP, hD⟩, hS.F ht⟩) hS.2.2 dX7_place_94
  · replace h := tx_pos c4 h
    refine lv_iconst (v := (-1)) hx hb dX7_place_8 (by decide) ?_
    obtain rfl := tx_1 h
    exact W.iret hx hb hr (fun t ht hW => ⟨⟨_, (), rfl, rfl, by rw [ht]; exact hP, hD⟩, hS.F ht⟩) hS.2.2 dX7_place_9
abbrev G_X7_workOutCosts (p : Program) (l : Launch) (e : Env) (s : State) (m : MethodId) (below : List Frame) (meth : Method) (c : Code) (G : va_G) (cA : Nat → ClassId) (A : Nat → Prop) (xa : Nat → Nat) (ka : Nat → Nat) (ra : Nat → Nat) (na : Nat → Nat) (ia : Nat → Nat) (ua : Nat → Nat) (va : Nat → Nat) (ca : Nat → Nat) (za : Nat → Nat) (pa : Nat → Nat) (qa : Nat → Nat) (K : Tr) (R : Tr) (P : Tr) (P2 : Tr) (L2 : Lo) (Tn : Tr) (Ti : Tr) (Tv : Tr) (C : Tr) (Z : Tr) (q0 : Nat) (q1 : Nat) (q3 : Nat) (q4 : Nat) (q5 : Nat) (x1 : Int32) (x2 : Int32) (X' : Tr) (L' : Lo) (Tu' : Tr) (q2' : Nat) (H : Heap) (locs : List Loc) (g : JFrame) : Prop := W p l e (headSpec (.code yX7_workOutCosts cX7_workOutCosts 5 none :: T0) ({ frames := 6, cells := 0, slots := 0, locals := 153 } : Room)).room s m ([.ref (xa 0), .int x1, .int x2] : List Value).toArray below meth c H locs 0 0 (MQ below (tqQv G cA (fun (_ : Unit) => True) (fun (_ : Unit) => wX cA xa ka ra na ia ua va ca za pa qa (X') K R P (L') P2 L2 Tn Ti (Tu') Tv C Z q0 q1 (q2') q3 q4 q5) A) ([.ref (xa 0), .int x1, .int x2] : List Value).toArray s 0 0 A) g
set_option maxHeartbeats 4000000 in
set_option maxRecDepth 100000 in
theorem w_X7_workOutCosts_L16 {p : Program} {l : Launch} {e : Env} {s : State} {m : MethodId} {below : List Frame} {meth : Method} {c : Code} {G : va_G} {cA : Nat → ClassId} {A : Nat → Prop} {xa : Nat → Nat} {ka : Nat → Nat} {ra : Nat → Nat} {na : Nat → Nat} {ia : Nat → Nat} {ua : Nat → Nat} {va : Nat → Nat} {ca : Nat → Nat} {za : Nat → Nat} {pa : Nat → Nat} {qa : Nat → Nat} {K : Tr} {R : Tr} {P : Tr} {P2 : Tr} {L2 : Lo} {Tn : Tr} {Ti : Tr} {Tv : Tr} {C : Tr} {Z : Tr} {q0 : Nat} {q1 : Nat} {q3 : Nat} {q4 : Nat} {q5 : Nat} {x1₀ : Int32} {x2₀ : Int32} {X' : Tr} {L' : Lo} {Tu' : Tr} {q2' : Nat} {x1 : Int32} {x2 : Int32} {x3 : Int32} (F : tF p s m ([.ref (xa 0), .int x1₀, .int x2₀] : List Value).toArray meth c G cA A RX7 cX7_workOutCosts 5 none)  (k2 : Int32 → Tr → Lo → Tr → Nat → Option (Tr × Lo × Tr × Nat)) (hk2 : ∀ (x3 : Int32) (X : Tr) (L : Lo) (Tu : Tr) (q2 : Nat) (H : Heap) (locs : List Loc) (ls : Array Slot), k2 x3 X L Tu q2 = some (X', L', Tu', q2') → va_P G vwCl (wX cA xa ka ra na ia ua va ca za pa qa X K R P L P2 L2 Tn Ti Tu Tv C Z q0 q1 q2 q3 q4 q5) H → va_D A (wX cA xa ka ra na ia ua va ca za pa qa X K R P L P2 L2 Tn Ti Tu Tv C Z q0 q1 q2 q3 q4 q5) → va_S A s.heap H locs → lv_has ls 5 [(0, .ref (xa 0)), (1, .int x1), (2, .int x2), (3, .int x3)] → G_X7_workOutCosts p l e s m below meth c G cA A xa ka ra na ia ua va ca za pa qa K R P P2 L2 Tn Ti Tv C Z q0 q1 q3 q4 q5 x1₀ x2₀ X' L' Tu' q2' H locs (F0 m 2 ls [])) (N : Nat) : ∀ (x4 : Int32) (X : Tr) (L : Lo) (Tu : Tr) (q2 : Nat) (H : Heap) (locs : List Loc) (ls : Array Slot), lpF (fun _ _ _ _ _ => none) (fB_X7_workOutCosts_L16 k2 pa qa P Tn q0 q4 x1 x2 x3) N x4 X L Tu q2 = some (X', L', Tu', q2') → va_P G vwCl (wX cA xa ka ra na ia ua va ca za pa qa X K R P L P2 L2 Tn Ti Tu Tv C Z q0 q1 q2 q3 q4 q5) H → va_D A (wX cA xa ka ra na ia ua va ca za pa qa X K R P L P2 L2 Tn Ti Tu Tv C Z q0 q1 q2 q3 q4 q5) → va_S A s.heap H locs → lv_has ls 5 [(0, .ref (xa 0)), (1, .int x1), (2, .int x2), (3, .int x3), (4, .int x4)] → G_X7_workOutCosts p l e s m below meth c G cA A xa ka ra na ia ua va ca za pa qa K R P P2 L2 Tn Ti Tv C Z q0 q1 q3 q4 q5 x1₀ x2₀ X' L' Tu' q2' H locs (F0 m 16 ls []) := by
  obtain ⟨hx, hb, hr, hml, hT, hown, hlocks, hK, hN, hA⟩ := id F
  induction N with
  | zero =>
    intro x4 X L Tu q2 H locs ls h
    replace h : (none : Option (Tr × Lo × Tr × Nat)) = some (X', L', Tu', q2') := h
    cases h
  | succ N hk16 =>
    intro x4 X L Tu q2 H locs ls h hP hD hS hl
    replace h : fB_X7_workOutCosts_L16 k2 pa qa P Tn q0 q4 x1 x2 x3 (lpF (fun _ _ _ _ _ => none) (fB_X7_workOutCosts_L16 k2 pa qa P Tn q0 q4 x1 x2 x3) N) x4 X L Tu q2 = some (X', L', Tu', q2') := h
    generalize hk16e : lpF (fun _ _ _ _ _ => none) (fB_X7_workOutCosts_L16 k2 pa qa P Tn q0 q4 x1 x2 x3) N = k16 at h hk16
    unfold fB_X7_workOutCosts_L16 at h
    refine lv_iload hx hb dX7_workOutCosts_16 (lv_at hl 4 rfl) ?_
    refine lv_aload_n hx hb dX7_workOutCosts_18 rfl (lv_at hl 0 rfl) ?_
    refine va_get (D := G) (ci := 7) (v := .ref q4) (C := RX7) (T := TX7) (N := 12) hx hb hT ku_7 hown hK hP 0 rfl rfl 1 (by decide) (hT _ kw_1_20) (fun _ h9 => h9) rfl dX7_workOutCosts_19 ?_
    replace h := tx_ck h
    obtain ⟨g3, h⟩ := h
    have eg3 := of_decide_eq_true g3
    subst eg3
    refine va_get (D := G) (ci := 2) (v := .int (P 0 0)) (C := RX2) (T := TX2) (N := 19) hx hb hT ku_2 hown hK hP 9 rfl rfl 0 (by decide) (hT _ kw_32_2) (fun _ h9 => h9) rfl dX7_workOutCosts_22 ?_
    refine lv_icmp_ge (tgt := 98) hx hb dX7_workOutCosts_25 (by decide) (fun c4 => ?_) (fun c4 => ?_)
    · replace h := tx_pos c4 h
      replace h := tx_lt h
      obtain ⟨y5, ey5, h⟩ := h
      refine lv_iinc (v := y5) (lv' := [(3, .int y5), (0, .ref (xa 0)), (1, .int x1), (2, .int x2), (4, .int x4)]) hx hb dX7_workOutCosts_98 hl (k := 3) rfl ey5 (by decide) rfl (fun ls hl => ?_)
      refine lv_goto (tgt := 2) hx hb dX7_workOutCosts_101 (by decide) ?_
      exact hk2 y5 X L Tu q2 H locs ls h hP hD hS (lv_sub hl [1, 2, 3, 0] rfl)
    · replace h := tx_neg c4 h
      refine lv_aload_n hx hb dX7_workOutCosts_28 rfl (lv_at hl 0 rfl) ?_
      replace h := tx_bd h
      obtain ⟨⟨Tu_6, q2_7⟩, hc8, h⟩ := h
      replace h := tx_let (y := Tu_6) rfl h
      replace h := tx_let (y := q2_7) rfl h
      refine tz_v (As := []) (rest := []) ⟨hx, hb, hml, hown, hT⟩ hP hD hS hA hK hN (c_X7_startTrial l G cA H.size xa ka ra na ia ua va ca za pa qa X K R P L P2 L2 Tn Ti Tu Tv C Z q0 q1 q2 q3 (pa 0) q5  Tu_6 q2_7 hc8) (tq_gV kw_46_17 kw_46_18 kw_46_19 kw_1_2 kw_46_20) rfl rfl dkdV_yX7_startTrial_0 (Nat.le_of_ble_eq_true rfl) (Nat.le_of_ble_eq_true rfl) (ci := 7) (q0 := 0) rfl rfl rfl hl.1 rfl (Nat.le_of_ble_eq_true rfl) dX7_workOutCosts_29 ⟨Nat.le_of_ble_eq_true rfl, Nat.le_of_ble_eq_true rfl⟩ (fun _ H locs z9 hP hD hS => ?_)
      have hP : va_P G vwCl (wX cA xa ka ra na ia ua va ca za pa qa X K R P L P2 L2 Tn Ti Tu_6 Tv C Z q0 q1 q2_7 q3 (pa 0) q5) H := hP
      have hD : va_D A (wX cA xa ka ra na ia ua va ca za pa qa X K R P L P2 L2 Tn Ti Tu_6 Tv C Z q0 q1 q2_7 q3 (pa 0) q5) := hD
      refine lv_aload_n hx hb dX7_workOutCosts_32 rfl (lv_at hl 0 rfl) ?_
      refine va_get (D := G) (ci := 7) (v := .ref (ua 0)) (C := RX7) (T := TX7) (N := 12) hx hb hT ku_7 hown hK hP 0 rfl rfl 5 (by decide) (hT _ kw_2_3) (fun _ h9 => h9) rfl dX7_workOutCosts_33 ?_
      refine va_get (D := G) (ci := 6) (v := .ref (ua 13)) (C := RX6) (T := TX6) (N := 20) hx hb hT ku_6 hown hK hP 77 rfl rfl 12 (by decide) (hT _ kw_46_15) (fun _ h9 => h9) rfl dX7_workOutCosts_36 ?_
      refine lv_iload_n hx hb dX7_workOutCosts_39 rfl (lv_at hl 1 rfl) ?_
      refine lv_iload_n hx hb dX7_workOutCosts_40 rfl (lv_at hl 3 rfl) ?_
      replace h := tx_ck h
      obtain ⟨g10, h⟩ := h
      refine va_iast (i := x1) hx hb hK hP hD hS 82 0 rfl rfl (tx_in g10) dX7_workOutCosts_41 (fun H locs hP hD hS => ?_)
      replace h := tx_lt h
      obtain ⟨Tu_11, eTu_11, h⟩ := h
      rw [sX_ua_a12, eTu_11] at hP hD
      refine lv_aload_n hx hb dX7_workOutCosts_42 rfl (lv_at hl 0 rfl) ?_
      refine va_get (D := G) (ci := 7) (v := .ref (ua 0)) (C := RX7) (T := TX7) (N := 12) hx hb hT ku_7 hown hK hP 0 rfl rfl 5 (by decide) (hT _ kw_2_3) (fun _ h9 => h9) rfl dX7_workOutCosts_43 ?_
      refine va_get (D := G) (ci := 6) (v := .ref (ua 13)) (C := RX6) (T := TX6) (N := 20) hx hb hT ku_6 hown hK hP 77 rfl rfl 12 (by decide) (hT _ kw_46_15) (fun _ h9 => h9) rfl dX7_workOutCosts_46 ?_
      refine lv_iload_n hx hb dX7_workOutCosts_49 rfl (lv_at hl 2 rfl) ?_
      refine lv_iload hx hb dX7_workOutCosts_50 (lv_at hl 4 rfl) ?_
      replace h := tx_ck h
      obtain ⟨g12, h⟩ := h
      refine va_iast (i := x2) hx hb hK hP hD hS 82 0 rfl rfl (tx_in g12) dX7_workOutCosts_52 (fun H locs hP hD hS => ?_)
      replace h := tx_lt h
      obtain ⟨Tu_13, eTu_13, h⟩ := h
      rw [sX_ua_a12, eTu_13] at hP hD
      refine lv_aload_n hx hb dX7_workOutCosts_53 rfl (lv_at hl 0 rfl) ?_
      refine va_get (D := G) (ci := 7) (v := .ref (ua 0)) (C := RX7) (T := TX7) (N := 12) hx hb hT ku_7 hown hK hP 0 rfl rfl 5 (by decide) (hT _ kw_2_3) (fun _ h9 => h9) rfl dX7_workOutCosts_54 ?_
      replace h := tx_ck h
      obtain ⟨g14, h⟩ := h
      have eg14 := of_decide_eq_true g14
      subst eg14
      replace h := tx_bd h
      obtain ⟨⟨Tu_15, L_16⟩, hc17, h⟩ := h
      replace h := tx_let (y := Tu_15) rfl h
      replace h := tx_let (y := L_16) rfl h
      refine tw_cv pX_ua hP hD hS hA (va_runV (As := []) (rest := []) ⟨hx, hb, hml, hown, hT⟩ (c_X6_runToEnd l G cA H.size ua pa Tu_13 P L  Tu_15 L_16 hc17) (cwV 0 hT (tq_gV kw_47_10 kw_47_11 kw_47_12 kw_1_23 kw_47_13) rfl rfl rfl dkdV_yX6_runToEnd_0 ⟨Nat.le_of_ble_eq_true rfl, Nat.le_of_ble_eq_true rfl⟩) ⟨(tw_pre pX_ua hP hD hK hN).1, va_recv hK hP (ci := 6) (q0 := 77) rfl rfl, (tw_pre pX_ua hP hD hK hN).2⟩ rfl rfl hl.1 rfl (lv_room (Nat.le_of_ble_eq_true rfl)) dX7_workOutCosts_57 ⟨Nat.le_of_ble_eq_true rfl, Nat.le_of_ble_eq_true rfl⟩) (fun _ H locs z18 hP hD hS => ?_)
      replace hP := tw_P pX_ua.symm hP
      replace hD := tw_D pX_ua.symm hD
      have hP : va_P G vwCl (wX cA xa ka ra na ia ua va ca za pa qa X K R P L_16 P2 L2 Tn Ti Tu_15 Tv C Z q0 q1 (pa 0) q3 (pa 0) q5) H := hP
      have hD : va_D A (wX cA xa ka ra na ia ua va ca za pa qa X K R P L_16 P2 L2 Tn Ti Tu_15 Tv C Z q0 q1 (pa 0) q3 (pa 0) q5) := hD
      refine lv_aload_n hx hb dX7_workOutCosts_60 rfl (lv_at hl 0 rfl) ?_
      refine va_get (D := G) (ci := 7) (v := .ref (xa 11)) (C := RX7) (T := TX7) (N := 12) hx hb hT ku_7 hown hK hP 0 rfl rfl 10 (by decide) (hT _ kw_2_15) (fun _ h9 => h9) rfl dX7_workOutCosts_61 ?_
      refine lv_iload_n hx hb dX7_workOutCosts_64 rfl (lv_at hl 3 rfl) ?_
      refine lv_iconst (v := 5) hx hb dX7_workOutCosts_65 (by decide) ?_
      refine lv_imul hx hb dX7_workOutCosts_66 ?_
      refine lv_iload hx hb dX7_workOutCosts_67 (lv_at hl 4 rfl) ?_
      refine lv_iadd hx hb dX7_workOutCosts_69 ?_
      refine lv_aload_n hx hb dX7_workOutCosts_70 rfl (lv_at hl 0 rfl) ?_
      refine lv_iload_n hx hb dX7_workOutCosts_71 rfl (lv_at hl 1 rfl) ?_
      replace h := tx_bd h
      obtain ⟨r19, hc20, h⟩ := h
      refine tz_i (As := [.int x1]) (rest := [.int ((x3 * 5) + x4), .ref (xa 11)]) ⟨hx, hb, hml, hown, hT⟩ hP hD hS hA hK hN (c_X7_costOf l G cA H.size xa ka ra na ia ua va ca za pa qa X K R P L_16 P2 L2 Tn Ti Tu_15 Tv C Z q0 q1 (pa 0) q3 (pa 0) q5 x1  r19 hc20) (tq_gV kw_50_1 kw_50_2 kw_50_3 kw_1_2 kw_50_4) rfl rfl dkdV_yX7_costOf_1 (Nat.le_of_ble_eq_true rfl) (Nat.le_of_ble_eq_true rfl) (ci := 7) (q0 := 0) rfl rfl rfl hl.1 rfl (Nat.le_of_ble_eq_true rfl) dX7_workOutCosts_72 ⟨Nat.le_of_ble_eq_true rfl, Nat.le_of_ble_eq_true rfl⟩ (fun _ _ H locs z21 hP hD hS => ?_)
      have z21 := z21.symm
      subst z21
      have hP : va_P G vwCl (wX cA xa ka ra na ia ua va ca za pa qa X K R P L_16 P2 L2 Tn Ti Tu_15 Tv C Z q0 q1 (pa 0) q3 (pa 0) q5) H := hP
      have hD : va_D A (wX cA xa ka ra na ia ua va ca za pa qa X K R P L_16 P2 L2 Tn Ti Tu_15 Tv C Z q0 q1 (pa 0) q3 (pa 0) q5) := hD
      replace h := tx_ck h
      obtain ⟨g22, h⟩ := h
      refine va_iast (i := ((x3 * 5) + x4)) hx hb hK hP hD hS 2 0 rfl rfl (tx_in g22) dX7_workOutCosts_75 (fun H locs hP hD hS => ?_)
      replace h := tx_lt h
      obtain ⟨X_23, eX_23, h⟩ := h
      rw [sX_xa_a10, eX_23] at hP hD
      refine lv_aload_n hx hb dX7_workOutCosts_76 rfl (lv_at hl 0 rfl) ?_
      refine va_get (D := G) (ci := 7) (v := .ref (xa 12)) (C := RX7) (T := TX7) (N := 12) hx hb hT ku_7 hown hK hP 0 rfl rfl 11 (by decide) (hT _ kw_2_16) (fun _ h9 => h9) rfl dX7_workOutCosts_77 ?_
      refine lv_iload_n hx hb dX7_workOutCosts_80 rfl (lv_at hl 3 rfl) ?_
      refine lv_iconst (v := 5) hx hb dX7_workOutCosts_81 (by decide) ?_
      refine lv_imul hx hb dX7_workOutCosts_82 ?_
      refine lv_iload hx hb dX7_workOutCosts_83 (lv_at hl 4 rfl) ?_
      refine lv_iadd hx hb dX7_workOutCosts_85 ?_
      refine lv_aload_n hx hb dX7_workOutCosts_86 rfl (lv_at hl 0 rfl) ?_
      refine lv_iload_n hx hb dX7_workOutCosts_87 rfl (lv_at hl 2 rfl) ?_
      replace h := tx_bd h
      obtain ⟨r24, hc25, h⟩ := h
      refine tz_i (As := [.int x2]) (rest := [.int ((x3 * 5) + x4), .ref (xa 12)]) ⟨hx, hb, hml, hown, hT⟩ hP hD hS hA hK hN (c_X7_costOf l G cA H.size xa ka ra na ia ua va ca za pa qa X_23 K R P L_16 P2 L2 Tn Ti Tu_15 Tv C Z q0 q1 (pa 0) q3 (pa 0) q5 x2  r24 hc25) (tq_gV kw_50_1 kw_50_2 kw_50_3 kw_1_2 kw_50_4) rfl rfl dkdV_yX7_costOf_1 (Nat.le_of_ble_eq_true rfl) (Nat.le_of_ble_eq_true rfl) (ci := 7) (q0 := 0) rfl rfl rfl hl.1 rfl (Nat.le_of_ble_eq_true rfl) dX7_workOutCosts_88 ⟨Nat.le_of_ble_eq_true rfl, Nat.le_of_ble_eq_true rfl⟩ (fun _ _ H locs z26 hP hD hS => ?_)
      have z26 := z26.symm
      subst z26
      have hP : va_P G vwCl (wX cA xa ka ra na ia ua va ca za pa qa X_23 K R P L_16 P2 L2 Tn Ti Tu_15 Tv C Z q0 q1 (pa 0) q3 (pa 0) q5) H := hP
      have hD : va_D A (wX cA xa ka ra na ia ua va ca za pa qa X_23 K R P L_16 P2 L2 Tn Ti Tu_15 Tv C Z q0 q1 (pa 0) q3 (pa 0) q5) := hD
      refine va_iast (i := ((x3 * 5) + x4)) hx hb hK hP hD hS 3 0 rfl rfl (tx_in g22) dX7_workOutCosts_91 (fun H locs hP hD hS => ?_)
      replace h := tx_lt h
      obtain ⟨X_27, eX_27, h⟩ := h
      rw [sX_xa_a11, eX_27] at hP hD
      replace h := tx_lt h
      obtain ⟨y28, ey28, h⟩ := h
      refine lv_iinc (v := y28) (lv' := [(4, .int y28), (0, .ref (xa 0)), (1, .int x1), (2, .int x2), (3, .int x3)]) hx hb dX7_workOutCosts_92 hl (k := 4) rfl ey28 (by decide) rfl (fun ls hl => ?_)
      refine lv_goto (tgt := 16) hx hb dX7_workOutCosts_95 (by decide) ?_
      exact hk16 y28 X_27 L_16 Tu_15 (pa 0) H locs ls h hP hD hS (lv_sub hl [1, 2, 3, 4, 0] rfl)
set_option maxHeartbeats 4000000 in
set_option maxRecDepth 100000 in
theorem w_X7_workOutCosts_L2 {p : Program} {l : Launch} {e : Env} {s : State} {m : MethodId} {below : List Frame} {meth : Method} {c : Code} {G : va_G} {cA : Nat → ClassId} {A : Nat → Prop} {xa : Nat → Nat} {ka : Nat → Nat} {ra : Nat → Nat} {na : Nat → Nat} {ia : Nat → Nat} {ua : Nat → Nat} {va : Nat → Nat} {ca : Nat → Nat} {za : Nat → Nat} {pa : Nat → Nat} {qa : Nat → Nat} {K : Tr} {R : Tr} {P : Tr} {P2 : Tr} {L2 : Lo} {Tn : Tr} {Ti : Tr} {Tv : Tr} {C : Tr} {Z : Tr} {q0 : Nat} {q1 : Nat} {q3 : Nat} {q4 : Nat} {q5 : Nat} {x1₀ : Int32} {x2₀ : Int32} {X' : Tr} {L' : Lo} {Tu' : Tr} {q2' : Nat} {x1 : Int32} {x2 : Int32} (F : tF p s m ([.ref (xa 0), .int x1₀, .int x2₀] : List Value).toArray meth c G cA A RX7 cX7_workOutCosts 5 none)    (N : Nat) : ∀ (x3 : Int32) (X : Tr) (L : Lo) (Tu : Tr) (q2 : Nat) (H : Heap) (locs : List Loc) (ls : Array Slot), lpF (fun _ _ _ _ _ => none) (fB_X7_workOutCosts_L2 pa qa P Tn q0 q4 x1 x2) N x3 X L Tu q2 = some (X', L', Tu', q2') → va_P G vwCl (wX cA xa ka ra na ia ua va ca za pa qa X K R P L P2 L2 Tn Ti Tu Tv C Z q0 q1 q2 q3 q4 q5) H → va_D A (wX cA xa ka ra na ia ua va ca za pa qa X K R P L P2 L2 Tn Ti Tu Tv C Z q0 q1 q2 q3 q4 q5) → va_S A s.heap H locs → lv_has ls 5 [(0, .ref (xa 0)), (1, .int x1), (2, .int x2), (3, .int x3)] → G_X7_workOutCosts p l e s m below meth c G cA A xa ka ra na ia ua va ca za pa qa K R P P2 L2 Tn Ti Tv C Z q0 q1 q3 q4 q5 x1₀ x2₀ X' L' Tu' q2' H locs (F0 m 2 ls []) := by
  obtain ⟨hx, hb, hr, hml, hT, hown, hlocks, hK, hN, hA⟩ := id F
  induction N with
  | zero =>
    intro x3 X L Tu q2 H locs ls h
    replace h : (none : Option (Tr × Lo × Tr × Nat)) = some (X', L', Tu', q2') := h
    cases h
  | succ N hk2 =>
    intro x3 X L Tu q2 H locs ls h hP hD hS hl
    replace h : fB_X7_workOutCosts_L2 pa qa P Tn q0 q4 x1 x2 (lpF (fun _ _ _ _ _ => none) (fB_X7_workOutCosts_L2 pa qa P Tn q0 q4 x1 x2) N) x3 X L Tu q2 = some (X', L', Tu', q2') := h
    generalize hk2e : lpF (fun _ _ _ _ _ => none) (fB_X7_workOutCosts_L2 pa qa P Tn q0 q4 x1 x2) N = k2 at h hk2
    unfold fB_X7_workOutCosts_L2 at h
    refine lv_iload_n hx hb dX7_workOutCosts_2 rfl (lv_at hl 3 rfl) ?_
    refine lv_aload_n hx hb dX7_workOutCosts_3 rfl (lv_at hl 0 rfl) ?_
    refine va_get (D := G) (ci := 7) (v := .ref q4) (C := RX7) (T := TX7) (N := 12) hx hb hT ku_7 hown hK hP 0 rfl rfl 1 (by decide) (hT _ kw_1_20) (fun _ h9 => h9) rfl dX7_workOutCosts_4 ?_
    replace h := tx_ck h
    obtain ⟨g1, h⟩ := h
    have eg1 := of_decide_eq_true g1
    subst eg1
    refine va_get (D := G) (ci := 2) (v := .int (P 0 0)) (C := RX2) (T := TX2) (N := 19) hx hb hT ku_2 hown hK hP 9 rfl rfl 0 (by decide) (hT _ kw_32_2) (fun _ h9 => h9) rfl dX7_workOutCosts_7 ?_
    refine lv_icmp_ge (tgt := 104) hx hb dX7_workOutCosts_10 (by decide) (fun c2 => ?_) (fun c2 => ?_)
    · replace h := tx_pos c2 h
      obtain ⟨rfl, rfl, rfl, rfl⟩ := tx_4 h
      exact W.vret hx hb hr (fun t ht hW => ⟨⟨(), rfl, trivial, by rw [ht]; exact hP, hD⟩, hS.F ht⟩) hS.2.2 dX7_workOutCosts_104
    · replace h := tx_neg c2 h
      refine lv_iconst (v := 0) hx hb dX7_workOutCosts_13 (by decide) ?_
      refine lv_istore (lv' := [(4, .int 0), (0, .ref (xa 0)), (1, .int x1), (2, .int x2), (3, .int x3)]) hx hb dX7_workOutCosts_14 hl (by decide) rfl (fun ls hl => ?_)
      exact w_X7_workOutCosts_L16 F k2 hk2 2000 0 X L Tu q2 H locs ls h hP hD hS (lv_sub hl [1, 2, 3, 4, 0] rfl)
set_option maxHeartbeats 4000000 in
set_option maxRecDepth 100000 in
theorem c_X7_workOutCosts (l : Launch) (G : va_G) (cA : Nat → ClassId) (sz : Nat) (xa : Nat → Nat) (ka : Nat → Nat) (ra : Nat → Nat) (na : Nat → Nat) (ia : Nat → Nat) (ua : Nat → Nat) (va : Nat → Nat) (ca : Nat → Nat) (za : Nat → Nat) (pa : Nat → Nat) (qa : Nat → Nat) (X : Tr) (K : Tr) (R : Tr) (P : Tr) (L : Lo) (P2 : Tr) (L2 : Lo) (Tn : Tr) (Ti : Tr) (Tu : Tr) (Tv : Tr) (C : Tr) (Z : Tr) (q0 : Nat) (q1 : Nat) (q2 : Nat) (q3 : Nat) (q4 : Nat) (q5 : Nat) (x1 : Int32) (x2 : Int32)  (X' : Tr) (L' : Lo) (Tu' : Tr) (q2' : Nat) (h : f_X7_workOutCosts pa qa X P L Tn Tu q0 q2 q4 x1 x2 = some (X', L', Tu', q2')) : Met l yX7_workOutCosts (.code yX7_workOutCosts cX7_workOutCosts 5 none :: T0) ({ frames := 6, cells := 0, slots := 0, locals := 153 } : Room) (tqP G cA [.ref (xa 0), .int x1, .int x2] (wX cA xa ka ra na ia ua va ca za pa qa X K R P L P2 L2 Tn Ti Tu Tv C Z q0 q1 q2 q3 q4 q5) sz) (tqQv G cA (fun (_ : Unit) => True) (fun (_ : Unit) => wX cA xa ka ra na ia ua va ca za pa qa (X') K R P (L') P2 L2 Tn Ti (Tu') Tv C Z q0 q1 (q2') q3 q4 q5) (va_A (wX cA xa ka ra na ia ua va ca za pa qa X K R P L P2 L2 Tn Ti Tu Tv C Z q0 q1 q2 q3 q4 q5) sz)) 0 0 (va_A (wX cA xa ka ra na ia ua va ca za pa qa X K R P L P2 L2 Tn Ti Tu Tv C Z q0 q1 q2 q3 q4 q5) sz) := by
  refine Met.ofW (cc := cX7_workOutCosts) (maxL := 5) (ret := none) (by decide) rfl ?_
  intro p e s m args below meth c s₁ B hml hv
  obtain ⟨rfl, hsz, hP, hK, hD0, hN⟩ := hv
  have hx := B.exec
  have hb := B.bytes
  have hr := B.returns
  have hts := atoms_spec (ws := .code yX7_workOutCosts cX7_workOutCosts 5 none :: T0) B.pre
  have hT : ∀ w ∈ T0, w.before _ s = true := fun w h => hts w (List.mem_cons_of_mem _ h)
  have hown : s.vm.findClass RX7 = some m.cls := findClass_of_methodNamed B.named
  have hlocks := B.notSynchronized
  subst hsz
  have hD := hD0.self (sz := s.heap.size)
  generalize hAe : va_A (wX cA xa ka ra na ia ua va ca za pa qa X K R P L P2 L2 Tn Ti Tu Tv C Z q0 q1 q2 q3 q4 q5) s.heap.size = A at hD ⊢
  have hA : ∀ q : Nat, s.heap.size ≤ q → A q := fun q h => by rw [← hAe]; exact Or.inr h
  have hS : va_S A s.heap s.heap [] := va_S.rf
  have hl := lv_entry ([.ref (xa 0), .int x1, .int x2]) (n := 5) (Nat.le_of_ble_eq_true rfl)
  rw [lg_entry_eq]
  generalize (lg_sl ([.ref (xa 0), .int x1, .int x2]) ++ List.replicate (5 - (lg_sl ([.ref (xa 0), .int x1, .int x2])).length) Slot.unset).toArray = ls at hl ⊢
  have hl : lv_has ls 5 [(0, .ref (xa 0)), (1, .int x1), (2, .int x2)] := hl
  have F : tF p s m ([.ref (xa 0), .int x1, .int x2] : List Value).toArray meth c G cA A RX7 cX7_workOutCosts 5 none := ⟨hx, hb, hr, hml, hT, hown, hlocks, hK, hN, hA⟩
  obtain ⟨H, hH⟩ : ∃ z, z = s.heap := ⟨_, rfl⟩
  rw [← hH] at hP
  have hS : va_S A s.heap H [] := by rw [hH]; exact hS
  suffices hgo : G_X7_workOutCosts p l e s m below meth c G cA A xa ka ra na ia ua va ca za pa qa K R P P2 L2 Tn Ti Tv C Z q0 q1 q3 q4 q5 x1 x2 X' L' Tu' q2' H [] (F0 m 0 ls []) by rw [hH] at hgo; exact hgo
  generalize ([] : List Loc) = locs at hS ⊢
  unfold f_X7_workOutCosts at h
  refine lv_iconst (v := 0) hx hb dX7_workOutCosts_0 (by decide) ?_
  refine lv_istore_n (lv' := [(3, .int 0), (0, .ref (xa 0)), (1, .int x1), (2, .int x2)]) hx hb dX7_workOutCosts_1 rfl hl (by decide) rfl (fun ls hl => ?_)
  exact w_X7_workOutCosts_L2 F 2000 0 X L Tu q2 H locs ls h hP hD hS (lv_sub hl [1, 2, 3, 0] rfl)
abbrev G_X7_rest (p : Program) (l : Launch) (e : Env) (s : State) (m : MethodId) (below : List Frame) (meth : Method) (c : Code) (G : va_G) (cA : Nat → ClassId) (A : Nat → Prop) (xa : Nat → Nat) (ka : Nat → Nat) (ra : Nat → Nat) (na : Nat → Nat) (ia : Nat → Nat) (ua : Nat → Nat) (va : Nat → Nat) (ca : Nat → Nat) (za : Nat → Nat) (pa : Nat → Nat) (qa : Nat → Nat) (K : Tr) (R : Tr) (P : Tr) (P2 : Tr) (L2 : Lo) (Tn : Tr) (Ti : Tr) (Tv : Tr) (C : Tr) (Z : Tr) (q0 : Nat) (q1 : Nat) (q3 : Nat) (q4 : Nat) (q5 : Nat) (x1 : Int32) (x2 : Int32) (x3 : Int32) (r0 : Int32) (X' : Tr) (L' : Lo) (Tu' : Tr) (q2' : Nat) (H : Heap) (locs : List Loc) (g : JFrame) : Prop := W p l e (headSpec (.code yX7_rest cX7_rest 6 (some .int) :: T0) ({ frames := 7, cells := 0, slots := 0, locals := 177 } : Room)).room s m ([.ref (xa 0), .int x1, .int x2, .int x3] : List Value).toArray below meth c H locs 0 0 (MQ below (tqQi G cA (fun (r : Int32) (_ : Unit) => r = r0) (fun (_ : Unit) => wX cA xa ka ra na ia ua va ca za pa qa (X') K R P (L') P2 L2 Tn Ti (Tu') Tv C Z q0 q1 (q2') q3 q4 q5) A) ([.ref (xa 0), .int x1, .int x2, .int x3] : List Value).toArray s 0 0 A) g
set_option maxHeartbeats 4000000 in
set_option maxRecDepth 100000 in
theorem w_X7_rest_J49 {p : Program} {l : Launch} {e : Env} {s : State} {m : MethodId} {below : List Frame} {meth : Method} {c : Code} {G : va_G} {cA : Nat → ClassId} {A : Nat → Prop} {xa : Nat → Nat} {ka : Nat → Nat} {ra : Nat → Nat} {na : Nat → Nat} {ia : Nat → Nat} {ua : Nat → Nat} {va : Nat → Nat} {ca : Nat → Nat} {za : Nat → Nat} {pa : Nat → Nat} {qa : Nat → Nat} {K : Tr} {R : Tr} {P : Tr} {P2 : Tr} {L2 : Lo} {Tn : Tr} {Ti : Tr} {Tv : Tr} {C : Tr} {Z : Tr} {q0 : Nat} {q1 : Nat} {q3 : Nat} {q4 : Nat} {q5 : Nat} {x1₀ : Int32} {x2₀ : Int32} {x3₀ : Int32} {r0 : Int32} {X' : Tr} {L' : Lo} {Tu' : Tr} {q2' : Nat} (F : tF p s m ([.ref (xa 0), .int x1₀, .int x2₀, .int x3₀] : List Value).toArray meth c G cA A RX7 cX7_rest 6 (some .int))    (x5 : Int32) (X : Tr) (L : Lo) (Tu : Tr) (q2 : Nat) (H : Heap) (locs : List Loc) (ls : Array Slot) (h : fJ_X7_rest_J49 pa qa P Tn q0 q4 x5 X L Tu q2 = some (r0, X', L', Tu', q2')) (hP : va_P G vwCl (wX cA xa ka ra na ia ua va ca za pa qa X K R P L P2 L2 Tn Ti Tu Tv C Z q0 q1 q2 q3 q4 q5) H) (hD : va_D A (wX cA xa ka ra na ia ua va ca za pa qa X K R P L P2 L2 Tn Ti Tu Tv C Z q0 q1 q2 q3 q4 q5)) (hS : va_S A s.heap H locs) (hl : lv_has ls 6 [(5, .int x5)]) : G_X7_rest p l e s m below meth c G cA A xa ka ra na ia ua va ca za pa qa K R P P2 L2 Tn Ti Tv C Z q0 q1 q3 q4 q5 x1₀ x2₀ x3₀ r0 X' L' Tu' q2' H locs (F0 m 49 ls []) := by
  obtain ⟨hx, hb, hr, hml, hT, hown, hlocks, hK, hN, hA⟩ := id F
  unfold fJ_X7_rest_J49 at h
  refine lv_iload hx hb dX7_rest_49 (lv_at hl 0 rfl) ?_
  refine lv_iconst (v := 5) hx hb dX7_rest_51 (by decide) ?_
  refine lv_idiv hx hb dX7_rest_52 (by decide) ?_
  refine lv_bipush (v := 10) hx hb dX7_rest_53 (by decide) ?_
  refine lv_imul hx hb dX7_rest_55 ?_
  refine lv_iload hx hb dX7_rest_56 (lv_at hl 0 rfl) ?_
  refine lv_iconst (v := 5) hx hb dX7_rest_58 (by decide) ?_
  refine lv_irem hx hb dX7_rest_59 (by decide) ?_
  refine lv_iadd hx hb dX7_rest_60 ?_
  obtain ⟨rfl, rfl, rfl, rfl, rfl⟩ := tx_5 h
  exact W.iret hx hb hr (fun t ht hW => ⟨⟨_, (), rfl, rfl, by rw [ht]; exact hP, hD⟩, hS.F ht⟩) hS.2.2 dX7_rest_61
set_option maxHeartbeats 4000000 in
set_option maxRecDepth 100000 in
theorem w_X7_rest_L27 {p : Program} {l : Launch} {e : Env} {s : State} {m : MethodId} {below : List Frame} {meth : Method} {c : Code} {G : va_G} {cA : Nat → ClassId} {A : Nat → Prop} {xa : Nat → Nat} {ka : Nat → Nat} {ra : Nat → Nat} {na : Nat → Nat} {ia : Nat → Nat} {ua : Nat → Nat} {va : Nat → Nat} {ca : Nat → Nat} {za : Nat → Nat} {pa : Nat → Nat} {qa : Nat → Nat} {K : Tr} {R : Tr} {P : Tr} {P2 : Tr} {L2 : Lo} {Tn : Tr} {Ti : Tr} {Tv : Tr} {C : Tr} {Z : Tr} {q0 : Nat} {q1 : Nat} {q3 : Nat} {q4 : Nat} {q5 : Nat} {x1₀ : Int32} {x2₀ : Int32} {x3₀ : Int32} {r0 : Int32} {X' : Tr} {L' : Lo} {Tu' : Tr} {q2' : Nat} {X : Tr} {L : Lo} {Tu : Tr} {q2 : Nat} {x3 : Int32} (F : tF p s m ([.ref (xa 0), .int x1₀, .int x2₀, .int x3₀] : List Value).toArray meth c G cA A RX7 cX7_rest 6 (some .int))    (N : Nat) : ∀ (x4 : Int32) (x5 : Int32) (H : Heap) (locs : List Loc) (ls : Array Slot), lpF (fun _ _ => none) (fB_X7_rest_L27 pa qa X P L Tn Tu q0 q2 q4 x3) N x4 x5 = some (r0, X', L', Tu', q2') → va_P G vwCl (wX cA xa ka ra na ia ua va ca za pa qa X K R P L P2 L2 Tn Ti Tu Tv C Z q0 q1 q2 q3 q4 q5) H → va_D A (wX cA xa ka ra na ia ua va ca za pa qa X K R P L P2 L2 Tn Ti Tu Tv C Z q0 q1 q2 q3 q4 q5) → va_S A s.heap H locs → lv_has ls 6 [(0, .ref (xa 0)), (3, .int x3), (4, .int x4), (5, .int x5)] → G_X7_rest p l e s m below meth c G cA A xa ka ra na ia ua va ca za pa qa K R P P2 L2 Tn Ti Tv C Z q0 q1 q3 q4 q5 x1₀ x2₀ x3₀ r0 X' L' Tu' q2' H locs (F0 m 27 ls []) := by
  obtain ⟨hx, hb, hr, hml, hT, hown, hlocks, hK, hN, hA⟩ := id F
  induction N with
  | zero =>
    intro x4 x5 H locs ls h
    replace h : (none : Option (Int32 × Tr × Lo × Tr × Nat)) = some (r0, X', L', Tu', q2') := h
    cases h
  | succ N hk27 =>
    intro x4 x5 H locs ls h hP hD hS hl
    replace h : fB_X7_rest_L27 pa qa X P L Tn Tu q0 q2 q4 x3 (lpF (fun _ _ => none) (fB_X7_rest_L27 pa qa X P L Tn Tu q0 q2 q4 x3) N) x4 x5 = some (r0, X', L', Tu', q2') := h
    generalize hk27e : lpF (fun _ _ => none) (fB_X7_rest_L27 pa qa X P L Tn Tu q0 q2 q4 x3) N = k27 at h hk27
    unfold fB_X7_rest_L27 at h
    refine lv_iload hx hb dX7_rest_27 (lv_at hl 3 rfl) ?_
    refine lv_bipush (v := 25) hx hb dX7_rest_29 (by decide) ?_
    refine lv_icmp_ge (tgt := 71) hx hb dX7_rest_31 (by decide) (fun c12 => ?_) (fun c12 => ?_)
    · replace h := tx_pos c12 h
      refine lv_bipush (v := (-2)) hx hb dX7_rest_71 (by decide) ?_
      obtain ⟨rfl, rfl, rfl, rfl, rfl⟩ := tx_5 h
      exact W.iret hx hb hr (fun t ht hW => ⟨⟨_, (), rfl, rfl, by rw [ht]; exact hP, hD⟩, hS.F ht⟩) hS.2.2 dX7_rest_73
    · replace h := tx_neg c12 h
      refine lv_aload_n hx hb dX7_rest_34 rfl (lv_at hl 0 rfl) ?_
      refine lv_iload hx hb dX7_rest_35 (lv_at hl 3 rfl) ?_
      replace h := tx_bd h
      obtain ⟨r13, hc14, h⟩ := h
      refine tz_i (As := [.int x5]) (rest := []) ⟨hx, hb, hml, hown, hT⟩ hP hD hS hA hK hN (c_X7_isRest l G cA H.size xa ka ra na ia ua va ca za pa qa X K R P L P2 L2 Tn Ti Tu Tv C Z q0 q1 q2 q3 q4 q5 x5  r13 hc14) (tq_gV kw_50_5 kw_50_6 kw_50_7 kw_1_2 kw_50_8) rfl rfl dkdV_yX7_isRest_1 (Nat.le_of_ble_eq_true rfl) (Nat.le_of_ble_eq_true rfl) (ci := 7) (q0 := 0) rfl rfl rfl hl.1 rfl (Nat.le_of_ble_eq_true rfl) dX7_rest_37 ⟨Nat.le_of_ble_eq_true rfl, Nat.le_of_ble_eq_true rfl⟩ (fun _ _ H locs z15 hP hD hS => ?_)
      have z15 := z15.symm
      subst z15
      have hP : va_P G vwCl (wX cA xa ka ra na ia ua va ca za pa qa X K R P L P2 L2 Tn Ti Tu Tv C Z q0 q1 q2 q3 q4 q5) H := hP
      have hD : va_D A (wX cA xa ka ra na ia ua va ca za pa qa X K R P L P2 L2 Tn Ti Tu Tv C Z q0 q1 q2 q3 q4 q5) := hD
      refine lv_if_eq (tgt := 65) hx hb dX7_rest_40 (by decide) (fun c16 => ?_) (fun c16 => ?_)
      · replace h := tx_pos c16 h
        replace h := tx_lt h
        obtain ⟨y17, ey17, h⟩ := h
        refine lv_iinc (v := y17) (lv' := [(5, .int y17), (0, .ref (xa 0)), (3, .int x3), (4, .int x4)]) hx hb dX7_rest_65 hl (k := 3) rfl ey17 (by decide) rfl (fun ls hl => ?_)
        refine lv_goto (tgt := 27) hx hb dX7_rest_68 (by decide) ?_
        exact hk27 x4 y17 H locs ls h hP hD hS (lv_sub hl [1, 2, 3, 0] rfl)
      · replace h := tx_neg c16 h
        refine lv_iload hx hb dX7_rest_43 (lv_at hl 2 rfl) ?_
        refine lv_iload_n hx hb dX7_rest_45 rfl (lv_at hl 1 rfl) ?_
        refine lv_icmp_ne (tgt := 62) hx hb dX7_rest_46 (by decide) (fun c18 => ?_) (fun c18 => ?_)
        · replace h := tx_neg c18 h
          replace h := tx_lt h
          obtain ⟨y19, ey19, h⟩ := h
          refine lv_iinc (v := y19) (lv' := [(4, .int y19), (0, .ref (xa 0)), (3, .int x3), (5, .int x5)]) hx hb dX7_rest_62 hl (k := 2) rfl ey19 (by decide) rfl (fun ls hl => ?_)
          replace h := tx_lt h
          obtain ⟨y20, ey20, h⟩ := h
          refine lv_iinc (v := y20) (lv' := [(5, .int y20), (4, .int y19), (0, .ref (xa 0)), (3, .int x3)]) hx hb dX7_rest_65 hl (k := 3) rfl ey20 (by decide) rfl (fun ls hl => ?_)
          refine lv_goto (tgt := 27) hx hb dX7_rest_68 (by decide) ?_
          exact hk27 y19 y20 H locs ls h hP hD hS (lv_sub hl [2, 3, 1, 0] rfl)
        · replace h := tx_pos c18 h
          exact w_X7_rest_J49 F x5 X L Tu q2 H locs ls h hP hD hS (lv_sub hl [3] rfl)
set_option maxHeartbeats 4000000 in
set_option maxRecDepth 100000 in
theorem c_X7_rest (l : Launch) (G : va_G) (cA : Nat → ClassId) (sz : Nat) (xa : Nat → Nat) (ka : Nat → Nat) (ra : Nat → Nat) (na : Nat → Nat) (ia : Nat → Nat) (ua : Nat → Nat) (va : Nat → Nat) (ca : Nat → Nat) (za : Nat → Nat) (pa : Nat → Nat) (qa : Nat → Nat) (X : Tr) (K : Tr) (R : Tr) (P : Tr) (L : Lo) (P2 : Tr) (L2 : Lo) (Tn : Tr) (Ti : Tr) (Tu : Tr) (Tv : Tr) (C : Tr) (Z : Tr) (q0 : Nat) (q1 : Nat) (q2 : Nat) (q3 : Nat) (q4 : Nat) (q5 : Nat) (x1 : Int32) (x2 : Int32) (x3 : Int32)  (r0 : Int32) (X' : Tr) (L' : Lo) (Tu' : Tr) (q2' : Nat) (h : f_X7_rest pa qa X P L Tn Tu q0 q2 q4 x1 x2 x3 = some (r0, X', L', Tu', q2')) : Met l yX7_rest (.code yX7_rest cX7_rest 6 (some .int) :: T0) ({ frames := 7, cells := 0, slots := 0, locals := 177 } : Room) (tqP G cA [.ref (xa 0), .int x1, .int x2, .int x3] (wX cA xa ka ra na ia ua va ca za pa qa X K R P L P2 L2 Tn Ti Tu Tv C Z q0 q1 q2 q3 q4 q5) sz) (tqQi G cA (fun (r : Int32) (_ : Unit) => r = r0) (fun (_ : Unit) => wX cA xa ka ra na ia ua va ca za pa qa (X') K R P (L') P2 L2 Tn Ti (Tu') Tv C Z q0 q1 (q2') q3 q4 q5) (va_A (wX cA xa ka ra na ia ua va ca za pa qa X K R P L P2 L2 Tn Ti Tu Tv C Z q0 q1 q2 q3 q4 q5) sz)) 0 0 (va_A (wX cA xa ka ra na ia ua va ca za pa qa X K R P L P2 L2 Tn Ti Tu Tv C Z q0 q1 q2 q3 q4 q5) sz) := by
  refine Met.ofW (cc := cX7_rest) (maxL := 6) (ret := (some .int)) (by decide) rfl ?_
  intro p e s m args below meth c s₁ B hml hv
  obtain ⟨rfl, hsz, hP, hK, hD0, hN⟩ := hv
  have hx := B.exec
  have hb := B.bytes
  have hr := B.returns
  have hts := atoms_spec (ws := .code yX7_rest cX7_rest 6 (some .int) :: T0) B.pre
  have hT : ∀ w ∈ T0, w.before _ s = true := fun w h => hts w (List.mem_cons_of_mem _ h)
  have hown : s.vm.findClass RX7 = some m.cls := findClass_of_methodNamed B.named
  have hlocks := B.notSynchronized
  subst hsz
  have hD := hD0.self (sz := s.heap.size)
  generalize hAe : va_A (wX cA xa ka ra na ia ua va ca za pa qa X K R P L P2 L2 Tn Ti Tu Tv C Z q0 q1 q2 q3 q4 q5) s.heap.size = A at hD ⊢
  have hA : ∀ q : Nat, s.heap.size ≤ q → A q := fun q h => by rw [← hAe]; exact Or.inr h
  have hS : va_S A s.heap s.heap [] := va_S.rf
  have hl := lv_entry ([.ref (xa 0), .int x1, .int x2, .int x3]) (n := 6) (Nat.le_of_ble_eq_true rfl)
  rw [lg_entry_eq]
  generalize (lg_sl ([.ref (xa 0), .int x1, .int x2, .int x3]) ++ List.replicate (6 - (lg_sl ([.ref (xa 0), .int x1, .int x2, .int x3])).length) Slot.unset).toArray = ls at hl ⊢
  have hl : lv_has ls 6 [(0, .ref (xa 0)), (1, .int x1), (2, .int x2), (3, .int x3)] := hl
  have F : tF p s m ([.ref (xa 0), .int x1, .int x2, .int x3] : List Value).toArray meth c G cA A RX7 cX7_rest 6 (some .int) := ⟨hx, hb, hr, hml, hT, hown, hlocks, hK, hN, hA⟩
  obtain ⟨H, hH⟩ : ∃ z, z = s.heap := ⟨_, rfl⟩
  rw [← hH] at hP
  have hS : va_S A s.heap H [] := by rw [hH]; exact hS
  suffices hgo : G_X7_rest p l e s m below meth c G cA A xa ka ra na ia ua va ca za pa qa K R P P2 L2 Tn Ti Tv C Z q0 q1 q3 q4 q5 x1 x2 x3 r0 X' L' Tu' q2' H [] (F0 m 0 ls []) by rw [hH] at hgo; exact hgo
  generalize ([] : List Loc) = locs at hS ⊢
  unfold f_X7_rest at h
  refine lv_iload_n hx hb dX7_rest_0 rfl (lv_at hl 3 rfl) ?_
  refine lv_if_lt (tgt := 13) hx hb dX7_rest_1 (by decide) (fun c1 => ?_) (fun c1 => ?_)
  · replace h := tx_pos c1 h
    refine lv_iconst (v := (-1)) hx hb dX7_rest_13 (by decide) ?_
    obtain ⟨rfl, rfl, rfl, rfl, rfl⟩ := tx_5 h
    exact W.iret hx hb hr (fun t ht hW => ⟨⟨_, (), rfl, rfl, by rw [ht]; exact hP, hD⟩, hS.F ht⟩) hS.2.2 dX7_rest_14
  · replace h := tx_neg c1 h
    refine lv_aload_n hx hb dX7_rest_4 rfl (lv_at hl 0 rfl) ?_
    refine lv_iload_n hx hb dX7_rest_5 rfl (lv_at hl 1 rfl) ?_
    refine lv_iload_n hx hb dX7_rest_6 rfl (lv_at hl 2 rfl) ?_
    replace h := tx_bd h
    obtain ⟨r2, hc3, h⟩ := h
    refine tz_i (As := [.int x1, .int x2]) (rest := []) ⟨hx, hb, hml, hown, hT⟩ hP hD hS hA hK hN (c_X7_canChoose l G cA H.size xa ka ra na ia ua va ca za pa qa X K R P L P2 L2 Tn Ti Tu Tv C Z q0 q1 q2 q3 q4 q5 x1 x2  r2 hc3) (tq_gV kw_49_17 kw_49_18 kw_49_19 kw_1_2 kw_49_20) rfl rfl dkdV_yX7_canChoose_2 (Nat.le_of_ble_eq_true rfl) (Nat.le_of_ble_eq_true rfl) (ci := 7) (q0 := 0) rfl rfl rfl hl.1 rfl (Nat.le_of_ble_eq_true rfl) dX7_rest_7 ⟨Nat.le_of_ble_eq_true rfl, Nat.le_of_ble_eq_true rfl⟩ (fun _ _ H locs z4 hP hD hS => ?_)
    have z4 := z4.symm
    subst z4
    have hP : va_P G vwCl (wX cA xa ka ra na ia ua va ca za pa qa X K R P L P2 L2 Tn Ti Tu Tv C Z q0 q1 q2 q3 q4 q5) H := hP
    have hD : va_D A (wX cA xa ka ra na ia ua va ca za pa qa X K R P L P2 L2 Tn Ti Tu Tv C Z q0 q1 q2 q3 q4 q5) := hD
    refine lv_if_ne (tgt := 15) hx hb dX7_rest_10 (by decide) (fun c5 => ?_) (fun c5 => ?_)
    · replace h := tx_neg c5 h
      refine lv_aload_n hx hb dX7_rest_15 rfl (lv_at hl 0 rfl) ?_
      refine lv_iload_n hx hb dX7_rest_16 rfl (lv_at hl 1 rfl) ?_
      refine lv_iload_n hx hb dX7_rest_17 rfl (lv_at hl 2 rfl) ?_
      replace h := tx_bd h
      obtain ⟨⟨X_6, L_7, Tu_8, q2_9⟩, hc10, h⟩ := h
      replace h := tx_let (y := X_6) rfl h
      replace h := tx_let (y := L_7) rfl h
      replace h := tx_let (y := Tu_8) rfl h
      replace h := tx_let (y := q2_9) rfl h
      refine tz_v (As := [.int x1, .int x2]) (rest := []) ⟨hx, hb, hml, hown, hT⟩ hP hD hS hA hK hN (c_X7_workOutCosts l G cA H.size xa ka ra na ia ua va ca za pa qa X K R P L P2 L2 Tn Ti Tu Tv C Z q0 q1 q2 q3 q4 q5 x1 x2  X_6 L_7 Tu_8 q2_9 hc10) (tq_gV kw_49_21 kw_49_22 kw_49_23 kw_1_2 kw_50_0) rfl rfl dkdV_yX7_workOutCosts_2 (Nat.le_of_ble_eq_true rfl) (Nat.le_of_ble_eq_true rfl) (ci := 7) (q0 := 0) rfl rfl rfl hl.1 rfl (Nat.le_of_ble_eq_true rfl) dX7_rest_18 ⟨Nat.le_of_ble_eq_true rfl, Nat.le_of_ble_eq_true rfl⟩ (fun _ H locs z11 hP hD hS => ?_)
      have hP : va_P G vwCl (wX cA xa ka ra na ia ua va ca za pa qa X_6 K R P L_7 P2 L2 Tn Ti Tu_8 Tv C Z q0 q1 q2_9 q3 q4 q5) H := hP
      have hD : va_D A (wX cA xa ka ra na ia ua va ca za pa qa X_6 K R P L_7 P2 L2 Tn Ti Tu_8 Tv C Z q0 q1 q2_9 q3 q4 q5) := hD
      refine lv_iconst (v := 0) hx hb dX7_rest_21 (by decide) ?_
      refine lv_istore (lv' := [(4, .int 0), (0, .ref (xa 0)), (1, .int x1), (2, .int x2), (3, .int x3)]) hx hb dX7_rest_22 hl (by decide) rfl (fun ls hl => ?_)
      refine lv_iconst (v := 0) hx hb dX7_rest_24 (by decide) ?_
      refine lv_istore (lv' := [(5, .int 0), (4, .int 0), (0, .ref (xa 0)), (1, .int x1), (2, .int x2), (3, .int x3)]) hx hb dX7_rest_25 hl (by decide) rfl (fun ls hl => ?_)
      exact w_X7_rest_L27 F 2000 0 0 H locs ls h hP hD hS (lv_sub hl [2, 5, 1, 0] rfl)
    · replace h := tx_pos c5 h
      refine lv_iconst (v := (-1)) hx hb dX7_rest_13 (by decide) ?_
      obtain ⟨rfl, rfl, rfl, rfl, rfl⟩ := tx_5 h
      exact W.iret hx hb hr (fun t ht hW => ⟨⟨_, (), rfl, rfl, by rw [ht]; exact hP, hD⟩, hS.F ht⟩) hS.2.2 dX7_rest_14
abbrev G_X7_rests (p : Program) (l : Launch) (e : Env) (s : State) (m : MethodId) (below : List Frame) (meth : Method) (c : Code) (G : va_G) (cA : Nat → ClassId) (A : Nat → Prop) (xa : Nat → Nat) (ka : Nat → Nat) (ra : Nat → Nat) (na : Nat → Nat) (ia : Nat → Nat) (ua : Nat → Nat) (va : Nat → Nat) (ca : Nat → Nat) (za : Nat → Nat) (pa : Nat → Nat) (qa : Nat → Nat) (K : Tr) (R : Tr) (P : Tr) (P2 : Tr) (L2 : Lo) (Tn : Tr) (Ti : Tr) (Tv : Tr) (C : Tr) (Z : Tr) (q0 : Nat) (q1 : Nat) (q3 : Nat) (q4 : Nat) (q5 : Nat) (x1 : Int32) (x2 : Int32) (r0 : Int32) (X' : Tr) (L' : Lo) (Tu' : Tr) (q2' : Nat) (H : Heap) (locs : List Loc) (g : JFrame) : Prop := W p l e (headSpec (.code yX7_rests cX7_rests 5 (some .int) :: T0) ({ frames := 7, cells := 0, slots := 0, locals := 177 } : Room)).room s m ([.ref (xa 0), .int x1, .int x2] : List Value).toArray below meth c H locs 0 0 (MQ below (tqQi G cA (fun (r : Int32) (_ : Unit) => r = r0) (fun (_ : Unit) => wX cA xa ka ra na ia ua va ca za pa qa (X') K R P (L') P2 L2 Tn Ti (Tu') Tv C Z q0 q1 (q2') q3 q4 q5) A) ([.ref (xa 0), .int x1, .int x2] : List Value).toArray s 0 0 A) g
set_option maxHeartbeats 4000000 in
set_option maxRecDepth 100000 in
theorem w_X7_rests_L22 {p : Program} {l : Launch} {e : Env} {s : State} {m : MethodId} {below : List Frame} {meth : Method} {c : Code} {G : va_G} {cA : Nat → ClassId} {A : Nat → Prop} {xa : Nat → Nat} {ka : Nat → Nat} {ra : Nat → Nat} {na : Nat → Nat} {ia : Nat → Nat} {ua : Nat → Nat} {va : Nat → Nat} {ca : Nat → Nat} {za : Nat → Nat} {pa : Nat → Nat} {qa : Nat → Nat} {K : Tr} {R : Tr} {P : Tr} {P2 : Tr} {L2 : Lo} {Tn : Tr} {Ti : Tr} {Tv : Tr} {C : Tr} {Z : Tr} {q0 : Nat} {q1 : Nat} {q3 : Nat} {q4 : Nat} {q5 : Nat} {x1₀ : Int32} {x2₀ : Int32} {r0 : Int32} {X' : Tr} {L' : Lo} {Tu' : Tr} {q2' : Nat} {X : Tr} {L : Lo} {Tu : Tr} {q2 : Nat} (F : tF p s m ([.ref (xa 0), .int x1₀, .int x2₀] : List Value).toArray meth c G cA A RX7 cX7_rests 5 (some .int))    (N : Nat) : ∀ (x3 : Int32) (x4 : Int32) (H : Heap) (locs : List Loc) (ls : Array Slot), lpF (fun _ _ => none) (fB_X7_rests_L22 pa qa X P L Tn Tu q0 q2 q4) N x3 x4 = some (r0, X', L', Tu', q2') → va_P G vwCl (wX cA xa ka ra na ia ua va ca za pa qa X K R P L P2 L2 Tn Ti Tu Tv C Z q0 q1 q2 q3 q4 q5) H → va_D A (wX cA xa ka ra na ia ua va ca za pa qa X K R P L P2 L2 Tn Ti Tu Tv C Z q0 q1 q2 q3 q4 q5) → va_S A s.heap H locs → lv_has ls 5 [(0, .ref (xa 0)), (3, .int x3), (4, .int x4)] → G_X7_rests p l e s m below meth c G cA A xa ka ra na ia ua va ca za pa qa K R P P2 L2 Tn Ti Tv C Z q0 q1 q3 q4 q5 x1₀ x2₀ r0 X' L' Tu' q2' H locs (F0 m 22 ls []) := by
  obtain ⟨hx, hb, hr, hml, hT, hown, hlocks, hK, hN, hA⟩ := id F
  induction N with
  | zero =>
    intro x3 x4 H locs ls h
    replace h : (none : Option (Int32 × Tr × Lo × Tr × Nat)) = some (r0, X', L', Tu', q2') := h
    cases h
  | succ N hk22 =>
    intro x3 x4 H locs ls h hP hD hS hl
    replace h : fB_X7_rests_L22 pa qa X P L Tn Tu q0 q2 q4 (lpF (fun _ _ => none) (fB_X7_rests_L22 pa qa X P L Tn Tu q0 q2 q4) N) x3 x4 = some (r0, X', L', Tu', q2') := h
    generalize hk22e : lpF (fun _ _ => none) (fB_X7_rests_L22 pa qa X P L Tn Tu q0 q2 q4) N = k22 at h hk22
    unfold fB_X7_rests_L22 at h
    refine lv_iload hx hb dX7_rests_22 (lv_at hl 2 rfl) ?_
    refine lv_bipush (v := 25) hx hb dX7_rests_24 (by decide) ?_
    refine lv_icmp_ge (tgt := 47) hx hb dX7_rests_26 (by decide) (fun c11 => ?_) (fun c11 => ?_)
    · replace h := tx_pos c11 h
      refine lv_iload_n hx hb dX7_rests_47 rfl (lv_at hl 1 rfl) ?_
      obtain ⟨rfl, rfl, rfl, rfl, rfl⟩ := tx_5 h
      exact W.iret hx hb hr (fun t ht hW => ⟨⟨_, (), rfl, rfl, by rw [ht]; exact hP, hD⟩, hS.F ht⟩) hS.2.2 dX7_rests_48
    · replace h := tx_neg c11 h
      refine lv_aload_n hx hb dX7_rests_29 rfl (lv_at hl 0 rfl) ?_
      refine lv_iload hx hb dX7_rests_30 (lv_at hl 2 rfl) ?_
      replace h := tx_bd h
      obtain ⟨r12, hc13, h⟩ := h
      refine tz_i (As := [.int x4]) (rest := []) ⟨hx, hb, hml, hown, hT⟩ hP hD hS hA hK hN (c_X7_isRest l G cA H.size xa ka ra na ia ua va ca za pa qa X K R P L P2 L2 Tn Ti Tu Tv C Z q0 q1 q2 q3 q4 q5 x4  r12 hc13) (tq_gV kw_50_5 kw_50_6 kw_50_7 kw_1_2 kw_50_8) rfl rfl dkdV_yX7_isRest_1 (Nat.le_of_ble_eq_true rfl) (Nat.le_of_ble_eq_true rfl) (ci := 7) (q0 := 0) rfl rfl rfl hl.1 rfl (Nat.le_of_ble_eq_true rfl) dX7_rests_32 ⟨Nat.le_of_ble_eq_true rfl, Nat.le_of_ble_eq_true rfl⟩ (fun _ _ H locs z14 hP hD hS => ?_)
      have z14 := z14.symm
      subst z14
      have hP : va_P G vwCl (wX cA xa ka ra na ia ua va ca za pa qa X K R P L P2 L2 Tn Ti Tu Tv C Z q0 q1 q2 q3 q4 q5) H := hP
      have hD : va_D A (wX cA xa ka ra na ia ua va ca za pa qa X K R P L P2 L2 Tn Ti Tu Tv C Z q0 q1 q2 q3 q4 q5) := hD
      refine lv_if_eq (tgt := 41) hx hb dX7_rests_35 (by decide) (fun c15 => ?_) (fun c15 => ?_)
      · replace h := tx_pos c15 h
        replace h := tx_lt h
        obtain ⟨y16, ey16, h⟩ := h
        refine lv_iinc (v := y16) (lv' := [(4, .int y16), (0, .ref (xa 0)), (3, .int x3)]) hx hb dX7_rests_41 hl (k := 2) rfl ey16 (by decide) rfl (fun ls hl => ?_)
        refine lv_goto (tgt := 22) hx hb dX7_rests_44 (by decide) ?_
        exact hk22 x3 y16 H locs ls h hP hD hS (lv_sub hl [1, 2, 0] rfl)
      · replace h := tx_neg c15 h
        replace h := tx_lt h
        obtain ⟨y17, ey17, h⟩ := h
        refine lv_iinc (v := y17) (lv' := [(3, .int y17), (0, .ref (xa 0)), (4, .int x4)]) hx hb dX7_rests_38 hl (k := 1) rfl ey17 (by decide) rfl (fun ls hl => ?_)
        replace h := tx_lt h
        obtain ⟨y18, ey18, h⟩ := h
        refine lv_iinc (v := y18) (lv' := [(4, .int y18), (3, .int y17), (0, .ref (xa 0))]) hx hb dX7_rests_41 hl (k := 2) rfl ey18 (by decide) rfl (fun ls hl => ?_)
        refine lv_goto (tgt := 22) hx hb dX7_rests_44 (by decide) ?_
        exact hk22 y17 y18 H locs ls h hP hD hS (lv_sub hl [2, 1, 0] rfl)
set_option maxHeartbeats 4000000 in
set_option maxRecDepth 100000 in
theorem c_X7_rests (l : Launch) (G : va_G) (cA : Nat → ClassId) (sz : Nat) (xa : Nat → Nat) (ka : Nat → Nat) (ra : Nat → Nat) (na : Nat → Nat) (ia : Nat → Nat) (ua : Nat → Nat) (va : Nat → Nat) (ca : Nat → Nat) (za : Nat → Nat) (pa : Nat → Nat) (qa : Nat → Nat) (X : Tr) (K : Tr) (R : Tr) (P : Tr) (L : Lo) (P2 : Tr) (L2 : Lo) (Tn : Tr) (Ti : Tr) (Tu : Tr) (Tv : Tr) (C : Tr) (Z : Tr) (q0 : Nat) (q1 : Nat) (q2 : Nat) (q3 : Nat) (q4 : Nat) (q5 : Nat) (x1 : Int32) (x2 : Int32)  (r0 : Int32) (X' : Tr) (L' : Lo) (Tu' : Tr) (q2' : Nat) (h : f_X7_rests pa qa X P L Tn Tu q0 q2 q4 x1 x2 = some (r0, X', L', Tu', q2')) : Met l yX7_rests (.code yX7_rests cX7_rests 5 (some .int) :: T0) ({ frames := 7, cells := 0, slots := 0, locals := 177 } : Room) (tqP G cA [.ref (xa 0), .int x1, .int x2] (wX cA xa ka ra na ia ua va ca za pa qa X K R P L P2 L2 Tn Ti Tu Tv C Z q0 q1 q2 q3 q4 q5) sz) (tqQi G cA (fun (r : Int32) (_ : Unit) => r = r0) (fun (_ : Unit) => wX cA xa ka ra na ia ua va ca za pa qa (X') K R P (L') P2 L2 Tn Ti (Tu') Tv C Z q0 q1 (q2') q3 q4 q5) (va_A (wX cA xa ka ra na ia ua va ca za pa qa X K R P L P2 L2 Tn Ti Tu Tv C Z q0 q1 q2 q3 q4 q5) sz)) 0 0 (va_A (wX cA xa ka ra na ia ua va ca za pa qa X K R P L P2 L2 Tn Ti Tu Tv C Z q0 q1 q2 q3 q4 q5) sz) := by
  refine Met.ofW (cc := cX7_rests) (maxL := 5) (ret := (some .int)) (by decide) rfl ?_
  intro p e s m args below meth c s₁ B hml hv
  obtain ⟨rfl, hsz, hP, hK, hD0, hN⟩ := hv
  have hx := B.exec
  have hb := B.bytes
  have hr := B.returns
  have hts := atoms_spec (ws := .code yX7_rests cX7_rests 5 (some .int) :: T0) B.pre
  have hT : ∀ w ∈ T0, w.before _ s = true := fun w h => hts w (List.mem_cons_of_mem _ h)
  have hown : s.vm.findClass RX7 = some m.cls := findClass_of_methodNamed B.named
  have hlocks := B.notSynchronized
  subst hsz
  have hD := hD0.self (sz := s.heap.size)
  generalize hAe : va_A (wX cA xa ka ra na ia ua va ca za pa qa X K R P L P2 L2 Tn Ti Tu Tv C Z q0 q1 q2 q3 q4 q5) s.heap.size = A at hD ⊢
  have hA : ∀ q : Nat, s.heap.size ≤ q → A q := fun q h => by rw [← hAe]; exact Or.inr h
  have hS : va_S A s.heap s.heap [] := va_S.rf
  have hl := lv_entry ([.ref (xa 0), .int x1, .int x2]) (n := 5) (Nat.le_of_ble_eq_true rfl)
  rw [lg_entry_eq]
  generalize (lg_sl ([.ref (xa 0), .int x1, .int x2]) ++ List.replicate (5 - (lg_sl ([.ref (xa 0), .int x1, .int x2])).length) Slot.unset).toArray = ls at hl ⊢
  have hl : lv_has ls 5 [(0, .ref (xa 0)), (1, .int x1), (2, .int x2)] := hl
  have F : tF p s m ([.ref (xa 0), .int x1, .int x2] : List Value).toArray meth c G cA A RX7 cX7_rests 5 (some .int) := ⟨hx, hb, hr, hml, hT, hown, hlocks, hK, hN, hA⟩
  obtain ⟨H, hH⟩ : ∃ z, z = s.heap := ⟨_, rfl⟩
  rw [← hH] at hP
  have hS : va_S A s.heap H [] := by rw [hH]; exact hS
  suffices hgo : G_X7_rests p l e s m below meth c G cA A xa ka ra na ia ua va ca za pa qa K R P P2 L2 Tn Ti Tv C Z q0 q1 q3 q4 q5 x1 x2 r0 X' L' Tu' q2' H [] (F0 m 0 ls []) by rw [hH] at hgo; exact hgo
  generalize ([] : List Loc) = locs at hS ⊢
  unfold f_X7_rests at h
  refine lv_aload_n hx hb dX7_rests_0 rfl (lv_at hl 0 rfl) ?_
  refine lv_iload_n hx hb dX7_rests_1 rfl (lv_at hl 1 rfl) ?_
  refine lv_iload_n hx hb dX7_rests_2 rfl (lv_at hl 2 rfl) ?_
  replace h := tx_bd h
  obtain ⟨r1, hc2, h⟩ := h
  refine tz_i (As := [.int x1, .int x2]) (rest := []) ⟨hx, hb, hml, hown, hT⟩ hP hD hS hA hK hN (c_X7_canChoose l G cA H.size xa ka ra na ia ua va ca za pa qa X K R P L P2 L2 Tn Ti Tu Tv C Z q0 q1 q2 q3 q4 q5 x1 x2  r1 hc2) (tq_gV kw_49_17 kw_49_18 kw_49_19 kw_1_2 kw_49_20) rfl rfl dkdV_yX7_canChoose_2 (Nat.le_of_ble_eq_true rfl) (Nat.le_of_ble_eq_true rfl) (ci := 7) (q0 := 0) rfl rfl rfl hl.1 rfl (Nat.le_of_ble_eq_true rfl) dX7_rests_3 ⟨Nat.le_of_ble_eq_true rfl, Nat.le_of_ble_eq_true rfl⟩ (fun _ _ H locs z3 hP hD hS => ?_)
  have z3 := z3.symm
  subst z3
  have hP : va_P G vwCl (wX cA xa ka ra na ia ua va ca za pa qa X K R P L P2 L2 Tn Ti Tu Tv C Z q0 q1 q2 q3 q4 q5) H := hP
  have hD : va_D A (wX cA xa ka ra na ia ua va ca za pa qa X K R P L P2 L2 Tn Ti Tu Tv C Z q0 q1 q2 q3 q4 q5) := hD
  refine lv_if_ne (tgt := 11) hx hb dX7_rests_6 (by decide) (fun c4 => ?_) (fun c4 => ?_)
  · replace h := tx_neg c4 h
    refine lv_aload_n hx hb dX7_rests_11 rfl (lv_at hl 0 rfl) ?_
    refine lv_iload_n hx hb dX7_rests_12 rfl (lv_at hl 1 rfl) ?_
    refine lv_iload_n hx hb dX7_rests_13 rfl (lv_at hl 2 rfl) ?_
    replace h := tx_bd h
    obtain ⟨⟨X_5, L_6, Tu_7, q2_8⟩, hc9, h⟩ := h
    replace h := tx_let (y := X_5) rfl h
    replace h := tx_let (y := L_6) rfl h
    replace h := tx_let (y := Tu_7) rfl h
    replace h := tx_let (y := q2_8) rfl h
    refine tz_v (As := [.int x1, .int x2]) (rest := []) ⟨hx, hb, hml, hown, hT⟩ hP hD hS hA hK hN (c_X7_workOutCosts l G cA H.size xa ka ra na ia ua va ca za pa qa X K R P L P2 L2 Tn Ti Tu Tv C Z q0 q1 q2 q3 q4 q5 x1 x2  X_5 L_6 Tu_7 q2_8 hc9) (tq_gV kw_49_21 kw_49_22 kw_49_23 kw_1_2 kw_50_0) rfl rfl dkdV_yX7_workOutCosts_2 (Nat.le_of_ble_eq_true rfl) (Nat.le_of_ble_eq_true rfl) (ci := 7) (q0 := 0) rfl rfl rfl hl.1 rfl (Nat.le_of_ble_eq_true rfl) dX7_rests_14 ⟨Nat.le_of_ble_eq_true rfl, Nat.le_of_ble_eq_true rfl⟩ (fun _ H locs z10 hP hD hS => ?_)
    have hP : va_P G vwCl (wX cA xa ka ra na ia ua va ca za pa qa X_5 K R P L_6 P2 L2 Tn Ti Tu_7 Tv C Z q0 q1 q2_8 q3 q4 q5) H := hP
    have hD : va_D A (wX cA xa ka ra na ia ua va ca za pa qa X_5 K R P L_6 P2 L2 Tn Ti Tu_7 Tv C Z q0 q1 q2_8 q3 q4 q5) := hD
    refine lv_iconst (v := 0) hx hb dX7_rests_17 (by decide) ?_
    refine lv_istore_n (lv' := [(3, .int 0), (0, .ref (xa 0)), (1, .int x1), (2, .int x2)]) hx hb dX7_rests_18 rfl hl (by decide) rfl (fun ls hl => ?_)
    refine lv_iconst (v := 0) hx hb dX7_rests_19 (by decide) ?_
    refine lv_istore (lv' := [(4, .int 0), (3, .int 0), (0, .ref (xa 0)), (1, .int x1), (2, .int x2)]) hx hb dX7_rests_20 hl (by decide) rfl (fun ls hl => ?_)
    exact w_X7_rests_L22 F 2000 0 0 H locs ls h hP hD hS (lv_sub hl [2, 1, 0] rfl)
  · replace h := tx_pos c4 h
    refine lv_iconst (v := (-1)) hx hb dX7_rests_9 (by decide) ?_
    obtain ⟨rfl, rfl, rfl, rfl, rfl⟩ := tx_5 h
    exact W.iret hx hb hr (fun t ht hW => ⟨⟨_, (), rfl, rfl, by rw [ht]; exact hP, hD⟩, hS.F ht⟩) hS.2.2 dX7_rests_10
abbrev G_X4_add_x (p : Program) (l : Launch) (e : Env) (s : State) (m : MethodId) (below : List Frame) (meth : Method) (c : Code) (G : va_G) (cA : Nat → ClassId) (A : Nat → Prop) (xa : Nat → Nat) (ka : Nat → Nat) (ra : Nat → Nat) (na : Nat → Nat) (ia : Nat → Nat) (ua : Nat → Nat) (va : Nat → Nat) (ca : Nat → Nat) (za : Nat → Nat) (pa : Nat → Nat) (qa : Nat → Nat) (X : Tr) (K : Tr) (R : Tr) (P : Tr) (L : Lo) (P2 : Tr) (L2 : Lo) (Tn : Tr) (Ti : Tr) (Tu : Tr) (Tv : Tr) (C : Tr) (q0 : Nat) (q1 : Nat) (q2 : Nat) (q3 : Nat) (q4 : Nat) (q5 : Nat) (x1 : Int32) (x2 : Int32) (x3 : Int32) (x4 : Int32) (r0 : Int32) (Z' : Tr) (H : Heap) (locs : List Loc) (g : JFrame) : Prop := W p l e (headSpec (.code yX4_add cX4_add 5 (some .int) :: T0) ({ frames := 0, cells := 0, slots := 0, locals := 0 } : Room)).room s m ([.ref (za 0), .int x1, .int x2, .int x3, .int x4] : List Value).toArray below meth c H locs 0 0 (MQ below (tqQi G cA (fun (r : Int32) (_ : Unit) => r = r0) (fun (_ : Unit) => wX cA xa ka ra na ia ua va ca za pa qa X K R P L P2 L2 Tn Ti Tu Tv C (Z') q0 q1 q2 q3 q4 q5) A) ([.ref (za 0), .int x1, .int x2, .int x3, .int x4] : List Value).toArray s 0 0 A) g
set_option maxHeartbeats 4000000 in
set_option maxRecDepth 100000 in
theorem c_X4_add_x (l : Launch) (G : va_G) (cA : Nat → ClassId) (sz : Nat) (xa : Nat → Nat) (ka : Nat → Nat) (ra : Nat → Nat) (na : Nat → Nat) (ia : Nat → Nat) (ua : Nat → Nat) (va : Nat → Nat) (ca : Nat → Nat) (za : Nat → Nat) (pa : Nat → Nat) (qa : Nat → Nat) (X : Tr) (K : Tr) (R : Tr) (P : Tr) (L : Lo) (P2 : Tr) (L2 : Lo) (Tn : Tr) (Ti : Tr) (Tu : Tr) (Tv : Tr) (C : Tr) (Z : Tr) (q0 : Nat) (q1 : Nat) (q2 : Nat) (q3 : Nat) (q4 : Nat) (q5 : Nat) (x1 : Int32) (x2 : Int32) (x3 : Int32) (x4 : Int32)  (r0 : Int32) (Z' : Tr) (h : f_X4_add_x pa qa Z x1 x2 x3 x4 = some (r0, Z')) : Met l yX4_add (.code yX4_add cX4_add 5 (some .int) :: T0) ({ frames := 0, cells := 0, slots := 0, locals := 0 } : Room) (tqP G cA [.ref (za 0), .int x1, .int x2, .int x3, .int x4] (wX cA xa ka ra na ia ua va ca za pa qa X K R P L P2 L2 Tn Ti Tu Tv C Z q0 q1 q2 q3 q4 q5) sz) (tqQi G cA (fun (r : Int32) (_ : Unit) => r = r0) (fun (_ : Unit) => wX cA xa ka ra na ia ua va ca za pa qa X K R P L P2 L2 Tn Ti Tu Tv C (Z') q0 q1 q2 q3 q4 q5) (va_A (wX cA xa ka ra na ia ua va ca za pa qa X K R P L P2 L2 Tn Ti Tu Tv C Z q0 q1 q2 q3 q4 q5) sz)) 0 0 (va_A (wX cA xa ka ra na ia ua va ca za pa qa X K R P L P2 L2 Tn Ti Tu Tv C Z q0 q1 q2 q3 q4 q5) sz) := by
  refine Met.ofW (cc := cX4_add) (maxL := 5) (ret := (some .int)) (by decide) rfl ?_
  intro p e s m args below meth c s₁ B hml hv
  obtain ⟨rfl, hsz, hP, hK, hD0, hN⟩ := hv
  have hx := B.exec
  have hb := B.bytes
  have hr := B.returns
  have hts := atoms_spec (ws := .code yX4_add cX4_add 5 (some .int) :: T0) B.pre
  have hT : ∀ w ∈ T0, w.before _ s = true := fun w h => hts w (List.mem_cons_of_mem _ h)
  have hown : s.vm.findClass RX4 = some m.cls := findClass_of_methodNamed B.named
  have hlocks := B.notSynchronized
  subst hsz
  have hD := hD0.self (sz := s.heap.size)
  generalize hAe : va_A (wX cA xa ka ra na ia ua va ca za pa qa X K R P L P2 L2 Tn Ti Tu Tv C Z q0 q1 q2 q3 q4 q5) s.heap.size = A at hD ⊢
  have hA : ∀ q : Nat, s.heap.size ≤ q → A q := fun q h => by rw [← hAe]; exact Or.inr h
  have hS : va_S A s.heap s.heap [] := va_S.rf
  have hl := lv_entry ([.ref (za 0), .int x1, .int x2, .int x3, .int x4]) (n := 5) (Nat.le_of_ble_eq_true rfl)
  rw [lg_entry_eq]
  generalize (lg_sl ([.ref (za 0), .int x1, .int x2, .int x3, .int x4]) ++ List.replicate (5 - (lg_sl ([.ref (za 0), .int x1, .int x2, .int x3, .int x4])).length) Slot.unset).toArray = ls at hl ⊢
  have hl : lv_has ls 5 [(0, .ref (za 0)), (1, .int x1), (2, .int x2), (3, .int x3), (4, .int x4)] := hl
  have F : tF p s m ([.ref (za 0), .int x1, .int x2, .int x3, .int x4] : List Value).toArray meth c G cA A RX4 cX4_add 5 (some .int) := ⟨hx, hb, hr, hml, hT, hown, hlocks, hK, hN, hA⟩
  obtain ⟨H, hH⟩ : ∃ z, z = s.heap := ⟨_, rfl⟩
  rw [← hH] at hP
  have hS : va_S A s.heap H [] := by rw [hH]; exact hS
  suffices hgo : G_X4_add_x p l e s m below meth c G cA A xa ka ra na ia ua va ca za pa qa X K R P L P2 L2 Tn Ti Tu Tv C q0 q1 q2 q3 q4 q5 x1 x2 x3 x4 r0 Z' H [] (F0 m 0 ls []) by rw [hH] at hgo; exact hgo
  generalize ([] : List Loc) = locs at hS ⊢
  unfold f_X4_add_x at h
  refine lv_aload_n hx hb dX4_add_0 rfl (lv_at hl 0 rfl) ?_
  refine va_get (D := G) (ci := 4) (v := .int (Z 0 0)) (C := RX4) (T := TX4) (N := 7) hx hb hT ku_4 hown hK hP 103 rfl rfl 0 (by decide) (hT _ kw_8_22) (fun _ h9 => h9) rfl dX4_add_1 ?_
  refine lv_bipush (v := 24) hx hb dX4_add_4 (by decide) ?_
  refine lv_icmp_lt (tgt := 11) hx hb dX4_add_6 (by decide) (fun c1 => ?_) (fun c1 => ?_)
  · replace h := tx_pos c1 h
    refine lv_aload_n hx hb dX4_add_11 rfl (lv_at hl 0 rfl) ?_
    refine va_get (D := G) (ci := 4) (v := .ref (za 3)) (C := RX4) (T := TX4) (N := 7) hx hb hT ku_4 hown hK hP 103 rfl rfl 2 (by decide) (hT _ kw_9_0) (fun _ h9 => h9) rfl dX4_add_12 ?_
    refine lv_aload_n hx hb dX4_add_15 rfl (lv_at hl 0 rfl) ?_
    refine va_get (D := G) (ci := 4) (v := .int (Z 0 0)) (C := RX4) (T := TX4) (N := 7) hx hb hT ku_4 hown hK hP 103 rfl rfl 0 (by decide) (hT _ kw_8_22) (fun _ h9 => h9) rfl dX4_add_16 ?_
    refine lv_iload_n hx hb dX4_add_19 rfl (lv_at hl 1 rfl) ?_
    replace h := tx_ck h
    obtain ⟨g2, h⟩ := h
    refine va_iast (i := (Z 0 0)) hx hb hK hP hD hS 104 0 rfl rfl (tx_in g2) dX4_add_20 (fun H locs hP hD hS => ?_)
    replace h := tx_lt h
    obtain ⟨Z_3, eZ_3, h⟩ := h
    rw [sX_za_a2, eZ_3] at hP hD
    refine lv_aload_n hx hb dX4_add_21 rfl (lv_at hl 0 rfl) ?_
    refine va_get (D := G) (ci := 4) (v := .ref (za 4)) (C := RX4) (T := TX4) (N := 7) hx hb hT ku_4 hown hK hP 103 rfl rfl 3 (by decide) (hT _ kw_9_1) (fun _ h9 => h9) rfl dX4_add_22 ?_
    refine lv_aload_n hx hb dX4_add_25 rfl (lv_at hl 0 rfl) ?_
    refine va_get (D := G) (ci := 4) (v := .int (Z_3 0 0)) (C := RX4) (T := TX4) (N := 7) hx hb hT ku_4 hown hK hP 103 rfl rfl 0 (by decide) (hT _ kw_8_22) (fun _ h9 => h9) rfl dX4_add_26 ?_
    refine lv_iload_n hx hb dX4_add_29 rfl (lv_at hl 2 rfl) ?_
    replace h := tx_ck h
    obtain ⟨g4, h⟩ := h
    refine va_iast (i := (Z_3 0 0)) hx hb hK hP hD hS 105 0 rfl rfl (tx_in g4) dX4_add_30 (fun H locs hP hD hS => ?_)
    replace h := tx_lt h
    obtain ⟨Z_5, eZ_5, h⟩ := h
    rw [sX_za_a3, eZ_5] at hP hD
    refine lv_aload_n hx hb dX4_add_31 rfl (lv_at hl 0 rfl) ?_
    refine va_get (D := G) (ci := 4) (v := .ref (za 5)) (C := RX4) (T := TX4) (N := 7) hx hb hT ku_4 hown hK hP 103 rfl rfl 4 (by decide) (hT _ kw_9_2) (fun _ h9 => h9) rfl dX4_add_32 ?_
    refine lv_aload_n hx hb dX4_add_35 rfl (lv_at hl 0 rfl) ?_
    refine va_get (D := G) (ci := 4) (v := .int (Z_5 0 0)) (C := RX4) (T := TX4) (N := 7) hx hb hT ku_4 hown hK hP 103 rfl rfl 0 (by decide) (hT _ kw_8_22) (fun _ h9 => h9) rfl dX4_add_36 ?_
    refine lv_iload_n hx hb dX4_add_39 rfl (lv_at hl 3 rfl) ?_
    replace h := tx_ck h
    obtain ⟨g6, h⟩ := h
    refine va_iast (i := (Z_5 0 0)) hx hb hK hP hD hS 106 0 rfl rfl (tx_in g6) dX4_add_40 (fun H locs hP hD hS => ?_)
    replace h := tx_lt h
    obtain ⟨Z_7, eZ_7, h⟩ := h
    rw [sX_za_a4, eZ_7] at hP hD
    refine lv_aload_n hx hb dX4_add_41 rfl (lv_at hl 0 rfl) ?_
    refine va_get (D := G) (ci := 4) (v := .ref (za 6)) (C := RX4) (T := TX4) (N := 7) hx hb hT ku_4 hown hK hP 103 rfl rfl 5 (by decide) (hT _ kw_9_3) (fun _ h9 => h9) rfl dX4_add_42 ?_
    refine lv_aload_n hx hb dX4_add_45 rfl (lv_at hl 0 rfl) ?_
    refine va_get (D := G) (ci := 4) (v := .int (Z_7 0 0)) (C := RX4) (T := TX4) (N := 7) hx hb hT ku_4 hown hK hP 103 rfl rfl 0 (by decide) (hT _ kw_8_22) (fun _ h9 => h9) rfl dX4_add_46 ?_
    refine lv_iload hx hb dX4_add_49 (lv_at hl 4 rfl) ?_
    replace h := tx_ck h
    obtain ⟨g8, h⟩ := h
    refine va_iast (i := (Z_7 0 0)) hx hb hK hP hD hS 107 0 rfl rfl (tx_in g8) dX4_add_51 (fun H locs hP hD hS => ?_)
    replace h := tx_lt h
    obtain ⟨Z_9, eZ_9, h⟩ := h
    rw [sX_za_a5, eZ_9] at hP hD
    refine lv_aload_n hx hb dX4_add_52 rfl (lv_at hl 0 rfl) ?_
    refine lv_dup hx hb dX4_add_53 rfl ?_
    refine va_get (D := G) (ci := 4) (v := .int (Z_9 0 0)) (C := RX4) (T := TX4) (N := 7) hx hb hT ku_4 hown hK hP 103 rfl rfl 0 (by decide) (hT _ kw_8_22) (fun _ h9 => h9) rfl dX4_add_54 ?_
    refine lv_iconst (v := 1) hx hb dX4_add_57 (by decide) ?_
    refine lv_iadd hx hb dX4_add_58 ?_
    refine va_put (D := G) (ci := 4) (v := .int ((Z_9 0 0) + 1)) (ty := .int) (C := RX4) (T := TX4) (N := 7) hx hb hT ku_4 tyX4 tyX4_ok nmX4 hown hK hP hD hS 103 rfl rfl 0 (by decide) (hT _ kw_8_22) (fun _ h9 => h9) rfl (by decide +kernel) rfl rfl (Nat.le_of_ble_eq_true rfl) dX4_add_59 (fun H locs hP hD hS => ?_)
    replace h := tx_lt h
    obtain ⟨Z_10, eZ_10, h⟩ := h
    rw [sX_za_f0, eZ_10] at hP hD
    refine lv_aload_n hx hb dX4_add_62 rfl (lv_at hl 0 rfl) ?_
    refine va_get (D := G) (ci := 4) (v := .int (Z_10 0 0)) (C := RX4) (T := TX4) (N := 7) hx hb hT ku_4 hown hK hP 103 rfl rfl 0 (by decide) (hT _ kw_8_22) (fun _ h9 => h9) rfl dX4_add_63 ?_
    refine lv_iconst (v := 1) hx hb dX4_add_66 (by decide) ?_
    refine lv_isub hx hb dX4_add_67 ?_
    obtain ⟨rfl, rfl⟩ := tx_2 h
    exact W.iret hx hb hr (fun t ht hW => ⟨⟨_, (), rfl, rfl, by rw [ht]; exact hP, hD⟩, hS.F ht⟩) hS.2.2 dX4_add_68
  · replace h := tx_neg c1 h
    refine lv_iconst (v := (-1)) hx hb dX4_add_9 (by decide) ?_
    obtain ⟨rfl, rfl⟩ := tx_2 h
    exact W.iret hx hb hr (fun t ht hW => ⟨⟨_, (), rfl, rfl, by rw [ht]; exact hP, hD⟩, hS.F ht⟩) hS.2.2 dX4_add_10
abbrev G_X7_see (p : Program) (l : Launch) (e : Env) (s : State) (m : MethodId) (below : List Frame) (meth : Method) (c : Code) (G : va_G) (cA : Nat → ClassId) (A : Nat → Prop) (xa : Nat → Nat) (ka : Nat → Nat) (ra : Nat → Nat) (na : Nat → Nat) (ia : Nat → Nat) (ua : Nat → Nat) (va : Nat → Nat) (ca : Nat → Nat) (za : Nat → Nat) (pa : Nat → Nat) (qa : Nat → Nat) (X : Tr) (K : Tr) (R : Tr) (P : Tr) (L : Lo) (P2 : Tr) (L2 : Lo) (Tn : Tr) (Ti : Tr) (Tu : Tr) (Tv : Tr) (C : Tr) (q0 : Nat) (q1 : Nat) (q2 : Nat) (q3 : Nat) (q4 : Nat) (q5 : Nat) (x1 : Int32) (x2 : Int32) (x3 : Int32) (x4 : Int32) (r0 : Int32) (Z' : Tr) (H : Heap) (locs : List Loc) (g : JFrame) : Prop := W p l e (headSpec (.code yX7_see cX7_see 5 (some .int) :: T0) ({ frames := 1, cells := 0, slots := 0, locals := 24 } : Room)).room s m ([.ref (xa 0), .int x1, .int x2, .int x3, .int x4] : List Value).toArray below meth c H locs 0 0 (MQ below (tqQi G cA (fun (r : Int32) (_ : Unit) => r = r0) (fun (_ : Unit) => wX cA xa ka ra na ia ua va ca za pa qa X K R P L P2 L2 Tn Ti Tu Tv C (Z') q0 q1 q2 q3 q4 q5) A) ([.ref (xa 0), .int x1, .int x2, .int x3, .int x4] : List Value).toArray s 0 0 A) g
set_option maxHeartbeats 4000000 in
set_option maxRecDepth 100000 in
theorem w_X7_see_J45 {p : Program} {l : Launch} {e : Env} {s : State} {m : MethodId} {below : List Frame} {meth : Method} {c : Code} {G : va_G} {cA : Nat → ClassId} {A : Nat → Prop} {xa : Nat → Nat} {ka : Nat → Nat} {ra : Nat → Nat} {na : Nat → Nat} {ia : Nat → Nat} {ua : Nat → Nat} {va : Nat → Nat} {ca : Nat → Nat} {za : Nat → Nat} {pa : Nat → Nat} {qa : Nat → Nat} {X : Tr} {K : Tr} {R : Tr} {P : Tr} {L : Lo} {P2 : Tr} {L2 : Lo} {Tn : Tr} {Ti : Tr} {Tu : Tr} {Tv : Tr} {C : Tr} {q0 : Nat} {q1 : Nat} {q2 : Nat} {q3 : Nat} {q4 : Nat} {q5 : Nat} {x1₀ : Int32} {x2₀ : Int32} {x3₀ : Int32} {x4₀ : Int32} {r0 : Int32} {Z' : Tr} (F : tF p s m ([.ref (xa 0), .int x1₀, .int x2₀, .int x3₀, .int x4₀] : List Value).toArray meth c G cA A RX7 cX7_see 5 (some .int))    (s0 : Int32) (s1 : Int32) (s2 : Int32) (s3 : Int32) (Z : Tr) (H : Heap) (locs : List Loc) (ls : Array Slot) (h : fJ_X7_see_J45 pa qa P q4 s0 s1 s2 s3 Z = some (r0, Z')) (hP : va_P G vwCl (wX cA xa ka ra na ia ua va ca za pa qa X K R P L P2 L2 Tn Ti Tu Tv C Z q0 q1 q2 q3 q4 q5) H) (hD : va_D A (wX cA xa ka ra na ia ua va ca za pa qa X K R P L P2 L2 Tn Ti Tu Tv C Z q0 q1 q2 q3 q4 q5)) (hS : va_S A s.heap H locs) (hl : lv_has ls 5 []) : G_X7_see p l e s m below meth c G cA A xa ka ra na ia ua va ca za pa qa X K R P L P2 L2 Tn Ti Tu Tv C q0 q1 q2 q3 q4 q5 x1₀ x2₀ x3₀ x4₀ r0 Z' H locs (F0 m 45 ls [.int s0, .int s1, .int s2, .int s3, .ref (za 0)]) := by
  obtain ⟨hx, hb, hr, hml, hT, hown, hlocks, hK, hN, hA⟩ := id F
  unfold fJ_X7_see_J45 at h
  replace h := tx_bd h
  obtain ⟨⟨r12, Z_13⟩, hc14, h⟩ := h
  replace h := tx_let (y := r12) rfl h
  replace h := tx_let (y := Z_13) rfl h
  refine tz_i (As := [.int s3, .int s2, .int s1, .int s0]) (rest := []) ⟨hx, hb, hml, hown, hT⟩ hP hD hS hA hK hN (c_X4_add_x l G cA H.size xa ka ra na ia ua va ca za pa qa X K R P L P2 L2 Tn Ti Tu Tv C Z q0 q1 q2 q3 q4 q5 s3 s2 s1 s0  r12 Z_13 hc14) (tq_gV kw_54_1 kw_54_2 kw_54_3 kw_2_11 kw_54_4) rfl rfl dkdV_yX4_add_4 (Nat.le_of_ble_eq_true rfl) (Nat.le_of_ble_eq_true rfl) (ci := 4) (q0 := 103) rfl rfl rfl hl.1 rfl (Nat.le_of_ble_eq_true rfl) dX7_see_45 ⟨Nat.le_of_ble_eq_true rfl, Nat.le_of_ble_eq_true rfl⟩ (fun _ _ H locs z15 hP hD hS => ?_)
  have z15 := z15.symm
  subst z15
  have hP : va_P G vwCl (wX cA xa ka ra na ia ua va ca za pa qa X K R P L P2 L2 Tn Ti Tu Tv C Z_13 q0 q1 q2 q3 q4 q5) H := hP
  have hD : va_D A (wX cA xa ka ra na ia ua va ca za pa qa X K R P L P2 L2 Tn Ti Tu Tv C Z_13 q0 q1 q2 q3 q4 q5) := hD
  obtain ⟨rfl, rfl⟩ := tx_2 h
  exact W.iret hx hb hr (fun t ht hW => ⟨⟨_, (), rfl, rfl, by rw [ht]; exact hP, hD⟩, hS.F ht⟩) hS.2.2 dX7_see_48
set_option maxHeartbeats 4000000 in
set_option maxRecDepth 100000 in
theorem c_X7_see (l : Launch) (G : va_G) (cA : Nat → ClassId) (sz : Nat) (xa : Nat → Nat) (ka : Nat → Nat) (ra : Nat → Nat) (na : Nat → Nat) (ia : Nat → Nat) (ua : Nat → Nat) (va : Nat → Nat) (ca : Nat → Nat) (za : Nat → Nat) (pa : Nat → Nat) (qa : Nat → Nat) (X : Tr) (K : Tr) (R : Tr) (P : Tr) (L : Lo) (P2 : Tr) (L2 : Lo) (Tn : Tr) (Ti : Tr) (Tu : Tr) (Tv : Tr) (C : Tr) (Z : Tr) (q0 : Nat) (q1 : Nat) (q2 : Nat) (q3 : Nat) (q4 : Nat) (q5 : Nat) (x1 : Int32) (x2 : Int32) (x3 : Int32) (x4 : Int32)  (r0 : Int32) (Z' : Tr) (h : f_X7_see pa qa P Z q4 x1 x2 x3 x4 = some (r0, Z')) : Met l yX7_see (.code yX7_see cX7_see 5 (some .int) :: T0) ({ frames := 1, cells := 0, slots := 0, locals := 24 } : Room) (tqP G cA [.ref (xa 0), .int x1, .int x2, .int x3, .int x4] (wX cA xa ka ra na ia ua va ca za pa qa X K R P L P2 L2 Tn Ti Tu Tv C Z q0 q1 q2 q3 q4 q5) sz) (tqQi G cA (fun (r : Int32) (_ : Unit) => r = r0) (fun (_ : Unit) => wX cA xa ka ra na ia ua va ca za pa qa X K R P L P2 L2 Tn Ti Tu Tv C (Z') q0 q1 q2 q3 q4 q5) (va_A (wX cA xa ka ra na ia ua va ca za pa qa X K R P L P2 L2 Tn Ti Tu Tv C Z q0 q1 q2 q3 q4 q5) sz)) 0 0 (va_A (wX cA xa ka ra na ia ua va ca za pa qa X K R P L P2 L2 Tn Ti Tu Tv C Z q0 q1 q2 q3 q4 q5) sz) := by
  refine Met.ofW (cc := cX7_see) (maxL := 5) (ret := (some .int)) (by decide) rfl ?_
  intro p e s m args below meth c s₁ B hml hv
  obtain ⟨rfl, hsz, hP, hK, hD0, hN⟩ := hv
  have hx := B.exec
  have hb := B.bytes
  have hr := B.returns
  have hts := atoms_spec (ws := .code yX7_see cX7_see 5 (some .int) :: T0) B.pre
  have hT : ∀ w ∈ T0, w.before _ s = true := fun w h => hts w (List.mem_cons_of_mem _ h)
  have hown : s.vm.findClass RX7 = some m.cls := findClass_of_methodNamed B.named
  have hlocks := B.notSynchronized
  subst hsz
  have hD := hD0.self (sz := s.heap.size)
  generalize hAe : va_A (wX cA xa ka ra na ia ua va ca za pa qa X K R P L P2 L2 Tn Ti Tu Tv C Z q0 q1 q2 q3 q4 q5) s.heap.size = A at hD ⊢
  have hA : ∀ q : Nat, s.heap.size ≤ q → A q := fun q h => by rw [← hAe]; exact Or.inr h
  have hS : va_S A s.heap s.heap [] := va_S.rf
  have hl := lv_entry ([.ref (xa 0), .int x1, .int x2, .int x3, .int x4]) (n := 5) (Nat.le_of_ble_eq_true rfl)
  rw [lg_entry_eq]
  generalize (lg_sl ([.ref (xa 0), .int x1, .int x2, .int x3, .int x4]) ++ List.replicate (5 - (lg_sl ([.ref (xa 0), .int x1, .int x2, .int x3, .int x4])).length) Slot.unset).toArray = ls at hl ⊢
  have hl : lv_has ls 5 [(0, .ref (xa 0)), (1, .int x1), (2, .int x2), (3, .int x3), (4, .int x4)] := hl
  have F : tF p s m ([.ref (xa 0), .int x1, .int x2, .int x3, .int x4] : List Value).toArray meth c G cA A RX7 cX7_see 5 (some .int) := ⟨hx, hb, hr, hml, hT, hown, hlocks, hK, hN, hA⟩
  obtain ⟨H, hH⟩ : ∃ z, z = s.heap := ⟨_, rfl⟩
  rw [← hH] at hP
  have hS : va_S A s.heap H [] := by rw [hH]; exact hS
  suffices hgo : G_X7_see p l e s m below meth c G cA A xa ka ra na ia ua va ca za pa qa X K R P L P2 L2 Tn Ti Tu Tv C q0 q1 q2 q3 q4 q5 x1 x2 x3 x4 r0 Z' H [] (F0 m 0 ls []) by rw [hH] at hgo; exact hgo
  generalize ([] : List Loc) = locs at hS ⊢
  unfold f_X7_see at h
  refine lv_iload_n hx hb dX7_see_0 rfl (lv_at hl 1 rfl) ?_
  refine lv_if_lt (tgt := 26) hx hb dX7_see_1 (by decide) (fun c1 => ?_) (fun c1 => ?_)
  · replace h := tx_pos c1 h
    refine lv_iconst (v := (-1)) hx hb dX7_see_26 (by decide) ?_
    obtain ⟨rfl, rfl⟩ := tx_2 h
    exact W.iret hx hb hr (fun t ht hW => ⟨⟨_, (), rfl, rfl, by rw [ht]; exact hP, hD⟩, hS.F ht⟩) hS.2.2 dX7_see_27
  · replace h := tx_neg c1 h
    refine lv_iload_n hx hb dX7_see_4 rfl (lv_at hl 1 rfl) ?_
    refine lv_bipush (v := 20) hx hb dX7_see_5 (by decide) ?_
    refine lv_icmp_ge (tgt := 26) hx hb dX7_see_7 (by decide) (fun c2 => ?_) (fun c2 => ?_)
    · replace h := tx_pos c2 h
      refine lv_iconst (v := (-1)) hx hb dX7_see_26 (by decide) ?_
      obtain ⟨rfl, rfl⟩ := tx_2 h
      exact W.iret hx hb hr (fun t ht hW => ⟨⟨_, (), rfl, rfl, by rw [ht]; exact hP, hD⟩, hS.F ht⟩) hS.2.2 dX7_see_27
    · replace h := tx_neg c2 h
      refine lv_aload_n hx hb dX7_see_10 rfl (lv_at hl 0 rfl) ?_
      refine lv_iload_n hx hb dX7_see_11 rfl (lv_at hl 2 rfl) ?_
      replace h := tx_bd h
      obtain ⟨r3, hc4, h⟩ := h
      refine tz_i (As := [.int x2]) (rest := []) ⟨hx, hb, hml, hown, hT⟩ hP hD hS hA hK hN (c_X7_isPiece l G cA H.size xa ka ra na ia ua va ca za pa qa X K R P L P2 L2 Tn Ti Tu Tv C Z q0 q1 q2 q3 q4 q5 x2  r3 hc4) (tq_gV kw_30_5 kw_30_6 kw_30_7 kw_1_2 kw_30_8) rfl rfl dkdV_yX7_isPiece_1 (Nat.le_of_ble_eq_true rfl) (Nat.le_of_ble_eq_true rfl) (ci := 7) (q0 := 0) rfl rfl rfl hl.1 rfl (Nat.le_of_ble_eq_true rfl) dX7_see_12 ⟨Nat.le_of_ble_eq_true rfl, Nat.le_of_ble_eq_true rfl⟩ (fun _ _ H locs z5 hP hD hS => ?_)
      have z5 := z5.symm
      subst z5
      have hP : va_P G vwCl (wX cA xa ka ra na ia ua va ca za pa qa X K R P L P2 L2 Tn Ti Tu Tv C Z q0 q1 q2 q3 q4 q5) H := hP
      have hD : va_D A (wX cA xa ka ra na ia ua va ca za pa qa X K R P L P2 L2 Tn Ti Tu Tv C Z q0 q1 q2 q3 q4 q5) := hD
      refine lv_if_eq (tgt := 26) hx hb dX7_see_15 (by decide) (fun c6 => ?_) (fun c6 => ?_)
      · replace h := tx_pos c6 h
        refine lv_iconst (v := (-1)) hx hb dX7_see_26 (by decide) ?_
        obtain ⟨rfl, rfl⟩ := tx_2 h
        exact W.iret hx hb hr (fun t ht hW => ⟨⟨_, (), rfl, rfl, by rw [ht]; exact hP, hD⟩, hS.F ht⟩) hS.2.2 dX7_see_27
      · replace h := tx_neg c6 h
        refine lv_aload_n hx hb dX7_see_18 rfl (lv_at hl 0 rfl) ?_
        refine lv_iload_n hx hb dX7_see_19 rfl (lv_at hl 3 rfl) ?_
        replace h := tx_bd h
        obtain ⟨r7, hc8, h⟩ := h
        refine tz_i (As := [.int x3]) (rest := []) ⟨hx, hb, hml, hown, hT⟩ hP hD hS hA hK hN (c_X7_isPlace l G cA H.size xa ka ra na ia ua va ca za pa qa X K R P L P2 L2 Tn Ti Tu Tv C Z q0 q1 q2 q3 q4 q5 x3  r7 hc8) (tq_gV kw_31_22 kw_31_23 kw_32_0 kw_1_2 kw_32_1) rfl rfl dkdV_yX7_isPlace_1 (Nat.le_of_ble_eq_true rfl) (Nat.le_of_ble_eq_true rfl) (ci := 7) (q0 := 0) rfl rfl rfl hl.1 rfl (Nat.le_of_ble_eq_true rfl) dX7_see_20 ⟨Nat.le_of_ble_eq_true rfl, Nat.le_of_ble_eq_true rfl⟩ (fun _ _ H locs z9 hP hD hS => ?_)
        have z9 := z9.symm
        subst z9
        have hP : va_P G vwCl (wX cA xa ka ra na ia ua va ca za pa qa X K R P L P2 L2 Tn Ti Tu Tv C Z q0 q1 q2 q3 q4 q5) H := hP
        have hD : va_D A (wX cA xa ka ra na ia ua va ca za pa qa X K R P L P2 L2 Tn Ti Tu Tv C Z q0 q1 q2 q3 q4 q5) := hD
        refine lv_if_ne (tgt := 28) hx hb dX7_see_23 (by decide) (fun c10 => ?_) (fun c10 => ?_)
        · replace h := tx_neg c10 h
          refine lv_aload_n hx hb dX7_see_28 rfl (lv_at hl 0 rfl) ?_
          refine va_get (D := G) (ci := 7) (v := .ref (za 0)) (C := RX7) (T := TX7) (N := 12) hx hb hT ku_7 hown hK hP 0 rfl rfl 8 (by decide) (hT _ kw_2_12) (fun _ h9 => h9) rfl dX7_see_29 ?_
          refine lv_iload_n hx hb dX7_see_32 rfl (lv_at hl 1 rfl) ?_
          refine lv_iload_n hx hb dX7_see_33 rfl (lv_at hl 2 rfl) ?_
          refine lv_iload_n hx hb dX7_see_34 rfl (lv_at hl 3 rfl) ?_
          refine lv_iload hx hb dX7_see_35 (lv_at hl 4 rfl) ?_
          refine lv_if_eq (tgt := 44) hx hb dX7_see_37 (by decide) (fun c11 => ?_) (fun c11 => ?_)
          · replace h := tx_pos c11 h
            refine lv_iconst (v := 0) hx hb dX7_see_44 (by decide) ?_
            exact w_X7_see_J45 F 0 x3 x2 x1 Z H locs ls h hP hD hS (lv_sub hl [] rfl)
          · replace h := tx_neg c11 h
            refine lv_iconst (v := 1) hx hb dX7_see_40 (by decide) ?_
            refine lv_goto (tgt := 45) hx hb dX7_see_41 (by decide) ?_
            exact w_X7_see_J45 F 1 x3 x2 x1 Z H locs ls h hP hD hS (lv_sub hl [] rfl)
        · replace h := tx_pos c10 h
          refine lv_iconst (v := (-1)) hx hb dX7_see_26 (by decide) ?_
          obtain ⟨rfl, rfl⟩ := tx_2 h
          exact W.iret hx hb hr (fun t ht hW => ⟨⟨_, (), rfl, rfl, by rw [ht]; exact hP, hD⟩, hS.F ht⟩) hS.2.2 dX7_see_27
abbrev G_X7_strike (p : Program) (l : Launch) (e : Env) (s : State) (m : MethodId) (below : List Frame) (meth : Method) (c : Code) (G : va_G) (cA : Nat → ClassId) (A : Nat → Prop) (xa : Nat → Nat) (ka : Nat → Nat) (ra : Nat → Nat) (na : Nat → Nat) (ia : Nat → Nat) (ua : Nat → Nat) (va : Nat → Nat) (ca : Nat → Nat) (za : Nat → Nat) (pa : Nat → Nat) (qa : Nat → Nat) (X : Tr) (K : Tr) (R : Tr) (P : Tr) (L : Lo) (P2 : Tr) (L2 : Lo) (Tn : Tr) (Ti : Tr) (Tu : Tr) (Tv : Tr) (C : Tr) (q0 : Nat) (q1 : Nat) (q2 : Nat) (q3 : Nat) (q4 : Nat) (q5 : Nat) (x1 : Int32) (r0 : Int32) (Z' : Tr) (H : Heap) (locs : List Loc) (g : JFrame) : Prop := W p l e (headSpec (.code yX7_strike cX7_strike 2 (some .int) :: T0) ({ frames := 1, cells := 0, slots := 0, locals := 24 } : Room)).room s m ([.ref (xa 0), .int x1] : List Value).toArray below meth c H locs 0 0 (MQ below (tqQi G cA (fun (r : Int32) (_ : Unit) => r = r0) (fun (_ : Unit) => wX cA xa ka ra na ia ua va ca za pa qa X K R P L P2 L2 Tn Ti Tu Tv C (Z') q0 q1 q2 q3 q4 q5) A) ([.ref (xa 0), .int x1] : List Value).toArray s 0 0 A) g
set_option maxHeartbeats 4000000 in
set_option maxRecDepth 100000 in
theorem c_X7_strike (l : Launch) (G : va_G) (cA : Nat → ClassId) (sz : Nat) (xa : Nat → Nat) (ka : Nat → Nat) (ra : Nat → Nat) (na : Nat → Nat) (ia : Nat → Nat) (ua : Nat → Nat) (va : Nat → Nat) (ca : Nat → Nat) (za : Nat → Nat) (pa : Nat → Nat) (qa : Nat → Nat) (X : Tr) (K : Tr) (R : Tr) (P : Tr) (L : Lo) (P2 : Tr) (L2 : Lo) (Tn : Tr) (Ti : Tr) (Tu : Tr) (Tv : Tr) (C : Tr) (Z : Tr) (q0 : Nat) (q1 : Nat) (q2 : Nat) (q3 : Nat) (q4 : Nat) (q5 : Nat) (x1 : Int32)  (r0 : Int32) (Z' : Tr) (h : f_X7_strike pa qa Z x1 = some (r0, Z')) : Met l yX7_strike (.code yX7_strike cX7_strike 2 (some .int) :: T0) ({ frames := 1, cells := 0, slots := 0, locals := 24 } : Room) (tqP G cA [.ref (xa 0), .int x1] (wX cA xa ka ra na ia ua va ca za pa qa X K R P L P2 L2 Tn Ti Tu Tv C Z q0 q1 q2 q3 q4 q5) sz) (tqQi G cA (fun (r : Int32) (_ : Unit) => r = r0) (fun (_ : Unit) => wX cA xa ka ra na ia ua va ca za pa qa X K R P L P2 L2 Tn Ti Tu Tv C (Z') q0 q1 q2 q3 q4 q5) (va_A (wX cA xa ka ra na ia ua va ca za pa qa X K R P L P2 L2 Tn Ti Tu Tv C Z q0 q1 q2 q3 q4 q5) sz)) 0 0 (va_A (wX cA xa ka ra na ia ua va ca za pa qa X K R P L P2 L2 Tn Ti Tu Tv C Z q0 q1 q2 q3 q4 q5) sz) := by
  refine Met.ofW (cc := cX7_strike) (maxL := 2) (ret := (some .int)) (by decide) rfl ?_
  intro p e s m args below meth c s₁ B hml hv
  obtain ⟨rfl, hsz, hP, hK, hD0, hN⟩ := hv
  have hx := B.exec
  have hb := B.bytes
  have hr := B.returns
  have hts := atoms_spec (ws := .code yX7_strike cX7_strike 2 (some .int) :: T0) B.pre
  have hT : ∀ w ∈ T0, w.before _ s = true := fun w h => hts w (List.mem_cons_of_mem _ h)
  have hown : s.vm.findClass RX7 = some m.cls := findClass_of_methodNamed B.named
  have hlocks := B.notSynchronized
  subst hsz
  have hD := hD0.self (sz := s.heap.size)
  generalize hAe : va_A (wX cA xa ka ra na ia ua va ca za pa qa X K R P L P2 L2 Tn Ti Tu Tv C Z q0 q1 q2 q3 q4 q5) s.heap.size = A at hD ⊢
  have hA : ∀ q : Nat, s.heap.size ≤ q → A q := fun q h => by rw [← hAe]; exact Or.inr h
  have hS : va_S A s.heap s.heap [] := va_S.rf
  have hl := lv_entry ([.ref (xa 0), .int x1]) (n := 2) (Nat.le_of_ble_eq_true rfl)
  rw [lg_entry_eq]
  generalize (lg_sl ([.ref (xa 0), .int x1]) ++ List.replicate (2 - (lg_sl ([.ref (xa 0), .int x1])).length) Slot.unset).toArray = ls at hl ⊢
  have hl : lv_has ls 2 [(0, .ref (xa 0)), (1, .int x1)] := hl
  have F : tF p s m ([.ref (xa 0), .int x1] : List Value).toArray meth c G cA A RX7 cX7_strike 2 (some .int) := ⟨hx, hb, hr, hml, hT, hown, hlocks, hK, hN, hA⟩
  obtain ⟨H, hH⟩ : ∃ z, z = s.heap := ⟨_, rfl⟩
  rw [← hH] at hP
  have hS : va_S A s.heap H [] := by rw [hH]; exact hS
  suffices hgo : G_X7_strike p l e s m below meth c G cA A xa ka ra na ia ua va ca za pa qa X K R P L P2 L2 Tn Ti Tu Tv C q0 q1 q2 q3 q4 q5 x1 r0 Z' H [] (F0 m 0 ls []) by rw [hH] at hgo; exact hgo
  generalize ([] : List Loc) = locs at hS ⊢
  unfold f_X7_strike at h
  refine lv_iload_n hx hb dX7_strike_0 rfl (lv_at hl 1 rfl) ?_
  refine lv_if_lt (tgt := 15) hx hb dX7_strike_1 (by decide) (fun c1 => ?_) (fun c1 => ?_)
  · replace h := tx_pos c1 h
    refine lv_iconst (v := (-1)) hx hb dX7_strike_15 (by decide) ?_
    obtain ⟨rfl, rfl⟩ := tx_2 h
    exact W.iret hx hb hr (fun t ht hW => ⟨⟨_, (), rfl, rfl, by rw [ht]; exact hP, hD⟩, hS.F ht⟩) hS.2.2 dX7_strike_16
  · replace h := tx_neg c1 h
    refine lv_iload_n hx hb dX7_strike_4 rfl (lv_at hl 1 rfl) ?_
    refine lv_aload_n hx hb dX7_strike_5 rfl (lv_at hl 0 rfl) ?_
    refine va_get (D := G) (ci := 7) (v := .ref (za 0)) (C := RX7) (T := TX7) (N := 12) hx hb hT ku_7 hown hK hP 0 rfl rfl 8 (by decide) (hT _ kw_2_12) (fun _ h9 => h9) rfl dX7_strike_6 ?_
    refine va_get (D := G) (ci := 4) (v := .int (Z 0 0)) (C := RX4) (T := TX4) (N := 7) hx hb hT ku_4 hown hK hP 103 rfl rfl 0 (by decide) (hT _ kw_54_17) (fun _ h9 => h9) rfl dX7_strike_9 ?_
    refine lv_icmp_lt (tgt := 17) hx hb dX7_strike_12 (by decide) (fun c2 => ?_) (fun c2 => ?_)
    · replace h := tx_pos c2 h
      refine lv_aload_n hx hb dX7_strike_17 rfl (lv_at hl 0 rfl) ?_
      refine va_get (D := G) (ci := 7) (v := .ref (za 0)) (C := RX7) (T := TX7) (N := 12) hx hb hT ku_7 hown hK hP 0 rfl rfl 8 (by decide) (hT _ kw_2_12) (fun _ h9 => h9) rfl dX7_strike_18 ?_
      refine lv_iconst (v := (-1)) hx hb dX7_strike_21 (by decide) ?_
      refine lv_iload_n hx hb dX7_strike_22 rfl (lv_at hl 1 rfl) ?_
      refine lv_iconst (v := 0) hx hb dX7_strike_23 (by decide) ?_
      refine lv_iconst (v := 0) hx hb dX7_strike_24 (by decide) ?_
      replace h := tx_bd h
      obtain ⟨⟨r3, Z_4⟩, hc5, h⟩ := h
      replace h := tx_let (y := r3) rfl h
      replace h := tx_let (y := Z_4) rfl h
      refine tz_i (As := [.int (-1), .int x1, .int 0, .int 0]) (rest := []) ⟨hx, hb, hml, hown, hT⟩ hP hD hS hA hK hN (c_X4_add_x l G cA H.size xa ka ra na ia ua va ca za pa qa X K R P L P2 L2 Tn Ti Tu Tv C Z q0 q1 q2 q3 q4 q5 (-1 : Int32) x1 (0 : Int32) (0 : Int32)  r3 Z_4 hc5) (tq_gV kw_54_1 kw_54_2 kw_54_3 kw_2_11 kw_54_4) rfl rfl dkdV_yX4_add_4 (Nat.le_of_ble_eq_true rfl) (Nat.le_of_ble_eq_true rfl) (ci := 4) (q0 := 103) rfl rfl rfl hl.1 rfl (Nat.le_of_ble_eq_true rfl) dX7_strike_25 ⟨Nat.le_of_ble_eq_true rfl, Nat.le_of_ble_eq_true rfl⟩ (fun _ _ H locs z6 hP hD hS => ?_)
      have z6 := z6.symm
      subst z6
      have hP : va_P G vwCl (wX cA xa ka ra na ia ua va ca za pa qa X K R P L P2 L2 Tn Ti Tu Tv C Z_4 q0 q1 q2 q3 q4 q5) H := hP
      have hD : va_D A (wX cA xa ka ra na ia ua va ca za pa qa X K R P L P2 L2 Tn Ti Tu Tv C Z_4 q0 q1 q2 q3 q4 q5) := hD
      obtain ⟨rfl, rfl⟩ := tx_2 h
      exact W.iret hx hb hr (fun t ht hW => ⟨⟨_, (), rfl, rfl, by rw [ht]; exact hP, hD⟩, hS.F ht⟩) hS.2.2 dX7_strike_28
    · replace h := tx_neg c2 h
      refine lv_iconst (v := (-1)) hx hb dX7_strike_15 (by decide) ?_
      obtain ⟨rfl, rfl⟩ := tx_2 h
      exact W.iret hx hb hr (fun t ht hW => ⟨⟨_, (), rfl, rfl, by rw [ht]; exact hP, hD⟩, hS.F ht⟩) hS.2.2 dX7_strike_16
abbrev G_X4_forget_x (p : Program) (l : Launch) (e : Env) (s : State) (m : MethodId) (below : List Frame) (meth : Method) (c : Code) (G : va_G) (cA : Nat → ClassId) (A : Nat → Prop) (xa : Nat → Nat) (ka : Nat → Nat) (ra : Nat → Nat) (na : Nat → Nat) (ia : Nat → Nat) (ua : Nat → Nat) (va : Nat → Nat) (ca : Nat → Nat) (za : Nat → Nat) (pa : Nat → Nat) (qa : Nat → Nat) (X : Tr) (K : Tr) (R : Tr) (P : Tr) (L : Lo) (P2 : Tr) (L2 : Lo) (Tn : Tr) (Ti : Tr) (Tu : Tr) (Tv : Tr) (C : Tr) (q0 : Nat) (q1 : Nat) (q2 : Nat) (q3 : Nat) (q4 : Nat) (q5 : Nat) (Z' : Tr) (H : Heap) (locs : List Loc) (g : JFrame) : Prop := W p l e (headSpec (.code yX4_forget cX4_forget 1 none :: T0) ({ frames := 0, cells := 0, slots := 0, locals := 0 } : Room)).room s m ([.ref (za 0)] : List Value).toArray below meth c H locs 0 0 (MQ below (tqQv G cA (fun (_ : Unit) => True) (fun (_ : Unit) => wX cA xa ka ra na ia ua va ca za pa qa X K R P L P2 L2 Tn Ti Tu Tv C (Z') q0 q1 q2 q3 q4 q5) A) ([.ref (za 0)] : List Value).toArray s 0 0 A) g
set_option maxHeartbeats 4000000 in
set_option maxRecDepth 100000 in
theorem c_X4_forget_x (l : Launch) (G : va_G) (cA : Nat → ClassId) (sz : Nat) (xa : Nat → Nat) (ka : Nat → Nat) (ra : Nat → Nat) (na : Nat → Nat) (ia : Nat → Nat) (ua : Nat → Nat) (va : Nat → Nat) (ca : Nat → Nat) (za : Nat → Nat) (pa : Nat → Nat) (qa : Nat → Nat) (X : Tr) (K : Tr) (R : Tr) (P : Tr) (L : Lo) (P2 : Tr) (L2 : Lo) (Tn : Tr) (Ti : Tr) (Tu : Tr) (Tv : Tr) (C : Tr) (Z : Tr) (q0 : Nat) (q1 : Nat) (q2 : Nat) (q3 : Nat) (q4 : Nat) (q5 : Nat)  (Z' : Tr) (h : f_X4_forget_x pa qa Z = some Z') : Met l yX4_forget (.code yX4_forget cX4_forget 1 none :: T0) ({ frames := 0, cells := 0, slots := 0, locals := 0 } : Room) (tqP G cA [.ref (za 0)] (wX cA xa ka ra na ia ua va ca za pa qa X K R P L P2 L2 Tn Ti Tu Tv C Z q0 q1 q2 q3 q4 q5) sz) (tqQv G cA (fun (_ : Unit) => True) (fun (_ : Unit) => wX cA xa ka ra na ia ua va ca za pa qa X K R P L P2 L2 Tn Ti Tu Tv C (Z') q0 q1 q2 q3 q4 q5) (va_A (wX cA xa ka ra na ia ua va ca za pa qa X K R P L P2 L2 Tn Ti Tu Tv C Z q0 q1 q2 q3 q4 q5) sz)) 0 0 (va_A (wX cA xa ka ra na ia ua va ca za pa qa X K R P L P2 L2 Tn Ti Tu Tv C Z q0 q1 q2 q3 q4 q5) sz) := by
  refine Met.ofW (cc := cX4_forget) (maxL := 1) (ret := none) (by decide) rfl ?_
  intro p e s m args below meth c s₁ B hml hv
  obtain ⟨rfl, hsz, hP, hK, hD0, hN⟩ := hv
  have hx := B.exec
  have hb := B.bytes
  have hr := B.returns
  have hts := atoms_spec (ws := .code yX4_forget cX4_forget 1 none :: T0) B.pre
  have hT : ∀ w ∈ T0, w.before _ s = true := fun w h => hts w (List.mem_cons_of_mem _ h)
  have hown : s.vm.findClass RX4 = some m.cls := findClass_of_methodNamed B.named
  have hlocks := B.notSynchronized
  subst hsz
  have hD := hD0.self (sz := s.heap.size)
  generalize hAe : va_A (wX cA xa ka ra na ia ua va ca za pa qa X K R P L P2 L2 Tn Ti Tu Tv C Z q0 q1 q2 q3 q4 q5) s.heap.size = A at hD ⊢
  have hA : ∀ q : Nat, s.heap.size ≤ q → A q := fun q h => by rw [← hAe]; exact Or.inr h
  have hS : va_S A s.heap s.heap [] := va_S.rf
  have hl := lv_entry ([.ref (za 0)]) (n := 1) (Nat.le_of_ble_eq_true rfl)
  rw [lg_entry_eq]
  generalize (lg_sl ([.ref (za 0)]) ++ List.replicate (1 - (lg_sl ([.ref (za 0)])).length) Slot.unset).toArray = ls at hl ⊢
  have hl : lv_has ls 1 [(0, .ref (za 0))] := hl
  have F : tF p s m ([.ref (za 0)] : List Value).toArray meth c G cA A RX4 cX4_forget 1 none := ⟨hx, hb, hr, hml, hT, hown, hlocks, hK, hN, hA⟩
  obtain ⟨H, hH⟩ : ∃ z, z = s.heap := ⟨_, rfl⟩
  rw [← hH] at hP
  have hS : va_S A s.heap H [] := by rw [hH]; exact hS
  suffices hgo : G_X4_forget_x p l e s m below meth c G cA A xa ka ra na ia ua va ca za pa qa X K R P L P2 L2 Tn Ti Tu Tv C q0 q1 q2 q3 q4 q5 Z' H [] (F0 m 0 ls []) by rw [hH] at hgo; exact hgo
  generalize ([] : List Loc) = locs at hS ⊢
  unfold f_X4_forget_x at h
  refine lv_aload_n hx hb dX4_forget_0 rfl (lv_at hl 0 rfl) ?_
  refine lv_iconst (v := 0) hx hb dX4_forget_1 (by decide) ?_
  refine va_put (D := G) (ci := 4) (v := .int 0) (ty := .int) (C := RX4) (T := TX4) (N := 7) hx hb hT ku_4 tyX4 tyX4_ok nmX4 hown hK hP hD hS 103 rfl rfl 0 (by decide) (hT _ kw_8_22) (fun _ h9 => h9) rfl (by decide +kernel) rfl rfl (Nat.le_of_ble_eq_true rfl) dX4_forget_2 (fun H locs hP hD hS => ?_)
  replace h := tx_lt h
  obtain ⟨Z_1, eZ_1, h⟩ := h
  rw [sX_za_f0, eZ_1] at hP hD
  refine lv_aload_n hx hb dX4_forget_5 rfl (lv_at hl 0 rfl) ?_
  refine lv_iconst (v := (-1)) hx hb dX4_forget_6 (by decide) ?_
  refine va_put (D := G) (ci := 4) (v := .int (-1)) (ty := .int) (C := RX4) (T := TX4) (N := 7) hx hb hT ku_4 tyX4 tyX4_ok nmX4 hown hK hP hD hS 103 rfl rfl 1 (by decide) (hT _ kw_8_23) (fun _ h9 => h9) rfl (by decide +kernel) rfl rfl (Nat.le_of_ble_eq_true rfl) dX4_forget_7 (fun H locs hP hD hS => ?_)
  replace h := tx_lt h
  obtain ⟨Z_2, eZ_2, h⟩ := h
  rw [sX_za_f1, eZ_2] at hP hD
  obtain rfl := tx_1 h
  exact W.vret hx hb hr (fun t ht hW => ⟨⟨(), rfl, trivial, by rw [ht]; exact hP, hD⟩, hS.F ht⟩) hS.2.2 dX4_forget_10
abbrev G_X7_text (p : Program) (l : Launch) (e : Env) (s : State) (m : MethodId) (below : List Frame) (meth : Method) (c : Code) (G : va_G) (cA : Nat → ClassId) (A : Nat → Prop) (bA : Nat) (xa : Nat → Nat) (ka : Nat → Nat) (ra : Nat → Nat) (na : Nat → Nat) (ia : Nat → Nat) (ua : Nat → Nat) (va : Nat → Nat) (ca : Nat → Nat) (za : Nat → Nat) (pa : Nat → Nat) (qa : Nat → Nat) (P : Tr) (L : Lo) (L2 : Lo) (Ti : Tr) (Tu : Tr) (Tv : Tr) (q1 : Nat) (q2 : Nat) (q3 : Nat) (x1 : Int32) (r0 : Int32) (X' : Tr) (K' : Tr) (R' : Tr) (P2' : Tr) (Tn' : Tr) (C' : Tr) (Z' : Tr) (q0' : Nat) (q4' : Nat) (q5' : Nat) (H : Heap) (locs : List Loc) (g : JFrame) : Prop := W p l e (headSpec (.code yX7_text cX7_text 4 (some .int) :: T0) ({ frames := 7, cells := 0, slots := 0, locals := 155 } : Room)).room s m ([.ref (xa 0), .int x1] : List Value).toArray below meth c H locs 0 0 (MQ below (tqQi G cA (fun (r : Int32) (_ : Unit) => r = r0) (fun (_ : Unit) => wX cA xa ka ra na ia ua va ca za pa qa (X') (K') (R') P L (P2') L2 (Tn') Ti Tu Tv (C') (Z') (q0') q1 q2 q3 (q4') (q5')) A) ([.ref (xa 0), .int x1] : List Value).toArray s 0 0 A) g
set_option maxHeartbeats 4000000 in
set_option maxRecDepth 100000 in
theorem c_X7_text (l : Launch) (G : va_G) (cA : Nat → ClassId) (sz : Nat) (bA : Nat) (xa : Nat → Nat) (ka : Nat → Nat) (ra : Nat → Nat) (na : Nat → Nat) (ia : Nat → Nat) (ua : Nat → Nat) (va : Nat → Nat) (ca : Nat → Nat) (za : Nat → Nat) (pa : Nat → Nat) (qa : Nat → Nat) (X : Tr) (K : Tr) (R : Tr) (P : Tr) (L : Lo) (P2 : Tr) (L2 : Lo) (Tn : Tr) (Ti : Tr) (Tu : Tr) (Tv : Tr) (C : Tr) (Z : Tr) (q0 : Nat) (q1 : Nat) (q2 : Nat) (q3 : Nat) (q4 : Nat) (q5 : Nat) (x1 : Int32)  (r0 : Int32) (X' : Tr) (K' : Tr) (R' : Tr) (P2' : Tr) (Tn' : Tr) (C' : Tr) (Z' : Tr) (q0' : Nat) (q4' : Nat) (q5' : Nat) (h : f_X7_text pa qa X K R P2 Tn C Z q0 q4 q5 x1 = some (r0, X', K', R', P2', Tn', C', Z', q0', q4', q5')) : Met l yX7_text (.code yX7_text cX7_text 4 (some .int) :: T0) ({ frames := 7, cells := 0, slots := 0, locals := 155 } : Room) (tqPB bA G cA [.ref (xa 0), .int x1] (wX cA xa ka ra na ia ua va ca za pa qa X K R P L P2 L2 Tn Ti Tu Tv C Z q0 q1 q2 q3 q4 q5) sz) (tqQi G cA (fun (r : Int32) (_ : Unit) => r = r0) (fun (_ : Unit) => wX cA xa ka ra na ia ua va ca za pa qa (X') (K') (R') P L (P2') L2 (Tn') Ti Tu Tv (C') (Z') (q0') q1 q2 q3 (q4') (q5')) (va_A (wX cA xa ka ra na ia ua va ca za pa qa X K R P L P2 L2 Tn Ti Tu Tv C Z q0 q1 q2 q3 q4 q5) sz)) 0 0 (va_A (wX cA xa ka ra na ia ua va ca za pa qa X K R P L P2 L2 Tn Ti Tu Tv C Z q0 q1 q2 q3 q4 q5) sz) := by
  refine Met.ofW (cc := cX7_text) (maxL := 4) (ret := (some .int)) (by decide) rfl ?_
  intro p e s m args below meth c s₁ B hml hv
  obtain ⟨rfl, hsz, hP, hK, hD0, hN, hB⟩ := hv
  have hx := B.exec
  have hb := B.bytes
  have hr := B.returns
  have hts := atoms_spec (ws := .code yX7_text cX7_text 4 (some .int) :: T0) B.pre
  have hT : ∀ w ∈ T0, w.before _ s = true := fun w h => hts w (List.mem_cons_of_mem _ h)
  have hown : s.vm.findClass RX7 = some m.cls := findClass_of_methodNamed B.named
  have hlocks := B.notSynchronized
  subst hsz
  have hD := hD0.self (sz := s.heap.size)
  generalize hAe : va_A (wX cA xa ka ra na ia ua va ca za pa qa X K R P L P2 L2 Tn Ti Tu Tv C Z q0 q1 q2 q3 q4 q5) s.heap.size = A at hD hB ⊢
  have hA : ∀ q : Nat, s.heap.size ≤ q → A q := fun q h => by rw [← hAe]; exact Or.inr h
  have hS : va_S A s.heap s.heap [] := va_S.rf
  have hl := lv_entry ([.ref (xa 0), .int x1]) (n := 4) (Nat.le_of_ble_eq_true rfl)
  rw [lg_entry_eq]
  generalize (lg_sl ([.ref (xa 0), .int x1]) ++ List.replicate (4 - (lg_sl ([.ref (xa 0), .int x1])).length) Slot.unset).toArray = ls at hl ⊢
  have hl : lv_has ls 4 [(0, .ref (xa 0)), (1, .int x1)] := hl
  have F : tF p s m ([.ref (xa 0), .int x1] : List Value).toArray meth c G cA A RX7 cX7_text 4 (some .int) := ⟨hx, hb, hr, hml, hT, hown, hlocks, hK, hN, hA⟩
  obtain ⟨H, hH⟩ : ∃ z, z = s.heap := ⟨_, rfl⟩
  rw [← hH] at hP
  have hS : va_S A s.heap H [] := by rw [hH]; exact hS
  suffices hgo : G_X7_text p l e s m below meth c G cA A bA xa ka ra na ia ua va ca za pa qa P L L2 Ti Tu Tv q1 q2 q3 x1 r0 X' K' R' P2' Tn' C' Z' q0' q4' q5' H [] (F0 m 0 ls []) by rw [hH] at hgo; exact hgo
  generalize ([] : List Loc) = locs at hS ⊢
  unfold f_X7_text at h
  refine lv_iload_n hx hb dX7_text_0 rfl (lv_at hl 1 rfl) ?_
  refine lv_if_lt (tgt := 18) hx hb dX7_text_1 (by decide) (fun c1 => ?_) (fun c1 => ?_)
  · replace h := tx_pos c1 h
    refine lv_bipush (v := (-2)) hx hb dX7_text_18 (by decide) ?_
    obtain ⟨rfl, rfl, rfl, rfl, rfl, rfl, rfl, rfl, rfl, rfl, rfl⟩ := tx_11 h
    exact W.iret hx hb hr (fun t ht hW => ⟨⟨_, (), rfl, rfl, by rw [ht]; exact hP, hD⟩, hS.F ht⟩) hS.2.2 dX7_text_20
  · replace h := tx_neg c1 h
    refine lv_iload_n hx hb dX7_text_4 rfl (lv_at hl 1 rfl) ?_
    refine lv_aload_n hx hb dX7_text_5 rfl (lv_at hl 0 rfl) ?_
    refine va_get (D := G) (ci := 7) (v := .ref (ra 0)) (C := RX7) (T := TX7) (N := 12) hx hb hT ku_7 hown hK hP 0 rfl rfl 0 (by decide) (hT _ kw_1_16) (fun _ h9 => h9) rfl dX7_text_6 ?_
    refine va_get (D := G) (ci := 3) (v := .ref (ka 0)) (C := RX3) (T := TX3) (N := 10) hx hb hT ku_3 hown hK hP 7 rfl rfl 0 (by decide) (hT _ kw_13_13) (fun _ h9 => h9) rfl dX7_text_9 ?_
    refine va_get (D := G) (ci := 5) (v := .int (K 0 0)) (C := RX5) (T := TX5) (N := 8) hx hb hT ku_5 hown hK hP 4 rfl rfl 0 (by decide) (hT _ kw_13_14) (fun _ h9 => h9) rfl dX7_text_12 ?_
    refine lv_icmp_le (tgt := 21) hx hb dX7_text_15 (by decide) (fun c2 => ?_) (fun c2 => ?_)
    · replace h := tx_pos c2 h
      refine lv_aload_n hx hb dX7_text_21 rfl (lv_at hl 0 rfl) ?_
      refine va_get (D := G) (ci := 7) (v := .ref (ra 0)) (C := RX7) (T := TX7) (N := 12) hx hb hT ku_7 hown hK hP 0 rfl rfl 0 (by decide) (hT _ kw_1_16) (fun _ h9 => h9) rfl dX7_text_22 ?_
      refine lv_iload_n hx hb dX7_text_25 rfl (lv_at hl 1 rfl) ?_
      replace h := tx_ck h
      obtain ⟨g3, h⟩ := h
      have eg3 := of_decide_eq_true g3
      subst eg3
      replace h := tx_bd h
      obtain ⟨⟨r4, K_5, R_6, P2_7⟩, hc8, h⟩ := h
      replace h := tx_let (y := r4) rfl h
      replace h := tx_let (y := K_5) rfl h
      replace h := tx_let (y := R_6) rfl h
      replace h := tx_let (y := P2_7) rfl h
      refine tw_ci pX_r hP hD hS hA (va_runV (As := [.int x1]) (rest := []) ⟨hx, hb, hml, hown, hT⟩ (c_X3_readText l G cA H.size bA ka ra qa K R P2 L2 x1  r4 K_5 R_6 P2_7 hc8) (cwV 1 hT (tq_gV kw_14_9 kw_14_10 kw_14_11 kw_1_15 kw_14_12) rfl rfl rfl dkdV_yX3_readText_1 ⟨Nat.le_of_ble_eq_true rfl, Nat.le_of_ble_eq_true rfl⟩) ⟨(tw_preB (H0 := H) pX_r hP hD hK hN hS hA hB).1, va_recv hK hP (ci := 3) (q0 := 7) rfl rfl, (tw_preB (H0 := H) pX_r hP hD hK hN hS hA hB).2⟩ rfl rfl hl.1 rfl (lv_room (Nat.le_of_ble_eq_true rfl)) dX7_text_26 ⟨Nat.le_of_ble_eq_true rfl, Nat.le_of_ble_eq_true rfl⟩) (fun _ _ H locs z9 hP hD hS => ?_)
      have z9 := z9.symm
      subst z9
      replace hP := tw_P pX_r.symm hP
      replace hD := tw_D pX_r.symm hD
      have hP : va_P G vwCl (wX cA xa ka ra na ia ua va ca za pa qa X K_5 R_6 P L P2_7 L2 Tn Ti Tu Tv C Z q0 q1 q2 q3 q4 (qa 0)) H := hP
      have hD : va_D A (wX cA xa ka ra na ia ua va ca za pa qa X K_5 R_6 P L P2_7 L2 Tn Ti Tu Tv C Z q0 q1 q2 q3 q4 (qa 0)) := hD
      refine lv_istore_n (lv' := [(2, .int r4), (0, .ref (xa 0)), (1, .int x1)]) hx hb dX7_text_29 rfl hl (by decide) rfl (fun ls hl => ?_)
      refine lv_aload_n hx hb dX7_text_30 rfl (lv_at hl 1 rfl) ?_
      refine va_get (D := G) (ci := 7) (v := .ref (ra 0)) (C := RX7) (T := TX7) (N := 12) hx hb hT ku_7 hown hK hP 0 rfl rfl 0 (by decide) (hT _ kw_1_16) (fun _ h9 => h9) rfl dX7_text_31 ?_
      refine va_get (D := G) (ci := 3) (v := .ref (ka 0)) (C := RX3) (T := TX3) (N := 10) hx hb hT ku_3 hown hK hP 7 rfl rfl 0 (by decide) (hT _ kw_13_13) (fun _ h9 => h9) rfl dX7_text_34 ?_
      refine lv_iconst (v := 0) hx hb dX7_text_37 (by decide) ?_
      refine va_put (D := G) (ci := 5) (v := .int 0) (ty := .int) (C := RX5) (T := TX5) (N := 8) hx hb hT ku_5 tyX5 tyX5_ok nmX5 hown hK hP hD hS 4 rfl rfl 0 (by decide) (hT _ kw_13_14) (fun _ h9 => h9) rfl (by decide +kernel) rfl rfl (Nat.le_of_ble_eq_true rfl) dX7_text_38 (fun H locs hP hD hS => ?_)
      replace h := tx_lt h
      obtain ⟨K_10, eK_10, h⟩ := h
      rw [sX_ka_f0, eK_10] at hP hD
      refine lv_iload_n hx hb dX7_text_41 rfl (lv_at hl 0 rfl) ?_
      refine lv_if_ne (tgt := 47) hx hb dX7_text_42 (by decide) (fun c11 => ?_) (fun c11 => ?_)
      · replace h := tx_neg c11 h
        refine lv_aload_n hx hb dX7_text_47 rfl (lv_at hl 1 rfl) ?_
        refine va_get (D := G) (ci := 7) (v := .ref q4) (C := RX7) (T := TX7) (N := 12) hx hb hT ku_7 hown hK hP 0 rfl rfl 1 (by decide) (hT _ kw_1_20) (fun _ h9 => h9) rfl dX7_text_48 ?_
        refine lv_astore_n (lv' := [(3, .ref q4), (2, .int r4), (0, .ref (xa 0)), (1, .int x1)]) hx hb dX7_text_51 rfl hl (by decide) rfl (fun ls hl => ?_)
        refine lv_aload_n hx hb dX7_text_52 rfl (lv_at hl 2 rfl) ?_
        refine lv_aload_n hx hb dX7_text_53 rfl (lv_at hl 2 rfl) ?_
        refine va_get (D := G) (ci := 7) (v := .ref (ra 0)) (C := RX7) (T := TX7) (N := 12) hx hb hT ku_7 hown hK hP 0 rfl rfl 0 (by decide) (hT _ kw_1_16) (fun _ h9 => h9) rfl dX7_text_54 ?_
        refine va_get (D := G) (ci := 3) (v := .ref (qa 0)) (C := RX3) (T := TX3) (N := 10) hx hb hT ku_3 hown hK hP 7 rfl rfl 4 (by decide) (hT _ kw_14_6) (fun _ h9 => h9) rfl dX7_text_57 ?_
        refine va_put (D := G) (ci := 7) (v := .ref (qa 0)) (ty := (.object "RackTrain$Plan")) (C := RX7) (T := TX7) (N := 12) hx hb hT ku_7 tyX7 tyX7_ok nmX7 hown hK hP hD hS 0 rfl rfl 1 (by decide) (hT _ kw_1_20) (fun _ h9 => h9) rfl (by decide +kernel) rfl rfl (Nat.le_of_ble_eq_true rfl) dX7_text_60 (fun H locs hP hD hS => ?_)
        rw [sX_xa_r1] at hP hD
        refine lv_aload_n hx hb dX7_text_63 rfl (lv_at hl 2 rfl) ?_
        refine va_get (D := G) (ci := 7) (v := .ref (ra 0)) (C := RX7) (T := TX7) (N := 12) hx hb hT ku_7 hown hK hP 0 rfl rfl 0 (by decide) (hT _ kw_1_16) (fun _ h9 => h9) rfl dX7_text_64 ?_
        refine lv_aload_n hx hb dX7_text_67 rfl (lv_at hl 0 rfl) ?_
        refine va_put (D := G) (ci := 3) (v := .ref q4) (ty := (.object "RackTrain$Plan")) (C := RX3) (T := TX3) (N := 10) hx hb hT ku_3 tyX3 tyX3_ok nmX3 hown hK hP hD hS 7 rfl rfl 4 (by decide) (hT _ kw_14_6) (fun _ h9 => h9) rfl (by decide +kernel) rfl rfl (Nat.le_of_ble_eq_true rfl) dX7_text_68 (fun H locs hP hD hS => ?_)
        rw [sX_ra_r4] at hP hD
        refine lv_aload_n hx hb dX7_text_71 rfl (lv_at hl 2 rfl) ?_
        refine va_get (D := G) (ci := 7) (v := .ref (na 0)) (C := RX7) (T := TX7) (N := 12) hx hb hT ku_7 hown hK hP 0 rfl rfl 2 (by decide) (hT _ kw_2_0) (fun _ h9 => h9) rfl dX7_text_72 ?_
        refine lv_aload_n hx hb dX7_text_75 rfl (lv_at hl 2 rfl) ?_
        refine va_get (D := G) (ci := 7) (v := .ref (qa 0)) (C := RX7) (T := TX7) (N := 12) hx hb hT ku_7 hown hK hP 0 rfl rfl 1 (by decide) (hT _ kw_1_20) (fun _ h9 => h9) rfl dX7_text_76 ?_
        replace h := tx_bd h
        obtain ⟨⟨Tn_12, q0_13⟩, hc14, h⟩ := h
        replace h := tx_let (y := Tn_12) rfl h
        replace h := tx_let (y := q0_13) rfl h
        refine tw_cv pX_na_qa hP hD hS hA (va_runV (As := [.ref (qa 0)]) (rest := []) ⟨hx, hb, hml, hown, hT⟩ (c_X6_begin l G cA H.size na qa Tn P2_7 q0  Tn_12 q0_13 hc14) (cwV 1 hT (tq_gV kw_22_2 kw_7_22 kw_7_23 kw_1_23 kw_8_0) rfl rfl rfl dkdV_yX6_begin_1 ⟨Nat.le_of_ble_eq_true rfl, Nat.le_of_ble_eq_true rfl⟩) ⟨(tw_pre pX_na_qa hP hD hK hN).1, va_recv hK hP (ci := 6) (q0 := 53) rfl rfl, (tw_pre pX_na_qa hP hD hK hN).2⟩ rfl rfl hl.1 rfl (lv_room (Nat.le_of_ble_eq_true rfl)) dX7_text_79 ⟨Nat.le_of_ble_eq_true rfl, Nat.le_of_ble_eq_true rfl⟩) (fun _ H locs z15 hP hD hS => ?_)
        replace hP := tw_P pX_na_qa.symm hP
        replace hD := tw_D pX_na_qa.symm hD
        have hP : va_P G vwCl (wX cA xa ka ra na ia ua va ca za pa qa X K_10 R_6 P L P2_7 L2 Tn_12 Ti Tu Tv C Z q0_13 q1 q2 q3 (qa 0) q4) H := hP
        have hD : va_D A (wX cA xa ka ra na ia ua va ca za pa qa X K_10 R_6 P L P2_7 L2 Tn_12 Ti Tu Tv C Z q0_13 q1 q2 q3 (qa 0) q4) := hD
        refine lv_aload_n hx hb dX7_text_82 rfl (lv_at hl 2 rfl) ?_
        refine lv_iconst (v := 0) hx hb dX7_text_83 (by decide) ?_
        refine va_put (D := G) (ci := 7) (v := .int 0) (ty := .boolean) (C := RX7) (T := TX7) (N := 12) hx hb hT ku_7 tyX7 tyX7_ok nmX7 hown hK hP hD hS 0 rfl rfl 4 (by decide) (hT _ kw_2_2) (fun _ h9 => h9) rfl (by decide +kernel) rfl rfl (Nat.le_of_ble_eq_true rfl) dX7_text_84 (fun H locs hP hD hS => ?_)
        replace h := tx_lt h
        obtain ⟨X_16, eX_16, h⟩ := h
        rw [sX_xa_f4, eX_16] at hP hD
        refine lv_aload_n hx hb dX7_text_87 rfl (lv_at hl 2 rfl) ?_
        refine va_get (D := G) (ci := 7) (v := .ref (ca 0)) (C := RX7) (T := TX7) (N := 12) hx hb hT ku_7 hown hK hP 0 rfl rfl 7 (by decide) (hT _ kw_2_8) (fun _ h9 => h9) rfl dX7_text_88 ?_
        refine lv_iconst (v := 0) hx hb dX7_text_91 (by decide) ?_
        refine va_put (D := G) (ci := 0) (v := .int 0) (ty := .int) (C := RX0) (T := TX0) (N := 3) hx hb hT ku_0 tyX0 tyX0_ok nmX0 hown hK hP hD hS 101 rfl rfl 0 (by decide) (hT _ kw_14_7) (fun _ h9 => h9) rfl (by decide +kernel) rfl rfl (Nat.le_of_ble_eq_true rfl) dX7_text_92 (fun H locs hP hD hS => ?_)
        replace h := tx_lt h
        obtain ⟨C_17, eC_17, h⟩ := h
        rw [sX_ca_f0, eC_17] at hP hD
        refine lv_aload_n hx hb dX7_text_95 rfl (lv_at hl 2 rfl) ?_
        refine va_get (D := G) (ci := 7) (v := .ref (za 0)) (C := RX7) (T := TX7) (N := 12) hx hb hT ku_7 hown hK hP 0 rfl rfl 8 (by decide) (hT _ kw_2_12) (fun _ h9 => h9) rfl dX7_text_96 ?_
        replace h := tx_bd h
        obtain ⟨Z_18, hc19, h⟩ := h
        refine tz_v (As := []) (rest := []) ⟨hx, hb, hml, hown, hT⟩ hP hD hS hA hK hN (c_X4_forget_x l G cA H.size xa ka ra na ia ua va ca za pa qa X_16 K_10 R_6 P L P2_7 L2 Tn_12 Ti Tu Tv C_17 Z q0_13 q1 q2 q3 (qa 0) q4  Z_18 hc19) (tq_gV kw_22_3 kw_22_4 kw_22_5 kw_2_11 kw_22_6) rfl rfl dkdV_yX4_forget_0 (Nat.le_of_ble_eq_true rfl) (Nat.le_of_ble_eq_true rfl) (ci := 4) (q0 := 103) rfl rfl rfl hl.1 rfl (Nat.le_of_ble_eq_true rfl) dX7_text_99 ⟨Nat.le_of_ble_eq_true rfl, Nat.le_of_ble_eq_true rfl⟩ (fun _ H locs z20 hP hD hS => ?_)
        have hP : va_P G vwCl (wX cA xa ka ra na ia ua va ca za pa qa X_16 K_10 R_6 P L P2_7 L2 Tn_12 Ti Tu Tv C_17 Z_18 q0_13 q1 q2 q3 (qa 0) q4) H := hP
        have hD : va_D A (wX cA xa ka ra na ia ua va ca za pa qa X_16 K_10 R_6 P L P2_7 L2 Tn_12 Ti Tu Tv C_17 Z_18 q0_13 q1 q2 q3 (qa 0) q4) := hD
        refine lv_aload_n hx hb dX7_text_102 rfl (lv_at hl 2 rfl) ?_
        refine va_get (D := G) (ci := 7) (v := .ref (ra 0)) (C := RX7) (T := TX7) (N := 12) hx hb hT ku_7 hown hK hP 0 rfl rfl 0 (by decide) (hT _ kw_1_16) (fun _ h9 => h9) rfl dX7_text_103 ?_
        refine va_get (D := G) (ci := 3) (v := .int (R_6 0 3)) (C := RX3) (T := TX3) (N := 10) hx hb hT ku_3 hown hK hP 7 rfl rfl 3 (by decide) (hT _ kw_14_8) (fun _ h9 => h9) rfl dX7_text_106 ?_
        obtain ⟨rfl, rfl, rfl, rfl, rfl, rfl, rfl, rfl, rfl, rfl, rfl⟩ := tx_11 h
        exact W.iret hx hb hr (fun t ht hW => ⟨⟨_, (), rfl, rfl, by rw [ht]; exact hP, hD⟩, hS.F ht⟩) hS.2.2 dX7_text_109
      · replace h := tx_pos c11 h
        refine lv_iconst (v := (-1)) hx hb dX7_text_45 (by decide) ?_
        obtain ⟨rfl, rfl, rfl, rfl, rfl, rfl, rfl, rfl, rfl, rfl, rfl⟩ := tx_11 h
        exact W.iret hx hb hr (fun t ht hW => ⟨⟨_, (), rfl, rfl, by rw [ht]; exact hP, hD⟩, hS.F ht⟩) hS.2.2 dX7_text_46
    · replace h := tx_neg c2 h
      refine lv_bipush (v := (-2)) hx hb dX7_text_18 (by decide) ?_
      obtain ⟨rfl, rfl, rfl, rfl, rfl, rfl, rfl, rfl, rfl, rfl, rfl⟩ := tx_11 h
      exact W.iret hx hb hr (fun t ht hW => ⟨⟨_, (), rfl, rfl, by rw [ht]; exact hP, hD⟩, hS.F ht⟩) hS.2.2 dX7_text_20
abbrev G_X7_tried (p : Program) (l : Launch) (e : Env) (s : State) (m : MethodId) (below : List Frame) (meth : Method) (c : Code) (G : va_G) (cA : Nat → ClassId) (A : Nat → Prop) (xa : Nat → Nat) (ka : Nat → Nat) (ra : Nat → Nat) (na : Nat → Nat) (ia : Nat → Nat) (ua : Nat → Nat) (va : Nat → Nat) (ca : Nat → Nat) (za : Nat → Nat) (pa : Nat → Nat) (qa : Nat → Nat) (X : Tr) (K : Tr) (R : Tr) (P : Tr) (P2 : Tr) (L2 : Lo) (Tn : Tr) (Ti : Tr) (Tv : Tr) (C : Tr) (Z : Tr) (q0 : Nat) (q1 : Nat) (q3 : Nat) (q4 : Nat) (q5 : Nat) (x1 : Int32) (x2 : Int32) (r0 : Int32) (L' : Lo) (Tu' : Tr) (q2' : Nat) (H : Heap) (locs : List Loc) (g : JFrame) : Prop := W p l e (headSpec (.code yX7_tried cX7_tried 3 (some .int) :: T0) ({ frames := 7, cells := 0, slots := 0, locals := 173 } : Room)).room s m ([.ref (xa 0), .int x1, .int x2] : List Value).toArray below meth c H locs 0 0 (MQ below (tqQi G cA (fun (r : Int32) (_ : Unit) => r = r0) (fun (_ : Unit) => wX cA xa ka ra na ia ua va ca za pa qa X K R P (L') P2 L2 Tn Ti (Tu') Tv C Z q0 q1 (q2') q3 q4 q5) A) ([.ref (xa 0), .int x1, .int x2] : List Value).toArray s 0 0 A) g
set_option maxHeartbeats 4000000 in
set_option maxRecDepth 100000 in
theorem w_X7_tried_J119 {p : Program} {l : Launch} {e : Env} {s : State} {m : MethodId} {below : List Frame} {meth : Method} {c : Code} {G : va_G} {cA : Nat → ClassId} {A : Nat → Prop} {xa : Nat → Nat} {ka : Nat → Nat} {ra : Nat → Nat} {na : Nat → Nat} {ia : Nat → Nat} {ua : Nat → Nat} {va : Nat → Nat} {ca : Nat → Nat} {za : Nat → Nat} {pa : Nat → Nat} {qa : Nat → Nat} {X : Tr} {K : Tr} {R : Tr} {P : Tr} {P2 : Tr} {L2 : Lo} {Tn : Tr} {Ti : Tr} {Tv : Tr} {C : Tr} {Z : Tr} {q0 : Nat} {q1 : Nat} {q3 : Nat} {q4 : Nat} {q5 : Nat} {x1₀ : Int32} {x2₀ : Int32} {r0 : Int32} {L' : Lo} {Tu' : Tr} {q2' : Nat} (F : tF p s m ([.ref (xa 0), .int x1₀, .int x2₀] : List Value).toArray meth c G cA A RX7 cX7_tried 3 (some .int))    (L : Lo) (Tu : Tr) (q2 : Nat) (H : Heap) (locs : List Loc) (ls : Array Slot) (h : fJ_X7_tried_J119 pa qa P Tn q0 q4 L Tu q2 = some (r0, L', Tu', q2')) (hP : va_P G vwCl (wX cA xa ka ra na ia ua va ca za pa qa X K R P L P2 L2 Tn Ti Tu Tv C Z q0 q1 q2 q3 q4 q5) H) (hD : va_D A (wX cA xa ka ra na ia ua va ca za pa qa X K R P L P2 L2 Tn Ti Tu Tv C Z q0 q1 q2 q3 q4 q5)) (hS : va_S A s.heap H locs) (hl : lv_has ls 3 [(0, .ref (xa 0))]) : G_X7_tried p l e s m below meth c G cA A xa ka ra na ia ua va ca za pa qa X K R P P2 L2 Tn Ti Tv C Z q0 q1 q3 q4 q5 x1₀ x2₀ r0 L' Tu' q2' H locs (F0 m 119 ls []) := by
  obtain ⟨hx, hb, hr, hml, hT, hown, hlocks, hK, hN, hA⟩ := id F
  unfold fJ_X7_tried_J119 at h
  refine lv_aload_n hx hb dX7_tried_119 rfl (lv_at hl 0 rfl) ?_
  replace h := tx_bd h
  obtain ⟨⟨r11, L_12, Tu_13⟩, hc14, h⟩ := h
  replace h := tx_let (y := r11) rfl h
  replace h := tx_let (y := L_12) rfl h
  replace h := tx_let (y := Tu_13) rfl h
  refine tz_i (As := []) (rest := []) ⟨hx, hb, hml, hown, hT⟩ hP hD hS hA hK hN (c_X7_liftsOfTrial l G cA H.size xa ka ra na ia ua va ca za pa qa X K R P L P2 L2 Tn Ti Tu Tv C Z q0 q1 q2 q3 q4 q5  r11 L_12 Tu_13 hc14) (tq_gV kw_49_5 kw_49_6 kw_49_7 kw_1_2 kw_49_8) rfl rfl dkdV_yX7_liftsOfTrial_0 (Nat.le_of_ble_eq_true rfl) (Nat.le_of_ble_eq_true rfl) (ci := 7) (q0 := 0) rfl rfl rfl hl.1 rfl (Nat.le_of_ble_eq_true rfl) dX7_tried_120 ⟨Nat.le_of_ble_eq_true rfl, Nat.le_of_ble_eq_true rfl⟩ (fun _ _ H locs z15 hP hD hS => ?_)
  have z15 := z15.symm
  subst z15
  have hP : va_P G vwCl (wX cA xa ka ra na ia ua va ca za pa qa X K R P L_12 P2 L2 Tn Ti Tu_13 Tv C Z q0 q1 q2 q3 q4 q5) H := hP
  have hD : va_D A (wX cA xa ka ra na ia ua va ca za pa qa X K R P L_12 P2 L2 Tn Ti Tu_13 Tv C Z q0 q1 q2 q3 q4 q5) := hD
  obtain ⟨rfl, rfl, rfl, rfl⟩ := tx_4 h
  exact W.iret hx hb hr (fun t ht hW => ⟨⟨_, (), rfl, rfl, by rw [ht]; exact hP, hD⟩, hS.F ht⟩) hS.2.2 dX7_tried_123
set_option maxHeartbeats 4000000 in
set_option maxRecDepth 100000 in
theorem w_X7_tried_J31 {p : Program} {l : Launch} {e : Env} {s : State} {m : MethodId} {below : List Frame} {meth : Method} {c : Code} {G : va_G} {cA : Nat → ClassId} {A : Nat → Prop} {xa : Nat → Nat} {ka : Nat → Nat} {ra : Nat → Nat} {na : Nat → Nat} {ia : Nat → Nat} {ua : Nat → Nat} {va : Nat → Nat} {ca : Nat → Nat} {za : Nat → Nat} {pa : Nat → Nat} {qa : Nat → Nat} {X : Tr} {K : Tr} {R : Tr} {P : Tr} {P2 : Tr} {L2 : Lo} {Tn : Tr} {Ti : Tr} {Tv : Tr} {C : Tr} {Z : Tr} {q0 : Nat} {q1 : Nat} {q3 : Nat} {q4 : Nat} {q5 : Nat} {x1₀ : Int32} {x2₀ : Int32} {r0 : Int32} {L' : Lo} {Tu' : Tr} {q2' : Nat} (F : tF p s m ([.ref (xa 0), .int x1₀, .int x2₀] : List Value).toArray meth c G cA A RX7 cX7_tried 3 (some .int))    (x1 : Int32) (x2 : Int32) (L : Lo) (Tu : Tr) (q2 : Nat) (H : Heap) (locs : List Loc) (ls : Array Slot) (h : fJ_X7_tried_J31 pa qa P Tn q0 q4 x1 x2 L Tu q2 = some (r0, L', Tu', q2')) (hP : va_P G vwCl (wX cA xa ka ra na ia ua va ca za pa qa X K R P L P2 L2 Tn Ti Tu Tv C Z q0 q1 q2 q3 q4 q5) H) (hD : va_D A (wX cA xa ka ra na ia ua va ca za pa qa X K R P L P2 L2 Tn Ti Tu Tv C Z q0 q1 q2 q3 q4 q5)) (hS : va_S A s.heap H locs) (hl : lv_has ls 3 [(0, .ref (xa 0)), (1, .int x1), (2, .int x2)]) : G_X7_tried p l e s m below meth c G cA A xa ka ra na ia ua va ca za pa qa X K R P P2 L2 Tn Ti Tv C Z q0 q1 q3 q4 q5 x1₀ x2₀ r0 L' Tu' q2' H locs (F0 m 31 ls []) := by
  obtain ⟨hx, hb, hr, hml, hT, hown, hlocks, hK, hN, hA⟩ := id F
  unfold fJ_X7_tried_J31 at h
  refine lv_aload_n hx hb dX7_tried_31 rfl (lv_at hl 0 rfl) ?_
  replace h := tx_bd h
  obtain ⟨⟨Tu_5, q2_6⟩, hc7, h⟩ := h
  replace h := tx_let (y := Tu_5) rfl h
  replace h := tx_let (y := q2_6) rfl h
  refine tz_v (As := []) (rest := []) ⟨hx, hb, hml, hown, hT⟩ hP hD hS hA hK hN (c_X7_startTrial l G cA H.size xa ka ra na ia ua va ca za pa qa X K R P L P2 L2 Tn Ti Tu Tv C Z q0 q1 q2 q3 q4 q5  Tu_5 q2_6 hc7) (tq_gV kw_46_17 kw_46_18 kw_46_19 kw_1_2 kw_46_20) rfl rfl dkdV_yX7_startTrial_0 (Nat.le_of_ble_eq_true rfl) (Nat.le_of_ble_eq_true rfl) (ci := 7) (q0 := 0) rfl rfl rfl hl.1 rfl (Nat.le_of_ble_eq_true rfl) dX7_tried_32 ⟨Nat.le_of_ble_eq_true rfl, Nat.le_of_ble_eq_true rfl⟩ (fun _ H locs z8 hP hD hS => ?_)
  have hP : va_P G vwCl (wX cA xa ka ra na ia ua va ca za pa qa X K R P L P2 L2 Tn Ti Tu_5 Tv C Z q0 q1 q2_6 q3 q4 q5) H := hP
  have hD : va_D A (wX cA xa ka ra na ia ua va ca za pa qa X K R P L P2 L2 Tn Ti Tu_5 Tv C Z q0 q1 q2_6 q3 q4 q5) := hD
  refine lv_iload_n hx hb dX7_tried_35 rfl (lv_at hl 1 rfl) ?_
  by_cases c9 : x1 = 0
  · replace h := tx_pos c9 h
    refine lv_tableIn (off := 32) (tgt := 68) hx hb dX7_tried_36 (by rw [c9]; decide) (by rw [c9]; decide) (by rw [c9]; decide) (by decide) ?_
    refine lv_aload_n hx hb dX7_tried_68 rfl (lv_at hl 0 rfl) ?_
    refine va_get (D := G) (ci := 7) (v := .ref (ua 0)) (C := RX7) (T := TX7) (N := 12) hx hb hT ku_7 hown hK hP 0 rfl rfl 5 (by decide) (hT _ kw_2_3) (fun _ h9 => h9) rfl dX7_tried_69 ?_
    refine lv_iconst (v := 0) hx hb dX7_tried_72 (by decide) ?_
    refine va_put (D := G) (ci := 6) (v := .int 0) (ty := .boolean) (C := RX6) (T := TX6) (N := 20) hx hb hT ku_6 tyX6 tyX6_ok nmX6 hown hK hP hD hS 77 rfl rfl 6 (by decide) (hT _ kw_46_21) (fun _ h9 => h9) rfl (by decide +kernel) rfl rfl (Nat.le_of_ble_eq_true rfl) dX7_tried_73 (fun H locs hP hD hS => ?_)
    replace h := tx_lt h
    obtain ⟨Tu_10, eTu_10, h⟩ := h
    rw [sX_ua_f6, eTu_10] at hP hD
    refine lv_goto (tgt := 119) hx hb dX7_tried_76 (by decide) ?_
    exact w_X7_tried_J119 F L Tu_10 q2_6 H locs ls h hP hD hS (lv_sub hl [0] rfl)
  · replace h := tx_neg c9 h
    by_cases c16 : x1 = 1
    · replace h := tx_pos c16 h
      refine lv_tableIn (off := 43) (tgt := 79) hx hb dX7_tried_36 (by rw [c16]; decide) (by rw [c16]; decide) (by rw [c16]; decide) (by decide) ?_
      refine lv_aload_n hx hb dX7_tried_79 rfl (lv_at hl 0 rfl) ?_
      refine va_get (D := G) (ci := 7) (v := .ref (ua 0)) (C := RX7) (T := TX7) (N := 12) hx hb hT ku_7 hown hK hP 0 rfl rfl 5 (by decide) (hT _ kw_2_3) (fun _ h9 => h9) rfl dX7_tried_80 ?_
      refine lv_iconst (v := 0) hx hb dX7_tried_83 (by decide) ?_
      refine va_put (D := G) (ci := 6) (v := .int 0) (ty := .boolean) (C := RX6) (T := TX6) (N := 20) hx hb hT ku_6 tyX6 tyX6_ok nmX6 hown hK hP hD hS 77 rfl rfl 7 (by decide) (hT _ kw_46_22) (fun _ h9 => h9) rfl (by decide +kernel) rfl rfl (Nat.le_of_ble_eq_true rfl) dX7_tried_84 (fun H locs hP hD hS => ?_)
      replace h := tx_lt h
      obtain ⟨Tu_17, eTu_17, h⟩ := h
      rw [sX_ua_f7, eTu_17] at hP hD
      refine lv_goto (tgt := 119) hx hb dX7_tried_87 (by decide) ?_
      exact w_X7_tried_J119 F L Tu_17 q2_6 H locs ls h hP hD hS (lv_sub hl [0] rfl)
    · replace h := tx_neg c16 h
      by_cases c18 : x1 = 2
      · replace h := tx_pos c18 h
        refine lv_tableIn (off := 54) (tgt := 90) hx hb dX7_tried_36 (by rw [c18]; decide) (by rw [c18]; decide) (by rw [c18]; decide) (by decide) ?_
        refine lv_aload_n hx hb dX7_tried_90 rfl (lv_at hl 0 rfl) ?_
        refine va_get (D := G) (ci := 7) (v := .ref (ua 0)) (C := RX7) (T := TX7) (N := 12) hx hb hT ku_7 hown hK hP 0 rfl rfl 5 (by decide) (hT _ kw_2_3) (fun _ h9 => h9) rfl dX7_tried_91 ?_
        refine lv_iload_n hx hb dX7_tried_94 rfl (lv_at hl 2 rfl) ?_
        replace h := tx_ck h
        obtain ⟨g19, h⟩ := h
        have eg19 := of_decide_eq_true g19
        subst eg19
        replace h := tx_bd h
        obtain ⟨Tu_20, hc21, h⟩ := h
        refine tw_cv pX_ua hP hD hS hA (va_runV (As := [.int x2]) (rest := []) ⟨hx, hb, hml, hown, hT⟩ (c_X6_sendAway l G cA H.size ua pa Tu_5 P L x2  Tu_20 hc21) (cwV 1 hT (tq_gV kw_57_12 kw_57_13 kw_57_14 kw_1_23 kw_57_15) rfl rfl rfl dkdV_yX6_sendAway_1 ⟨Nat.le_of_ble_eq_true rfl, Nat.le_of_ble_eq_true rfl⟩) ⟨(tw_pre pX_ua hP hD hK hN).1, va_recv hK hP (ci := 6) (q0 := 77) rfl rfl, (tw_pre pX_ua hP hD hK hN).2⟩ rfl rfl hl.1 rfl (lv_room (Nat.le_of_ble_eq_true rfl)) dX7_tried_95 ⟨Nat.le_of_ble_eq_true rfl, Nat.le_of_ble_eq_true rfl⟩) (fun _ H locs z22 hP hD hS => ?_)
        replace hP := tw_P pX_ua.symm hP
        replace hD := tw_D pX_ua.symm hD
        have hP : va_P G vwCl (wX cA xa ka ra na ia ua va ca za pa qa X K R P L P2 L2 Tn Ti Tu_20 Tv C Z q0 q1 (pa 0) q3 q4 q5) H := hP
        have hD : va_D A (wX cA xa ka ra na ia ua va ca za pa qa X K R P L P2 L2 Tn Ti Tu_20 Tv C Z q0 q1 (pa 0) q3 q4 q5) := hD
        refine lv_goto (tgt := 119) hx hb dX7_tried_98 (by decide) ?_
        exact w_X7_tried_J119 F L Tu_20 (pa 0) H locs ls h hP hD hS (lv_sub hl [0] rfl)
      · replace h := tx_neg c18 h
        by_cases c23 : x1 = 3
        · replace h := tx_pos c23 h
          refine lv_tableIn (off := 65) (tgt := 101) hx hb dX7_tried_36 (by rw [c23]; decide) (by rw [c23]; decide) (by rw [c23]; decide) (by decide) ?_
          refine lv_aload_n hx hb dX7_tried_101 rfl (lv_at hl 0 rfl) ?_
          refine va_get (D := G) (ci := 7) (v := .ref (ua 0)) (C := RX7) (T := TX7) (N := 12) hx hb hT ku_7 hown hK hP 0 rfl rfl 5 (by decide) (hT _ kw_2_3) (fun _ h9 => h9) rfl dX7_tried_102 ?_
          replace h := tx_ck h
          obtain ⟨g24, h⟩ := h
          have eg24 := of_decide_eq_true g24
          subst eg24
          replace h := tx_bd h
          obtain ⟨Tu_25, hc26, h⟩ := h
          refine tw_cv pX_ua hP hD hS hA (va_runV (As := []) (rest := []) ⟨hx, hb, hml, hown, hT⟩ (c_X6_strengthenAll l G cA H.size ua pa Tu_5 P L  Tu_25 hc26) (cwV 0 hT (tq_gV kw_57_16 kw_57_17 kw_57_18 kw_1_23 kw_57_19) rfl rfl rfl dkdV_yX6_strengthenAll_0 ⟨Nat.le_of_ble_eq_true rfl, Nat.le_of_ble_eq_true rfl⟩) ⟨(tw_pre pX_ua hP hD hK hN).1, va_recv hK hP (ci := 6) (q0 := 77) rfl rfl, (tw_pre pX_ua hP hD hK hN).2⟩ rfl rfl hl.1 rfl (lv_room (Nat.le_of_ble_eq_true rfl)) dX7_tried_105 ⟨Nat.le_of_ble_eq_true rfl, Nat.le_of_ble_eq_true rfl⟩) (fun _ H locs z27 hP hD hS => ?_)
          replace hP := tw_P pX_ua.symm hP
          replace hD := tw_D pX_ua.symm hD
          have hP : va_P G vwCl (wX cA xa ka ra na ia ua va ca za pa qa X K R P L P2 L2 Tn Ti Tu_25 Tv C Z q0 q1 (pa 0) q3 q4 q5) H := hP
          have hD : va_D A (wX cA xa ka ra na ia ua va ca za pa qa X K R P L P2 L2 Tn Ti Tu_25 Tv C Z q0 q1 (pa 0) q3 q4 q5) := hD
          refine lv_goto (tgt := 119) hx hb dX7_tried_108 (by decide) ?_
          exact w_X7_tried_J119 F L Tu_25 (pa 0) H locs ls h hP hD hS (lv_sub hl [0] rfl)
        · replace h := tx_neg c23 h
          have kc9 := tq_eqn (a := x1.toInt) (b := 0) rfl (by decide) c9
          have kc16 := tq_eqn (a := x1.toInt) (b := 1) rfl (by decide) c16
          have kc18 := tq_eqn (a := x1.toInt) (b := 2) rfl (by decide) c18
          have kc23 := tq_eqn (a := x1.toInt) (b := 3) rfl (by decide) c23
          refine lv_tableOut (tgt := 111) hx hb dX7_tried_36 (by omega) (by decide) ?_
          refine lv_aload_n hx hb dX7_tried_111 rfl (lv_at hl 0 rfl) ?_
          refine va_get (D := G) (ci := 7) (v := .ref (ua 0)) (C := RX7) (T := TX7) (N := 12) hx hb hT ku_7 hown hK hP 0 rfl rfl 5 (by decide) (hT _ kw_2_3) (fun _ h9 => h9) rfl dX7_tried_112 ?_
          refine lv_iconst (v := 0) hx hb dX7_tried_115 (by decide) ?_
          refine va_put (D := G) (ci := 6) (v := .int 0) (ty := .int) (C := RX6) (T := TX6) (N := 20) hx hb hT ku_6 tyX6 tyX6_ok nmX6 hown hK hP hD hS 77 rfl rfl 4 (by decide) (hT _ kw_57_11) (fun _ h9 => h9) rfl (by decide +kernel) rfl rfl (Nat.le_of_ble_eq_true rfl) dX7_tried_116 (fun H locs hP hD hS => ?_)
          replace h := tx_lt h
          obtain ⟨Tu_28, eTu_28, h⟩ := h
          rw [sX_ua_f4, eTu_28] at hP hD
          exact w_X7_tried_J119 F L Tu_28 q2_6 H locs ls h hP hD hS (lv_sub hl [0] rfl)
set_option maxHeartbeats 4000000 in
set_option maxRecDepth 100000 in
theorem c_X7_tried (l : Launch) (G : va_G) (cA : Nat → ClassId) (sz : Nat) (xa : Nat → Nat) (ka : Nat → Nat) (ra : Nat → Nat) (na : Nat → Nat) (ia : Nat → Nat) (ua : Nat → Nat) (va : Nat → Nat) (ca : Nat → Nat) (za : Nat → Nat) (pa : Nat → Nat) (qa : Nat → Nat) (X : Tr) (K : Tr) (R : Tr) (P : Tr) (L : Lo) (P2 : Tr) (L2 : Lo) (Tn : Tr) (Ti : Tr) (Tu : Tr) (Tv : Tr) (C : Tr) (Z : Tr) (q0 : Nat) (q1 : Nat) (q2 : Nat) (q3 : Nat) (q4 : Nat) (q5 : Nat) (x1 : Int32) (x2 : Int32)  (r0 : Int32) (L' : Lo) (Tu' : Tr) (q2' : Nat) (h : f_X7_tried pa qa P L Tn Tu q0 q2 q4 x1 x2 = some (r0, L', Tu', q2')) : Met l yX7_tried (.code yX7_tried cX7_tried 3 (some .int) :: T0) ({ frames := 7, cells := 0, slots := 0, locals := 173 } : Room) (tqP G cA [.ref (xa 0), .int x1, .int x2] (wX cA xa ka ra na ia ua va ca za pa qa X K R P L P2 L2 Tn Ti Tu Tv C Z q0 q1 q2 q3 q4 q5) sz) (tqQi G cA (fun (r : Int32) (_ : Unit) => r = r0) (fun (_ : Unit) => wX cA xa ka ra na ia ua va ca za pa qa X K R P (L') P2 L2 Tn Ti (Tu') Tv C Z q0 q1 (q2') q3 q4 q5) (va_A (wX cA xa ka ra na ia ua va ca za pa qa X K R P L P2 L2 Tn Ti Tu Tv C Z q0 q1 q2 q3 q4 q5) sz)) 0 0 (va_A (wX cA xa ka ra na ia ua va ca za pa qa X K R P L P2 L2 Tn Ti Tu Tv C Z q0 q1 q2 q3 q4 q5) sz) := by
  refine Met.ofW (cc := cX7_tried) (maxL := 3) (ret := (some .int)) (by decide) rfl ?_
  intro p e s m args below meth c s₁ B hml hv
  obtain ⟨rfl, hsz, hP, hK, hD0, hN⟩ := hv
  have hx := B.exec
  have hb := B.bytes
  have hr := B.returns
  have hts := atoms_spec (ws := .code yX7_tried cX7_tried 3 (some .int) :: T0) B.pre
  have hT : ∀ w ∈ T0, w.before _ s = true := fun w h => hts w (List.mem_cons_of_mem _ h)
  have hown : s.vm.findClass RX7 = some m.cls := findClass_of_methodNamed B.named
  have hlocks := B.notSynchronized
  subst hsz
  have hD := hD0.self (sz := s.heap.size)
  generalize hAe : va_A (wX cA xa ka ra na ia ua va ca za pa qa X K R P L P2 L2 Tn Ti Tu Tv C Z q0 q1 q2 q3 q4 q5) s.heap.size = A at hD ⊢
  have hA : ∀ q : Nat, s.heap.size ≤ q → A q := fun q h => by rw [← hAe]; exact Or.inr h
  have hS : va_S A s.heap s.heap [] := va_S.rf
  have hl := lv_entry ([.ref (xa 0), .int x1, .int x2]) (n := 3) (Nat.le_of_ble_eq_true rfl)
  rw [lg_entry_eq]
  generalize (lg_sl ([.ref (xa 0), .int x1, .int x2]) ++ List.replicate (3 - (lg_sl ([.ref (xa 0), .int x1, .int x2])).length) Slot.unset).toArray = ls at hl ⊢
  have hl : lv_has ls 3 [(0, .ref (xa 0)), (1, .int x1), (2, .int x2)] := hl
  have F : tF p s m ([.ref (xa 0), .int x1, .int x2] : List Value).toArray meth c G cA A RX7 cX7_tried 3 (some .int) := ⟨hx, hb, hr, hml, hT, hown, hlocks, hK, hN, hA⟩
  obtain ⟨H, hH⟩ : ∃ z, z = s.heap := ⟨_, rfl⟩
  rw [← hH] at hP
  have hS : va_S A s.heap H [] := by rw [hH]; exact hS
  suffices hgo : G_X7_tried p l e s m below meth c G cA A xa ka ra na ia ua va ca za pa qa X K R P P2 L2 Tn Ti Tv C Z q0 q1 q3 q4 q5 x1 x2 r0 L' Tu' q2' H [] (F0 m 0 ls []) by rw [hH] at hgo; exact hgo
  generalize ([] : List Loc) = locs at hS ⊢
  unfold f_X7_tried at h
  refine lv_iload_n hx hb dX7_tried_0 rfl (lv_at hl 1 rfl) ?_
  refine lv_if_lt (tgt := 29) hx hb dX7_tried_1 (by decide) (fun c1 => ?_) (fun c1 => ?_)
  · replace h := tx_pos c1 h
    refine lv_iconst (v := (-1)) hx hb dX7_tried_29 (by decide) ?_
    obtain ⟨rfl, rfl, rfl, rfl⟩ := tx_4 h
    exact W.iret hx hb hr (fun t ht hW => ⟨⟨_, (), rfl, rfl, by rw [ht]; exact hP, hD⟩, hS.F ht⟩) hS.2.2 dX7_tried_30
  · replace h := tx_neg c1 h
    refine lv_iload_n hx hb dX7_tried_4 rfl (lv_at hl 1 rfl) ?_
    refine lv_iconst (v := 4) hx hb dX7_tried_5 (by decide) ?_
    refine lv_icmp_gt (tgt := 29) hx hb dX7_tried_6 (by decide) (fun c2 => ?_) (fun c2 => ?_)
    · replace h := tx_pos c2 h
      refine lv_iconst (v := (-1)) hx hb dX7_tried_29 (by decide) ?_
      obtain ⟨rfl, rfl, rfl, rfl⟩ := tx_4 h
      exact W.iret hx hb hr (fun t ht hW => ⟨⟨_, (), rfl, rfl, by rw [ht]; exact hP, hD⟩, hS.F ht⟩) hS.2.2 dX7_tried_30
    · replace h := tx_neg c2 h
      refine lv_iload_n hx hb dX7_tried_9 rfl (lv_at hl 1 rfl) ?_
      refine lv_iconst (v := 2) hx hb dX7_tried_10 (by decide) ?_
      refine lv_icmp_ne (tgt := 25) hx hb dX7_tried_11 (by decide) (fun c3 => ?_) (fun c3 => ?_)
      · replace h := tx_neg c3 h
        refine lv_iload_n hx hb dX7_tried_25 rfl (lv_at hl 2 rfl) ?_
        refine lv_if_eq (tgt := 31) hx hb dX7_tried_26 (by decide) (fun c4 => ?_) (fun c4 => ?_)
        · replace h := tx_pos c4 h
          exact w_X7_tried_J31 F x1 x2 L Tu q2 H locs ls h hP hD hS (lv_sub hl [0, 1, 2] rfl)
        · replace h := tx_neg c4 h
          refine lv_iconst (v := (-1)) hx hb dX7_tried_29 (by decide) ?_
          obtain ⟨rfl, rfl, rfl, rfl⟩ := tx_4 h
          exact W.iret hx hb hr (fun t ht hW => ⟨⟨_, (), rfl, rfl, by rw [ht]; exact hP, hD⟩, hS.F ht⟩) hS.2.2 dX7_tried_30
      · replace h := tx_pos c3 h
        refine lv_aload_n hx hb dX7_tried_14 rfl (lv_at hl 0 rfl) ?_
        refine lv_iload_n hx hb dX7_tried_15 rfl (lv_at hl 2 rfl) ?_
        replace h := tx_bd h
        obtain ⟨r30, hc31, h⟩ := h
        refine tz_i (As := [.int x2]) (rest := []) ⟨hx, hb, hml, hown, hT⟩ hP hD hS hA hK hN (c_X7_isPerson l G cA H.size xa ka ra na ia ua va ca za pa qa X K R P L P2 L2 Tn Ti Tu Tv C Z q0 q1 q2 q3 q4 q5 x2  r30 hc31) (tq_gV kw_29_3 kw_29_4 kw_29_5 kw_1_2 kw_29_6) rfl rfl dkdV_yX7_isPerson_1 (Nat.le_of_ble_eq_true rfl) (Nat.le_of_ble_eq_true rfl) (ci := 7) (q0 := 0) rfl rfl rfl hl.1 rfl (Nat.le_of_ble_eq_true rfl) dX7_tried_16 ⟨Nat.le_of_ble_eq_true rfl, Nat.le_of_ble_eq_true rfl⟩ (fun _ _ H locs z32 hP hD hS => ?_)
        have z32 := z32.symm
        subst z32
        have hP : va_P G vwCl (wX cA xa ka ra na ia ua va ca za pa qa X K R P L P2 L2 Tn Ti Tu Tv C Z q0 q1 q2 q3 q4 q5) H := hP
        have hD : va_D A (wX cA xa ka ra na ia ua va ca za pa qa X K R P L P2 L2 Tn Ti Tu Tv C Z q0 q1 q2 q3 q4 q5) := hD
        refine lv_if_ne (tgt := 31) hx hb dX7_tried_19 (by decide) (fun c33 => ?_) (fun c33 => ?_)
        · replace h := tx_neg c33 h
          exact w_X7_tried_J31 F x1 x2 L Tu q2 H locs ls h hP hD hS (lv_sub hl [0, 1, 2] rfl)
        · replace h := tx_pos c33 h
          refine lv_goto (tgt := 29) hx hb dX7_tried_22 (by decide) ?_
          refine lv_iconst (v := (-1)) hx hb dX7_tried_29 (by decide) ?_
          obtain ⟨rfl, rfl, rfl, rfl⟩ := tx_4 h
          exact W.iret hx hb hr (fun t ht hW => ⟨⟨_, (), rfl, rfl, by rw [ht]; exact hP, hD⟩, hS.F ht⟩) hS.2.2 dX7_tried_30
abbrev G_X0_saveRow_x_va16 (p : Program) (l : Launch) (e : Env) (s : State) (m : MethodId) (below : List Frame) (meth : Method) (c : Code) (G : va_G) (cA : Nat → ClassId) (A : Nat → Prop) (xa : Nat → Nat) (ka : Nat → Nat) (ra : Nat → Nat) (na : Nat → Nat) (ia : Nat → Nat) (ua : Nat → Nat) (va : Nat → Nat) (ca : Nat → Nat) (za : Nat → Nat) (pa : Nat → Nat) (qa : Nat → Nat) (X : Tr) (K : Tr) (R : Tr) (P : Tr) (L : Lo) (P2 : Tr) (L2 : Lo) (Tn : Tr) (Ti : Tr) (Tu : Tr) (Tv : Tr) (Z : Tr) (q0 : Nat) (q1 : Nat) (q2 : Nat) (q3 : Nat) (q4 : Nat) (q5 : Nat) (x2 : Int32) (r0 : Int32) (C' : Tr) (H : Heap) (locs : List Loc) (g : JFrame) : Prop := W p l e (headSpec (.code yX0_saveRow cX0_saveRow 3 (some .int) :: T0) ({ frames := 1, cells := 0, slots := 0, locals := 40 } : Room)).room s m ([.ref (ca 0), .ref (va 16), .int x2] : List Value).toArray below meth c H locs 0 0 (MQ below (tqQi G cA (fun (r : Int32) (_ : Unit) => r = r0) (fun (_ : Unit) => wX cA xa ka ra na ia ua va ca za pa qa X K R P L P2 L2 Tn Ti Tu Tv (C') Z q0 q1 q2 q3 q4 q5) A) ([.ref (ca 0), .ref (va 16), .int x2] : List Value).toArray s 0 0 A) g
set_option maxHeartbeats 4000000 in
set_option maxRecDepth 100000 in
theorem c_X0_saveRow_x_va16 (l : Launch) (G : va_G) (cA : Nat → ClassId) (sz : Nat) (xa : Nat → Nat) (ka : Nat → Nat) (ra : Nat → Nat) (na : Nat → Nat) (ia : Nat → Nat) (ua : Nat → Nat) (va : Nat → Nat) (ca : Nat → Nat) (za : Nat → Nat) (pa : Nat → Nat) (qa : Nat → Nat) (X : Tr) (K : Tr) (R : Tr) (P : Tr) (L : Lo) (P2 : Tr) (L2 : Lo) (Tn : Tr) (Ti : Tr) (Tu : Tr) (Tv : Tr) (C : Tr) (Z : Tr) (q0 : Nat) (q1 : Nat) (q2 : Nat) (q3 : Nat) (q4 : Nat) (q5 : Nat) (x2 : Int32)  (r0 : Int32) (C' : Tr) (h : f_X0_saveRow_x_va16 pa qa Tv C x2 = some (r0, C')) : Met l yX0_saveRow (.code yX0_saveRow cX0_saveRow 3 (some .int) :: T0) ({ frames := 1, cells := 0, slots := 0, locals := 40 } : Room) (tqP G cA [.ref (ca 0), .ref (va 16), .int x2] (wX cA xa ka ra na ia ua va ca za pa qa X K R P L P2 L2 Tn Ti Tu Tv C Z q0 q1 q2 q3 q4 q5) sz) (tqQi G cA (fun (r : Int32) (_ : Unit) => r = r0) (fun (_ : Unit) => wX cA xa ka ra na ia ua va ca za pa qa X K R P L P2 L2 Tn Ti Tu Tv (C') Z q0 q1 q2 q3 q4 q5) (va_A (wX cA xa ka ra na ia ua va ca za pa qa X K R P L P2 L2 Tn Ti Tu Tv C Z q0 q1 q2 q3 q4 q5) sz)) 0 0 (va_A (wX cA xa ka ra na ia ua va ca za pa qa X K R P L P2 L2 Tn Ti Tu Tv C Z q0 q1 q2 q3 q4 q5) sz) := by
  refine Met.ofW (cc := cX0_saveRow) (maxL := 3) (ret := (some .int)) (by decide) rfl ?_
  intro p e s m args below meth c s₁ B hml hv
  obtain ⟨rfl, hsz, hP, hK, hD0, hN⟩ := hv
  have hx := B.exec
  have hb := B.bytes
  have hr := B.returns
  have hts := atoms_spec (ws := .code yX0_saveRow cX0_saveRow 3 (some .int) :: T0) B.pre
  have hT : ∀ w ∈ T0, w.before _ s = true := fun w h => hts w (List.mem_cons_of_mem _ h)
  have hown : s.vm.findClass RX0 = some m.cls := findClass_of_methodNamed B.named
  have hlocks := B.notSynchronized
  subst hsz
  have hD := hD0.self (sz := s.heap.size)
  generalize hAe : va_A (wX cA xa ka ra na ia ua va ca za pa qa X K R P L P2 L2 Tn Ti Tu Tv C Z q0 q1 q2 q3 q4 q5) s.heap.size = A at hD ⊢
  have hA : ∀ q : Nat, s.heap.size ≤ q → A q := fun q h => by rw [← hAe]; exact Or.inr h
  have hS : va_S A s.heap s.heap [] := va_S.rf
  have hl := lv_entry ([.ref (ca 0), .ref (va 16), .int x2]) (n := 3) (Nat.le_of_ble_eq_true rfl)
  rw [lg_entry_eq]
  generalize (lg_sl ([.ref (ca 0), .ref (va 16), .int x2]) ++ List.replicate (3 - (lg_sl ([.ref (ca 0), .ref (va 16), .int x2])).length) Slot.unset).toArray = ls at hl ⊢
  have hl : lv_has ls 3 [(0, .ref (ca 0)), (1, .ref (va 16)), (2, .int x2)] := hl
  have F : tF p s m ([.ref (ca 0), .ref (va 16), .int x2] : List Value).toArray meth c G cA A RX0 cX0_saveRow 3 (some .int) := ⟨hx, hb, hr, hml, hT, hown, hlocks, hK, hN, hA⟩
  obtain ⟨H, hH⟩ : ∃ z, z = s.heap := ⟨_, rfl⟩
  rw [← hH] at hP
  have hS : va_S A s.heap H [] := by rw [hH]; exact hS
  suffices hgo : G_X0_saveRow_x_va16 p l e s m below meth c G cA A xa ka ra na ia ua va ca za pa qa X K R P L P2 L2 Tn Ti Tu Tv Z q0 q1 q2 q3 q4 q5 x2 r0 C' H [] (F0 m 0 ls []) by rw [hH] at hgo; exact hgo
  generalize ([] : List Loc) = locs at hS ⊢
  unfold f_X0_saveRow_x_va16 at h
  refine lv_aload_n hx hb dX0_saveRow_0 rfl (lv_at hl 1 rfl) ?_
  refine lv_iconst (v := 0) hx hb dX0_saveRow_1 (by decide) ?_
  refine lv_aload_n hx hb dX0_saveRow_2 rfl (lv_at hl 0 rfl) ?_
  refine va_get (D := G) (ci := 0) (v := .ref (ca 3)) (C := RX0) (T := TX0) (N := 3) hx hb hT ku_0 hown hK hP 101 rfl rfl 2 (by decide) (hT _ kw_8_18) (fun _ h9 => h9) rfl dX0_saveRow_3 ?_
  refine lv_iload_n hx hb dX0_saveRow_6 rfl (lv_at hl 2 rfl) ?_
  refine lv_aload_n hx hb dX0_saveRow_7 rfl (lv_at hl 1 rfl) ?_
  refine va_alen (v := 50) hx hb hK hP 97 0 rfl rfl (show Int32.ofNat 50 = 50 from by decide) dX0_saveRow_8 ?_
  replace h := tx_ck h
  obtain ⟨g1, h⟩ := h
  refine va_copyi (ty := .int) (sp := 0) (dp := x2) (n := 50) hx hb (hml.trans hl.1.symm) hown (hT _ kw_36_14) (hT _ kw_36_15) (hT _ kw_36_16) (hT _ kw_36_17) hK hP hD hS 97 102 0 0 rfl rfl rfl rfl rfl (tx_cp g1).1 (tx_cp g1).2.1 (tx_cp g1).2.2.1 (tx_cp g1).2.2.2.1 (tx_cp g1).2.2.2.2 (fun _ _ => rfl) (Nat.le_of_ble_eq_true rfl) (by decide) dX0_saveRow_9 (fun H locs hP hD hS => ?_)
  try rw [show (0 : Int32).toNatClampNeg = 0 from rfl] at hP hD
  try rw [show (50 : Int32).toNatClampNeg = 50 from rfl] at hP hD
  replace h := tx_lt h
  obtain ⟨C_2, eC_2, h⟩ := h
  rw [sX_ca_c2, eC_2] at hP hD
  refine lv_iload_n hx hb dX0_saveRow_12 rfl (lv_at hl 2 rfl) ?_
  refine lv_aload_n hx hb dX0_saveRow_13 rfl (lv_at hl 1 rfl) ?_
  refine va_alen (v := 50) hx hb hK hP 97 0 rfl rfl (show Int32.ofNat 50 = 50 from by decide) dX0_saveRow_14 ?_
  refine lv_iadd hx hb dX0_saveRow_15 ?_
  obtain ⟨rfl, rfl⟩ := tx_2 h
  exact W.iret hx hb hr (fun t ht hW => ⟨⟨_, (), rfl, rfl, by rw [ht]; exact hP, hD⟩, hS.F ht⟩) hS.2.2 dX0_saveRow_16
abbrev G_X0_saveRow_x_va17 (p : Program) (l : Launch) (e : Env) (s : State) (m : MethodId) (below : List Frame) (meth : Method) (c : Code) (G : va_G) (cA : Nat → ClassId) (A : Nat → Prop) (xa : Nat → Nat) (ka : Nat → Nat) (ra : Nat → Nat) (na : Nat → Nat) (ia : Nat → Nat) (ua : Nat → Nat) (va : Nat → Nat) (ca : Nat → Nat) (za : Nat → Nat) (pa : Nat → Nat) (qa : Nat → Nat) (X : Tr) (K : Tr) (R : Tr) (P : Tr) (L : Lo) (P2 : Tr) (L2 : Lo) (Tn : Tr) (Ti : Tr) (Tu : Tr) (Tv : Tr) (Z : Tr) (q0 : Nat) (q1 : Nat) (q2 : Nat) (q3 : Nat) (q4 : Nat) (q5 : Nat) (x2 : Int32) (r0 : Int32) (C' : Tr) (H : Heap) (locs : List Loc) (g : JFrame) : Prop := W p l e (headSpec (.code yX0_saveRow cX0_saveRow 3 (some .int) :: T0) ({ frames := 1, cells := 0, slots := 0, locals := 40 } : Room)).room s m ([.ref (ca 0), .ref (va 17), .int x2] : List Value).toArray below meth c H locs 0 0 (MQ below (tqQi G cA (fun (r : Int32) (_ : Unit) => r = r0) (fun (_ : Unit) => wX cA xa ka ra na ia ua va ca za pa qa X K R P L P2 L2 Tn Ti Tu Tv (C') Z q0 q1 q2 q3 q4 q5) A) ([.ref (ca 0), .ref (va 17), .int x2] : List Value).toArray s 0 0 A) g
set_option maxHeartbeats 4000000 in
set_option maxRecDepth 100000 in
theorem c_X0_saveRow_x_va17 (l : Launch) (G : va_G) (cA : Nat → ClassId) (sz : Nat) (xa : Nat → Nat) (ka : Nat → Nat) (ra : Nat → Nat) (na : Nat → Nat) (ia : Nat → Nat) (ua : Nat → Nat) (va : Nat → Nat) (ca : Nat → Nat) (za : Nat → Nat) (pa : Nat → Nat) (qa : Nat → Nat) (X : Tr) (K : Tr) (R : Tr) (P : Tr) (L : Lo) (P2 : Tr) (L2 : Lo) (Tn : Tr) (Ti : Tr) (Tu : Tr) (Tv : Tr) (C : Tr) (Z : Tr) (q0 : Nat) (q1 : Nat) (q2 : Nat) (q3 : Nat) (q4 : Nat) (q5 : Nat) (x2 : Int32)  (r0 : Int32) (C' : Tr) (h : f_X0_saveRow_x_va17 pa qa Tv C x2 = some (r0, C')) : Met l yX0_saveRow (.code yX0_saveRow cX0_saveRow 3 (some .int) :: T0) ({ frames := 1, cells := 0, slots := 0, locals := 40 } : Room) (tqP G cA [.ref (ca 0), .ref (va 17), .int x2] (wX cA xa ka ra na ia ua va ca za pa qa X K R P L P2 L2 Tn Ti Tu Tv C Z q0 q1 q2 q3 q4 q5) sz) (tqQi G cA (fun (r : Int32) (_ : Unit) => r = r0) (fun (_ : Unit) => wX cA xa ka ra na ia ua va ca za pa qa X K R P L P2 L2 Tn Ti Tu Tv (C') Z q0 q1 q2 q3 q4 q5) (va_A (wX cA xa ka ra na ia ua va ca za pa qa X K R P L P2 L2 Tn Ti Tu Tv C Z q0 q1 q2 q3 q4 q5) sz)) 0 0 (va_A (wX cA xa ka ra na ia ua va ca za pa qa X K R P L P2 L2 Tn Ti Tu Tv C Z q0 q1 q2 q3 q4 q5) sz) := by
  refine Met.ofW (cc := cX0_saveRow) (maxL := 3) (ret := (some .int)) (by decide) rfl ?_
  intro p e s m args below meth c s₁ B hml hv
  obtain ⟨rfl, hsz, hP, hK, hD0, hN⟩ := hv
  have hx := B.exec
  have hb := B.bytes
  have hr := B.returns
  have hts := atoms_spec (ws := .code yX0_saveRow cX0_saveRow 3 (some .int) :: T0) B.pre
  have hT : ∀ w ∈ T0, w.before _ s = true := fun w h => hts w (List.mem_cons_of_mem _ h)
  have hown : s.vm.findClass RX0 = some m.cls := findClass_of_methodNamed B.named
  have hlocks := B.notSynchronized
  subst hsz
  have hD := hD0.self (sz := s.heap.size)
  generalize hAe : va_A (wX cA xa ka ra na ia ua va ca za pa qa X K R P L P2 L2 Tn Ti Tu Tv C Z q0 q1 q2 q3 q4 q5) s.heap.size = A at hD ⊢
  have hA : ∀ q : Nat, s.heap.size ≤ q → A q := fun q h => by rw [← hAe]; exact Or.inr h
  have hS : va_S A s.heap s.heap [] := va_S.rf
  have hl := lv_entry ([.ref (ca 0), .ref (va 17), .int x2]) (n := 3) (Nat.le_of_ble_eq_true rfl)
  rw [lg_entry_eq]
  generalize (lg_sl ([.ref (ca 0), .ref (va 17), .int x2]) ++ List.replicate (3 - (lg_sl ([.ref (ca 0), .ref (va 17), .int x2])).length) Slot.unset).toArray = ls at hl ⊢
  have hl : lv_has ls 3 [(0, .ref (ca 0)), (1, .ref (va 17)), (2, .int x2)] := hl
  have F : tF p s m ([.ref (ca 0), .ref (va 17), .int x2] : List Value).toArray meth c G cA A RX0 cX0_saveRow 3 (some .int) := ⟨hx, hb, hr, hml, hT, hown, hlocks, hK, hN, hA⟩
  obtain ⟨H, hH⟩ : ∃ z, z = s.heap := ⟨_, rfl⟩
  rw [← hH] at hP
  have hS : va_S A s.heap H [] := by rw [hH]; exact hS
  suffices hgo : G_X0_saveRow_x_va17 p l e s m below meth c G cA A xa ka ra na ia ua va ca za pa qa X K R P L P2 L2 Tn Ti Tu Tv Z q0 q1 q2 q3 q4 q5 x2 r0 C' H [] (F0 m 0 ls []) by rw [hH] at hgo; exact hgo
  generalize ([] : List Loc) = locs at hS ⊢
  unfold f_X0_saveRow_x_va17 at h
  refine lv_aload_n hx hb dX0_saveRow_0 rfl (lv_at hl 1 rfl) ?_
  refine lv_iconst (v := 0) hx hb dX0_saveRow_1 (by decide) ?_
  refine lv_aload_n hx hb dX0_saveRow_2 rfl (lv_at hl 0 rfl) ?_
  refine va_get (D := G) (ci := 0) (v := .ref (ca 3)) (C := RX0) (T := TX0) (N := 3) hx hb hT ku_0 hown hK hP 101 rfl rfl 2 (by decide) (hT _ kw_8_18) (fun _ h9 => h9) rfl dX0_saveRow_3 ?_
  refine lv_iload_n hx hb dX0_saveRow_6 rfl (lv_at hl 2 rfl) ?_
  refine lv_aload_n hx hb dX0_saveRow_7 rfl (lv_at hl 1 rfl) ?_
  refine va_alen (v := 5) hx hb hK hP 98 0 rfl rfl (show Int32.ofNat 5 = 5 from by decide) dX0_saveRow_8 ?_
  replace h := tx_ck h
  obtain ⟨g1, h⟩ := h
  refine va_copyi (ty := .int) (sp := 0) (dp := x2) (n := 5) hx hb (hml.trans hl.1.symm) hown (hT _ kw_36_14) (hT _ kw_36_15) (hT _ kw_36_16) (hT _ kw_36_17) hK hP hD hS 98 102 0 0 rfl rfl rfl rfl rfl (tx_cp g1).1 (tx_cp g1).2.1 (tx_cp g1).2.2.1 (tx_cp g1).2.2.2.1 (tx_cp g1).2.2.2.2 (fun _ _ => rfl) (Nat.le_of_ble_eq_true rfl) (by decide) dX0_saveRow_9 (fun H locs hP hD hS => ?_)
  try rw [show (0 : Int32).toNatClampNeg = 0 from rfl] at hP hD
  try rw [show (5 : Int32).toNatClampNeg = 5 from rfl] at hP hD
  replace h := tx_lt h
  obtain ⟨C_2, eC_2, h⟩ := h
  rw [sX_ca_c2, eC_2] at hP hD
  refine lv_iload_n hx hb dX0_saveRow_12 rfl (lv_at hl 2 rfl) ?_
  refine lv_aload_n hx hb dX0_saveRow_13 rfl (lv_at hl 1 rfl) ?_
  refine va_alen (v := 5) hx hb hK hP 98 0 rfl rfl (show Int32.ofNat 5 = 5 from by decide) dX0_saveRow_14 ?_
  refine lv_iadd hx hb dX0_saveRow_15 ?_
  obtain ⟨rfl, rfl⟩ := tx_2 h
  exact W.iret hx hb hr (fun t ht hW => ⟨⟨_, (), rfl, rfl, by rw [ht]; exact hP, hD⟩, hS.F ht⟩) hS.2.2 dX0_saveRow_16
abbrev G_X0_saveRow_x_va18 (p : Program) (l : Launch) (e : Env) (s : State) (m : MethodId) (below : List Frame) (meth : Method) (c : Code) (G : va_G) (cA : Nat → ClassId) (A : Nat → Prop) (xa : Nat → Nat) (ka : Nat → Nat) (ra : Nat → Nat) (na : Nat → Nat) (ia : Nat → Nat) (ua : Nat → Nat) (va : Nat → Nat) (ca : Nat → Nat) (za : Nat → Nat) (pa : Nat → Nat) (qa : Nat → Nat) (X : Tr) (K : Tr) (R : Tr) (P : Tr) (L : Lo) (P2 : Tr) (L2 : Lo) (Tn : Tr) (Ti : Tr) (Tu : Tr) (Tv : Tr) (Z : Tr) (q0 : Nat) (q1 : Nat) (q2 : Nat) (q3 : Nat) (q4 : Nat) (q5 : Nat) (x2 : Int32) (r0 : Int32) (C' : Tr) (H : Heap) (locs : List Loc) (g : JFrame) : Prop := W p l e (headSpec (.code yX0_saveRow cX0_saveRow 3 (some .int) :: T0) ({ frames := 1, cells := 0, slots := 0, locals := 40 } : Room)).room s m ([.ref (ca 0), .ref (va 18), .int x2] : List Value).toArray below meth c H locs 0 0 (MQ below (tqQi G cA (fun (r : Int32) (_ : Unit) => r = r0) (fun (_ : Unit) => wX cA xa ka ra na ia ua va ca za pa qa X K R P L P2 L2 Tn Ti Tu Tv (C') Z q0 q1 q2 q3 q4 q5) A) ([.ref (ca 0), .ref (va 18), .int x2] : List Value).toArray s 0 0 A) g
set_option maxHeartbeats 4000000 in
set_option maxRecDepth 100000 in
theorem c_X0_saveRow_x_va18 (l : Launch) (G : va_G) (cA : Nat → ClassId) (sz : Nat) (xa : Nat → Nat) (ka : Nat → Nat) (ra : Nat → Nat) (na : Nat → Nat) (ia : Nat → Nat) (ua : Nat → Nat) (va : Nat → Nat) (ca : Nat → Nat) (za : Nat → Nat) (pa : Nat → Nat) (qa : Nat → Nat) (X : Tr) (K : Tr) (R : Tr) (P : Tr) (L : Lo) (P2 : Tr) (L2 : Lo) (Tn : Tr) (Ti : Tr) (Tu : Tr) (Tv : Tr) (C : Tr) (Z : Tr) (q0 : Nat) (q1 : Nat) (q2 : Nat) (q3 : Nat) (q4 : Nat) (q5 : Nat) (x2 : Int32)  (r0 : Int32) (C' : Tr) (h : f_X0_saveRow_x_va18 pa qa Tv C x2 = some (r0, C')) : Met l yX0_saveRow (.code yX0_saveRow cX0_saveRow 3 (some .int) :: T0) ({ frames := 1, cells := 0, slots := 0, locals := 40 } : Room) (tqP G cA [.ref (ca 0), .ref (va 18), .int x2] (wX cA xa ka ra na ia ua va ca za pa qa X K R P L P2 L2 Tn Ti Tu Tv C Z q0 q1 q2 q3 q4 q5) sz) (tqQi G cA (fun (r : Int32) (_ : Unit) => r = r0) (fun (_ : Unit) => wX cA xa ka ra na ia ua va ca za pa qa X K R P L P2 L2 Tn Ti Tu Tv (C') Z q0 q1 q2 q3 q4 q5) (va_A (wX cA xa ka ra na ia ua va ca za pa qa X K R P L P2 L2 Tn Ti Tu Tv C Z q0 q1 q2 q3 q4 q5) sz)) 0 0 (va_A (wX cA xa ka ra na ia ua va ca za pa qa X K R P L P2 L2 Tn Ti Tu Tv C Z q0 q1 q2 q3 q4 q5) sz) := by
  refine Met.ofW (cc := cX0_saveRow) (maxL := 3) (ret := (some .int)) (by decide) rfl ?_
  intro p e s m args below meth c s₁ B hml hv
  obtain ⟨rfl, hsz, hP, hK, hD0, hN⟩ := hv
  have hx := B.exec
  have hb := B.bytes
  have hr := B.returns
  have hts := atoms_spec (ws := .code yX0_saveRow cX0_saveRow 3 (some .int) :: T0) B.pre
  have hT : ∀ w ∈ T0, w.before _ s = true := fun w h => hts w (List.mem_cons_of_mem _ h)
  have hown : s.vm.findClass RX0 = some m.cls := findClass_of_methodNamed B.named
  have hlocks := B.notSynchronized
  subst hsz
  have hD := hD0.self (sz := s.heap.size)
  generalize hAe : va_A (wX cA xa ka ra na ia ua va ca za pa qa X K R P L P2 L2 Tn Ti Tu Tv C Z q0 q1 q2 q3 q4 q5) s.heap.size = A at hD ⊢
  have hA : ∀ q : Nat, s.heap.size ≤ q → A q := fun q h => by rw [← hAe]; exact Or.inr h
  have hS : va_S A s.heap s.heap [] := va_S.rf
  have hl := lv_entry ([.ref (ca 0), .ref (va 18), .int x2]) (n := 3) (Nat.le_of_ble_eq_true rfl)
  rw [lg_entry_eq]
  generalize (lg_sl ([.ref (ca 0), .ref (va 18), .int x2]) ++ List.replicate (3 - (lg_sl ([.ref (ca 0), .ref (va 18), .int x2])).length) Slot.unset).toArray = ls at hl ⊢
  have hl : lv_has ls 3 [(0, .ref (ca 0)), (1, .ref (va 18)), (2, .int x2)] := hl
  have F : tF p s m ([.ref (ca 0), .ref (va 18), .int x2] : List Value).toArray meth c G cA A RX0 cX0_saveRow 3 (some .int) := ⟨hx, hb, hr, hml, hT, hown, hlocks, hK, hN, hA⟩
  obtain ⟨H, hH⟩ : ∃ z, z = s.heap := ⟨_, rfl⟩
  rw [← hH] at hP
  have hS : va_S A s.heap H [] := by rw [hH]; exact hS
  suffices hgo : G_X0_saveRow_x_va18 p l e s m below meth c G cA A xa ka ra na ia ua va ca za pa qa X K R P L P2 L2 Tn Ti Tu Tv Z q0 q1 q2 q3 q4 q5 x2 r0 C' H [] (F0 m 0 ls []) by rw [hH] at hgo; exact hgo
  generalize ([] : List Loc) = locs at hS ⊢
  unfold f_X0_saveRow_x_va18 at h
  refine lv_aload_n hx hb dX0_saveRow_0 rfl (lv_at hl 1 rfl) ?_
  refine lv_iconst (v := 0) hx hb dX0_saveRow_1 (by decide) ?_
  refine lv_aload_n hx hb dX0_saveRow_2 rfl (lv_at hl 0 rfl) ?_
  refine va_get (D := G) (ci := 0) (v := .ref (ca 3)) (C := RX0) (T := TX0) (N := 3) hx hb hT ku_0 hown hK hP 101 rfl rfl 2 (by decide) (hT _ kw_8_18) (fun _ h9 => h9) rfl dX0_saveRow_3 ?_
  refine lv_iload_n hx hb dX0_saveRow_6 rfl (lv_at hl 2 rfl) ?_
  refine lv_aload_n hx hb dX0_saveRow_7 rfl (lv_at hl 1 rfl) ?_
  refine va_alen (v := 5) hx hb hK hP 99 0 rfl rfl (show Int32.ofNat 5 = 5 from by decide) dX0_saveRow_8 ?_
  replace h := tx_ck h
  obtain ⟨g1, h⟩ := h
  refine va_copyi (ty := .int) (sp := 0) (dp := x2) (n := 5) hx hb (hml.trans hl.1.symm) hown (hT _ kw_36_14) (hT _ kw_36_15) (hT _ kw_36_16) (hT _ kw_36_17) hK hP hD hS 99 102 0 0 rfl rfl rfl rfl rfl (tx_cp g1).1 (tx_cp g1).2.1 (tx_cp g1).2.2.1 (tx_cp g1).2.2.2.1 (tx_cp g1).2.2.2.2 (fun _ _ => rfl) (Nat.le_of_ble_eq_true rfl) (by decide) dX0_saveRow_9 (fun H locs hP hD hS => ?_)
  try rw [show (0 : Int32).toNatClampNeg = 0 from rfl] at hP hD
  try rw [show (5 : Int32).toNatClampNeg = 5 from rfl] at hP hD
  replace h := tx_lt h
  obtain ⟨C_2, eC_2, h⟩ := h
  rw [sX_ca_c2, eC_2] at hP hD
  refine lv_iload_n hx hb dX0_saveRow_12 rfl (lv_at hl 2 rfl) ?_
  refine lv_aload_n hx hb dX0_saveRow_13 rfl (lv_at hl 1 rfl) ?_
  refine va_alen (v := 5) hx hb hK hP 99 0 rfl rfl (show Int32.ofNat 5 = 5 from by decide) dX0_saveRow_14 ?_
  refine lv_iadd hx hb dX0_saveRow_15 ?_
  obtain ⟨rfl, rfl⟩ := tx_2 h
  exact W.iret hx hb hr (fun t ht hW => ⟨⟨_, (), rfl, rfl, by rw [ht]; exact hP, hD⟩, hS.F ht⟩) hS.2.2 dX0_saveRow_16
abbrev G_X0_saveRow_x_va15 (p : Program) (l : Launch) (e : Env) (s : State) (m : MethodId) (below : List Frame) (meth : Method) (c : Code) (G : va_G) (cA : Nat → ClassId) (A : Nat → Prop) (xa : Nat → Nat) (ka : Nat → Nat) (ra : Nat → Nat) (na : Nat → Nat) (ia : Nat → Nat) (ua : Nat → Nat) (va : Nat → Nat) (ca : Nat → Nat) (za : Nat → Nat) (pa : Nat → Nat) (qa : Nat → Nat) (X : Tr) (K : Tr) (R : Tr) (P : Tr) (L : Lo) (P2 : Tr) (L2 : Lo) (Tn : Tr) (Ti : Tr) (Tu : Tr) (Tv : Tr) (Z : Tr) (q0 : Nat) (q1 : Nat) (q2 : Nat) (q3 : Nat) (q4 : Nat) (q5 : Nat) (x2 : Int32) (r0 : Int32) (C' : Tr) (H : Heap) (locs : List Loc) (g : JFrame) : Prop := W p l e (headSpec (.code yX0_saveRow cX0_saveRow 3 (some .int) :: T0) ({ frames := 1, cells := 0, slots := 0, locals := 40 } : Room)).room s m ([.ref (ca 0), .ref (va 15), .int x2] : List Value).toArray below meth c H locs 0 0 (MQ below (tqQi G cA (fun (r : Int32) (_ : Unit) => r = r0) (fun (_ : Unit) => wX cA xa ka ra na ia ua va ca za pa qa X K R P L P2 L2 Tn Ti Tu Tv (C') Z q0 q1 q2 q3 q4 q5) A) ([.ref (ca 0), .ref (va 15), .int x2] : List Value).toArray s 0 0 A) g
set_option maxHeartbeats 4000000 in
set_option maxRecDepth 100000 in
theorem c_X0_saveRow_x_va15 (l : Launch) (G : va_G) (cA : Nat → ClassId) (sz : Nat) (xa : Nat → Nat) (ka : Nat → Nat) (ra : Nat → Nat) (na : Nat → Nat) (ia : Nat → Nat) (ua : Nat → Nat) (va : Nat → Nat) (ca : Nat → Nat) (za : Nat → Nat) (pa : Nat → Nat) (qa : Nat → Nat) (X : Tr) (K : Tr) (R : Tr) (P : Tr) (L : Lo) (P2 : Tr) (L2 : Lo) (Tn : Tr) (Ti : Tr) (Tu : Tr) (Tv : Tr) (C : Tr) (Z : Tr) (q0 : Nat) (q1 : Nat) (q2 : Nat) (q3 : Nat) (q4 : Nat) (q5 : Nat) (x2 : Int32)  (r0 : Int32) (C' : Tr) (h : f_X0_saveRow_x_va15 pa qa Tv C x2 = some (r0, C')) : Met l yX0_saveRow (.code yX0_saveRow cX0_saveRow 3 (some .int) :: T0) ({ frames := 1, cells := 0, slots := 0, locals := 40 } : Room) (tqP G cA [.ref (ca 0), .ref (va 15), .int x2] (wX cA xa ka ra na ia ua va ca za pa qa X K R P L P2 L2 Tn Ti Tu Tv C Z q0 q1 q2 q3 q4 q5) sz) (tqQi G cA (fun (r : Int32) (_ : Unit) => r = r0) (fun (_ : Unit) => wX cA xa ka ra na ia ua va ca za pa qa X K R P L P2 L2 Tn Ti Tu Tv (C') Z q0 q1 q2 q3 q4 q5) (va_A (wX cA xa ka ra na ia ua va ca za pa qa X K R P L P2 L2 Tn Ti Tu Tv C Z q0 q1 q2 q3 q4 q5) sz)) 0 0 (va_A (wX cA xa ka ra na ia ua va ca za pa qa X K R P L P2 L2 Tn Ti Tu Tv C Z q0 q1 q2 q3 q4 q5) sz) := by
  refine Met.ofW (cc := cX0_saveRow) (maxL := 3) (ret := (some .int)) (by decide) rfl ?_
  intro p e s m args below meth c s₁ B hml hv
  obtain ⟨rfl, hsz, hP, hK, hD0, hN⟩ := hv
  have hx := B.exec
  have hb := B.bytes
  have hr := B.returns
  have hts := atoms_spec (ws := .code yX0_saveRow cX0_saveRow 3 (some .int) :: T0) B.pre
  have hT : ∀ w ∈ T0, w.before _ s = true := fun w h => hts w (List.mem_cons_of_mem _ h)
  have hown : s.vm.findClass RX0 = some m.cls := findClass_of_methodNamed B.named
  have hlocks := B.notSynchronized
  subst hsz
  have hD := hD0.self (sz := s.heap.size)
  generalize hAe : va_A (wX cA xa ka ra na ia ua va ca za pa qa X K R P L P2 L2 Tn Ti Tu Tv C Z q0 q1 q2 q3 q4 q5) s.heap.size = A at hD ⊢
  have hA : ∀ q : Nat, s.heap.size ≤ q → A q := fun q h => by rw [← hAe]; exact Or.inr h
  have hS : va_S A s.heap s.heap [] := va_S.rf
  have hl := lv_entry ([.ref (ca 0), .ref (va 15), .int x2]) (n := 3) (Nat.le_of_ble_eq_true rfl)
  rw [lg_entry_eq]
  generalize (lg_sl ([.ref (ca 0), .ref (va 15), .int x2]) ++ List.replicate (3 - (lg_sl ([.ref (ca 0), .ref (va 15), .int x2])).length) Slot.unset).toArray = ls at hl ⊢
  have hl : lv_has ls 3 [(0, .ref (ca 0)), (1, .ref (va 15)), (2, .int x2)] := hl
  have F : tF p s m ([.ref (ca 0), .ref (va 15), .int x2] : List Value).toArray meth c G cA A RX0 cX0_saveRow 3 (some .int) := ⟨hx, hb, hr, hml, hT, hown, hlocks, hK, hN, hA⟩
  obtain ⟨H, hH⟩ : ∃ z, z = s.heap := ⟨_, rfl⟩
  rw [← hH] at hP
  have hS : va_S A s.heap H [] := by rw [hH]; exact hS
  suffices hgo : G_X0_saveRow_x_va15 p l e s m below meth c G cA A xa ka ra na ia ua va ca za pa qa X K R P L P2 L2 Tn Ti Tu Tv Z q0 q1 q2 q3 q4 q5 x2 r0 C' H [] (F0 m 0 ls []) by rw [hH] at hgo; exact hgo
  generalize ([] : List Loc) = locs at hS ⊢
  unfold f_X0_saveRow_x_va15 at h
  refine lv_aload_n hx hb dX0_saveRow_0 rfl (lv_at hl 1 rfl) ?_
  refine lv_iconst (v := 0) hx hb dX0_saveRow_1 (by decide) ?_
  refine lv_aload_n hx hb dX0_saveRow_2 rfl (lv_at hl 0 rfl) ?_
  refine va_get (D := G) (ci := 0) (v := .ref (ca 3)) (C := RX0) (T := TX0) (N := 3) hx hb hT ku_0 hown hK hP 101 rfl rfl 2 (by decide) (hT _ kw_8_18) (fun _ h9 => h9) rfl dX0_saveRow_3 ?_
  refine lv_iload_n hx hb dX0_saveRow_6 rfl (lv_at hl 2 rfl) ?_
  refine lv_aload_n hx hb dX0_saveRow_7 rfl (lv_at hl 1 rfl) ?_
  refine va_alen (v := 10) hx hb hK hP 96 0 rfl rfl (show Int32.ofNat 10 = 10 from by decide) dX0_saveRow_8 ?_
  replace h := tx_ck h
  obtain ⟨g1, h⟩ := h
  refine va_copyi (ty := .int) (sp := 0) (dp := x2) (n := 10) hx hb (hml.trans hl.1.symm) hown (hT _ kw_36_14) (hT _ kw_36_15) (hT _ kw_36_16) (hT _ kw_36_17) hK hP hD hS 96 102 0 0 rfl rfl rfl rfl rfl (tx_cp g1).1 (tx_cp g1).2.1 (tx_cp g1).2.2.1 (tx_cp g1).2.2.2.1 (tx_cp g1).2.2.2.2 (fun _ _ => rfl) (Nat.le_of_ble_eq_true rfl) (by decide) dX0_saveRow_9 (fun H locs hP hD hS => ?_)
  try rw [show (0 : Int32).toNatClampNeg = 0 from rfl] at hP hD
  try rw [show (10 : Int32).toNatClampNeg = 10 from rfl] at hP hD
  replace h := tx_lt h
  obtain ⟨C_2, eC_2, h⟩ := h
  rw [sX_ca_c2, eC_2] at hP hD
  refine lv_iload_n hx hb dX0_saveRow_12 rfl (lv_at hl 2 rfl) ?_
  refine lv_aload_n hx hb dX0_saveRow_13 rfl (lv_at hl 1 rfl) ?_
  refine va_alen (v := 10) hx hb hK hP 96 0 rfl rfl (show Int32.ofNat 10 = 10 from by decide) dX0_saveRow_14 ?_
  refine lv_iadd hx hb dX0_saveRow_15 ?_
  obtain ⟨rfl, rfl⟩ := tx_2 h
  exact W.iret hx hb hr (fun t ht hW => ⟨⟨_, (), rfl, rfl, by rw [ht]; exact hP, hD⟩, hS.F ht⟩) hS.2.2 dX0_saveRow_16
abbrev G_X0_saveRow_x_va10 (p : Program) (l : Launch) (e : Env) (s : State) (m : MethodId) (below : List Frame) (meth : Method) (c : Code) (G : va_G) (cA : Nat → ClassId) (A : Nat → Prop) (xa : Nat → Nat) (ka : Nat → Nat) (ra : Nat → Nat) (na : Nat → Nat) (ia : Nat → Nat) (ua : Nat → Nat) (va : Nat → Nat) (ca : Nat → Nat) (za : Nat → Nat) (pa : Nat → Nat) (qa : Nat → Nat) (X : Tr) (K : Tr) (R : Tr) (P : Tr) (L : Lo) (P2 : Tr) (L2 : Lo) (Tn : Tr) (Ti : Tr) (Tu : Tr) (Tv : Tr) (Z : Tr) (q0 : Nat) (q1 : Nat) (q2 : Nat) (q3 : Nat) (q4 : Nat) (q5 : Nat) (x2 : Int32) (r0 : Int32) (C' : Tr) (H : Heap) (locs : List Loc) (g : JFrame) : Prop := W p l e (headSpec (.code yX0_saveRow cX0_saveRow 3 (some .int) :: T0) ({ frames := 1, cells := 0, slots := 0, locals := 40 } : Room)).room s m ([.ref (ca 0), .ref (va 10), .int x2] : List Value).toArray below meth c H locs 0 0 (MQ below (tqQi G cA (fun (r : Int32) (_ : Unit) => r = r0) (fun (_ : Unit) => wX cA xa ka ra na ia ua va ca za pa qa X K R P L P2 L2 Tn Ti Tu Tv (C') Z q0 q1 q2 q3 q4 q5) A) ([.ref (ca 0), .ref (va 10), .int x2] : List Value).toArray s 0 0 A) g
set_option maxHeartbeats 4000000 in
set_option maxRecDepth 100000 in
theorem c_X0_saveRow_x_va10 (l : Launch) (G : va_G) (cA : Nat → ClassId) (sz : Nat) (xa : Nat → Nat) (ka : Nat → Nat) (ra : Nat → Nat) (na : Nat → Nat) (ia : Nat → Nat) (ua : Nat → Nat) (va : Nat → Nat) (ca : Nat → Nat) (za : Nat → Nat) (pa : Nat → Nat) (qa : Nat → Nat) (X : Tr) (K : Tr) (R : Tr) (P : Tr) (L : Lo) (P2 : Tr) (L2 : Lo) (Tn : Tr) (Ti : Tr) (Tu : Tr) (Tv : Tr) (C : Tr) (Z : Tr) (q0 : Nat) (q1 : Nat) (q2 : Nat) (q3 : Nat) (q4 : Nat) (q5 : Nat) (x2 : Int32)  (r0 : Int32) (C' : Tr) (h : f_X0_saveRow_x_va10 pa qa Tv C x2 = some (r0, C')) : Met l yX0_saveRow (.code yX0_saveRow cX0_saveRow 3 (some .int) :: T0) ({ frames := 1, cells := 0, slots := 0, locals := 40 } : Room) (tqP G cA [.ref (ca 0), .ref (va 10), .int x2] (wX cA xa ka ra na ia ua va ca za pa qa X K R P L P2 L2 Tn Ti Tu Tv C Z q0 q1 q2 q3 q4 q5) sz) (tqQi G cA (fun (r : Int32) (_ : Unit) => r = r0) (fun (_ : Unit) => wX cA xa ka ra na ia ua va ca za pa qa X K R P L P2 L2 Tn Ti Tu Tv (C') Z q0 q1 q2 q3 q4 q5) (va_A (wX cA xa ka ra na ia ua va ca za pa qa X K R P L P2 L2 Tn Ti Tu Tv C Z q0 q1 q2 q3 q4 q5) sz)) 0 0 (va_A (wX cA xa ka ra na ia ua va ca za pa qa X K R P L P2 L2 Tn Ti Tu Tv C Z q0 q1 q2 q3 q4 q5) sz) := by
  refine Met.ofW (cc := cX0_saveRow) (maxL := 3) (ret := (some .int)) (by decide) rfl ?_
  intro p e s m args below meth c s₁ B hml hv
  obtain ⟨rfl, hsz, hP, hK, hD0, hN⟩ := hv
  have hx := B.exec
  have hb := B.bytes
  have hr := B.returns
  have hts := atoms_spec (ws := .code yX0_saveRow cX0_saveRow 3 (some .int) :: T0) B.pre
  have hT : ∀ w ∈ T0, w.before _ s = true := fun w h => hts w (List.mem_cons_of_mem _ h)
  have hown : s.vm.findClass RX0 = some m.cls := findClass_of_methodNamed B.named
  have hlocks := B.notSynchronized
  subst hsz
  have hD := hD0.self (sz := s.heap.size)
  generalize hAe : va_A (wX cA xa ka ra na ia ua va ca za pa qa X K R P L P2 L2 Tn Ti Tu Tv C Z q0 q1 q2 q3 q4 q5) s.heap.size = A at hD ⊢
  have hA : ∀ q : Nat, s.heap.size ≤ q → A q := fun q h => by rw [← hAe]; exact Or.inr h
  have hS : va_S A s.heap s.heap [] := va_S.rf
  have hl := lv_entry ([.ref (ca 0), .ref (va 10), .int x2]) (n := 3) (Nat.le_of_ble_eq_true rfl)
  rw [lg_entry_eq]
  generalize (lg_sl ([.ref (ca 0), .ref (va 10), .int x2]) ++ List.replicate (3 - (lg_sl ([.ref (ca 0), .ref (va 10), .int x2])).length) Slot.unset).toArray = ls at hl ⊢
  have hl : lv_has ls 3 [(0, .ref (ca 0)), (1, .ref (va 10)), (2, .int x2)] := hl
  have F : tF p s m ([.ref (ca 0), .ref (va 10), .int x2] : List Value).toArray meth c G cA A RX0 cX0_saveRow 3 (some .int) := ⟨hx, hb, hr, hml, hT, hown, hlocks, hK, hN, hA⟩
  obtain ⟨H, hH⟩ : ∃ z, z = s.heap := ⟨_, rfl⟩
  rw [← hH] at hP
  have hS : va_S A s.heap H [] := by rw [hH]; exact hS
  suffices hgo : G_X0_saveRow_x_va10 p l e s m below meth c G cA A xa ka ra na ia ua va ca za pa qa X K R P L P2 L2 Tn Ti Tu Tv Z q0 q1 q2 q3 q4 q5 x2 r0 C' H [] (F0 m 0 ls []) by rw [hH] at hgo; exact hgo
  generalize ([] : List Loc) = locs at hS ⊢
  unfold f_X0_saveRow_x_va10 at h
  refine lv_aload_n hx hb dX0_saveRow_0 rfl (lv_at hl 1 rfl) ?_
  refine lv_iconst (v := 0) hx hb dX0_saveRow_1 (by decide) ?_
  refine lv_aload_n hx hb dX0_saveRow_2 rfl (lv_at hl 0 rfl) ?_
  refine va_get (D := G) (ci := 0) (v := .ref (ca 3)) (C := RX0) (T := TX0) (N := 3) hx hb hT ku_0 hown hK hP 101 rfl rfl 2 (by decide) (hT _ kw_8_18) (fun _ h9 => h9) rfl dX0_saveRow_3 ?_
  refine lv_iload_n hx hb dX0_saveRow_6 rfl (lv_at hl 2 rfl) ?_
  refine lv_aload_n hx hb dX0_saveRow_7 rfl (lv_at hl 1 rfl) ?_
  refine va_alen (v := 6) hx hb hK hP 91 0 rfl rfl (show Int32.ofNat 6 = 6 from by decide) dX0_saveRow_8 ?_
  replace h := tx_ck h
  obtain ⟨g1, h⟩ := h
  refine va_copyi (ty := .int) (sp := 0) (dp := x2) (n := 6) hx hb (hml.trans hl.1.symm) hown (hT _ kw_36_14) (hT _ kw_36_15) (hT _ kw_36_16) (hT _ kw_36_17) hK hP hD hS 91 102 0 0 rfl rfl rfl rfl rfl (tx_cp g1).1 (tx_cp g1).2.1 (tx_cp g1).2.2.1 (tx_cp g1).2.2.2.1 (tx_cp g1).2.2.2.2 (fun _ _ => rfl) (Nat.le_of_ble_eq_true rfl) (by decide) dX0_saveRow_9 (fun H locs hP hD hS => ?_)
  try rw [show (0 : Int32).toNatClampNeg = 0 from rfl] at hP hD
  try rw [show (6 : Int32).toNatClampNeg = 6 from rfl] at hP hD
  replace h := tx_lt h
  obtain ⟨C_2, eC_2, h⟩ := h
  rw [sX_ca_c2, eC_2] at hP hD
  refine lv_iload_n hx hb dX0_saveRow_12 rfl (lv_at hl 2 rfl) ?_
  refine lv_aload_n hx hb dX0_saveRow_13 rfl (lv_at hl 1 rfl) ?_
  refine va_alen (v := 6) hx hb hK hP 91 0 rfl rfl (show Int32.ofNat 6 = 6 from by decide) dX0_saveRow_14 ?_
  refine lv_iadd hx hb dX0_saveRow_15 ?_
  obtain ⟨rfl, rfl⟩ := tx_2 h
  exact W.iret hx hb hr (fun t ht hW => ⟨⟨_, (), rfl, rfl, by rw [ht]; exact hP, hD⟩, hS.F ht⟩) hS.2.2 dX0_saveRow_16
abbrev G_X0_save_x_va0 (p : Program) (l : Launch) (e : Env) (s : State) (m : MethodId) (below : List Frame) (meth : Method) (c : Code) (G : va_G) (cA : Nat → ClassId) (A : Nat → Prop) (xa : Nat → Nat) (ka : Nat → Nat) (ra : Nat → Nat) (na : Nat → Nat) (ia : Nat → Nat) (ua : Nat → Nat) (va : Nat → Nat) (ca : Nat → Nat) (za : Nat → Nat) (pa : Nat → Nat) (qa : Nat → Nat) (X : Tr) (K : Tr) (R : Tr) (P : Tr) (L : Lo) (P2 : Tr) (L2 : Lo) (Tn : Tr) (Ti : Tr) (Tu : Tr) (Tv : Tr) (Z : Tr) (q0 : Nat) (q1 : Nat) (q2 : Nat) (q3 : Nat) (q4 : Nat) (q5 : Nat) (C' : Tr) (H : Heap) (locs : List Loc) (g : JFrame) : Prop := W p l e (headSpec (.code yX0_save cX0_save 3 none :: T0) ({ frames := 2, cells := 0, slots := 0, locals := 62 } : Room)).room s m ([.ref (ca 0), .ref (va 0)] : List Value).toArray below meth c H locs 0 0 (MQ below (tqQv G cA (fun (_ : Unit) => True) (fun (_ : Unit) => wX cA xa ka ra na ia ua va ca za pa qa X K R P L P2 L2 Tn Ti Tu Tv (C') Z q0 q1 q2 q3 q4 q5) A) ([.ref (ca 0), .ref (va 0)] : List Value).toArray s 0 0 A) g
set_option maxHeartbeats 4000000 in
set_option maxRecDepth 100000 in
theorem w_X0_save_x_va0_J92 {p : Program} {l : Launch} {e : Env} {s : State} {m : MethodId} {below : List Frame} {meth : Method} {c : Code} {G : va_G} {cA : Nat → ClassId} {A : Nat → Prop} {xa : Nat → Nat} {ka : Nat → Nat} {ra : Nat → Nat} {na : Nat → Nat} {ia : Nat → Nat} {ua : Nat → Nat} {va : Nat → Nat} {ca : Nat → Nat} {za : Nat → Nat} {pa : Nat → Nat} {qa : Nat → Nat} {X : Tr} {K : Tr} {R : Tr} {P : Tr} {L : Lo} {P2 : Tr} {L2 : Lo} {Tn : Tr} {Ti : Tr} {Tu : Tr} {Tv : Tr} {Z : Tr} {q0 : Nat} {q1 : Nat} {q2 : Nat} {q3 : Nat} {q4 : Nat} {q5 : Nat} {C' : Tr} (F : tF p s m ([.ref (ca 0), .ref (va 0)] : List Value).toArray meth c G cA A RX0 cX0_save 3 none)    (s0 : Int32) (C : Tr) (H : Heap) (locs : List Loc) (ls : Array Slot) (h : fJ_X0_save_x_va0_J92 pa qa Tv s0 C = some C') (hP : va_P G vwCl (wX cA xa ka ra na ia ua va ca za pa qa X K R P L P2 L2 Tn Ti Tu Tv C Z q0 q1 q2 q3 q4 q5) H) (hD : va_D A (wX cA xa ka ra na ia ua va ca za pa qa X K R P L P2 L2 Tn Ti Tu Tv C Z q0 q1 q2 q3 q4 q5)) (hS : va_S A s.heap H locs) (hl : lv_has ls 3 []) : G_X0_save_x_va0 p l e s m below meth c G cA A xa ka ra na ia ua va ca za pa qa X K R P L P2 L2 Tn Ti Tu Tv Z q0 q1 q2 q3 q4 q5 C' H locs (F0 m 92 ls [.int s0, .ref (ca 0)]) := by
  obtain ⟨hx, hb, hr, hml, hT, hown, hlocks, hK, hN, hA⟩ := id F
  unfold fJ_X0_save_x_va0_J92 at h
  refine va_put (D := G) (ci := 0) (v := .int s0) (ty := .int) (C := RX0) (T := TX0) (N := 3) hx hb hT ku_0 tyX0 tyX0_ok nmX0 hown hK hP hD hS 101 rfl rfl 0 (by decide) (hT _ kw_8_16) (fun _ h9 => h9) rfl (by decide +kernel) rfl rfl (Nat.le_of_ble_eq_true rfl) dX0_save_92 (fun H locs hP hD hS => ?_)
  replace h := tx_lt h
  obtain ⟨C_24, eC_24, h⟩ := h
  rw [sX_ca_f0, eC_24] at hP hD
  obtain rfl := tx_1 h
  exact W.vret hx hb hr (fun t ht hW => ⟨⟨(), rfl, trivial, by rw [ht]; exact hP, hD⟩, hS.F ht⟩) hS.2.2 dX0_save_95
set_option maxHeartbeats 4000000 in
set_option maxRecDepth 100000 in
theorem c_X0_save_x_va0 (l : Launch) (G : va_G) (cA : Nat → ClassId) (sz : Nat) (xa : Nat → Nat) (ka : Nat → Nat) (ra : Nat → Nat) (na : Nat → Nat) (ia : Nat → Nat) (ua : Nat → Nat) (va : Nat → Nat) (ca : Nat → Nat) (za : Nat → Nat) (pa : Nat → Nat) (qa : Nat → Nat) (X : Tr) (K : Tr) (R : Tr) (P : Tr) (L : Lo) (P2 : Tr) (L2 : Lo) (Tn : Tr) (Ti : Tr) (Tu : Tr) (Tv : Tr) (C : Tr) (Z : Tr) (q0 : Nat) (q1 : Nat) (q2 : Nat) (q3 : Nat) (q4 : Nat) (q5 : Nat)  (C' : Tr) (h : f_X0_save_x_va0 pa qa Tv C = some C') : Met l yX0_save (.code yX0_save cX0_save 3 none :: T0) ({ frames := 2, cells := 0, slots := 0, locals := 62 } : Room) (tqP G cA [.ref (ca 0), .ref (va 0)] (wX cA xa ka ra na ia ua va ca za pa qa X K R P L P2 L2 Tn Ti Tu Tv C Z q0 q1 q2 q3 q4 q5) sz) (tqQv G cA (fun (_ : Unit) => True) (fun (_ : Unit) => wX cA xa ka ra na ia ua va ca za pa qa X K R P L P2 L2 Tn Ti Tu Tv (C') Z q0 q1 q2 q3 q4 q5) (va_A (wX cA xa ka ra na ia ua va ca za pa qa X K R P L P2 L2 Tn Ti Tu Tv C Z q0 q1 q2 q3 q4 q5) sz)) 0 0 (va_A (wX cA xa ka ra na ia ua va ca za pa qa X K R P L P2 L2 Tn Ti Tu Tv C Z q0 q1 q2 q3 q4 q5) sz) := by
  refine Met.ofW (cc := cX0_save) (maxL := 3) (ret := none) (by decide) rfl ?_
  intro p e s m args below meth c s₁ B hml hv
  obtain ⟨rfl, hsz, hP, hK, hD0, hN⟩ := hv
  have hx := B.exec
  have hb := B.bytes
  have hr := B.returns
  have hts := atoms_spec (ws := .code yX0_save cX0_save 3 none :: T0) B.pre
  have hT : ∀ w ∈ T0, w.before _ s = true := fun w h => hts w (List.mem_cons_of_mem _ h)
  have hown : s.vm.findClass RX0 = some m.cls := findClass_of_methodNamed B.named
  have hlocks := B.notSynchronized
  subst hsz
  have hD := hD0.self (sz := s.heap.size)
  generalize hAe : va_A (wX cA xa ka ra na ia ua va ca za pa qa X K R P L P2 L2 Tn Ti Tu Tv C Z q0 q1 q2 q3 q4 q5) s.heap.size = A at hD ⊢
  have hA : ∀ q : Nat, s.heap.size ≤ q → A q := fun q h => by rw [← hAe]; exact Or.inr h
  have hS : va_S A s.heap s.heap [] := va_S.rf
  have hl := lv_entry ([.ref (ca 0), .ref (va 0)]) (n := 3) (Nat.le_of_ble_eq_true rfl)
  rw [lg_entry_eq]
  generalize (lg_sl ([.ref (ca 0), .ref (va 0)]) ++ List.replicate (3 - (lg_sl ([.ref (ca 0), .ref (va 0)])).length) Slot.unset).toArray = ls at hl ⊢
  have hl : lv_has ls 3 [(0, .ref (ca 0)), (1, .ref (va 0))] := hl
  have F : tF p s m ([.ref (ca 0), .ref (va 0)] : List Value).toArray meth c G cA A RX0 cX0_save 3 none := ⟨hx, hb, hr, hml, hT, hown, hlocks, hK, hN, hA⟩
  obtain ⟨H, hH⟩ : ∃ z, z = s.heap := ⟨_, rfl⟩
  rw [← hH] at hP
  have hS : va_S A s.heap H [] := by rw [hH]; exact hS
  suffices hgo : G_X0_save_x_va0 p l e s m below meth c G cA A xa ka ra na ia ua va ca za pa qa X K R P L P2 L2 Tn Ti Tu Tv Z q0 q1 q2 q3 q4 q5 C' H [] (F0 m 0 ls []) by rw [hH] at hgo; exact hgo
  generalize ([] : List Loc) = locs at hS ⊢
  unfold f_X0_save_x_va0 at h
  refine lv_aload_n hx hb dX0_save_0 rfl (lv_at hl 0 rfl) ?_
  refine va_get (D := G) (ci := 0) (v := .int (C 0 1)) (C := RX0) (T := TX0) (N := 3) hx hb hT ku_0 hown hK hP 101 rfl rfl 1 (by decide) (hT _ kw_8_17) (fun _ h9 => h9) rfl dX0_save_1 ?_
  refine lv_bipush (v := 76) hx hb dX0_save_4 (by decide) ?_
  refine lv_imul hx hb dX0_save_6 ?_
  refine lv_topi (fun y1 ey1 => ?_)
  replace h := tx_let ey1 h
  refine lv_istore_n (lv' := [(2, .int y1), (0, .ref (ca 0)), (1, .ref (va 0))]) hx hb dX0_save_7 rfl hl (by decide) rfl (fun ls hl => ?_)
  refine lv_aload_n hx hb dX0_save_8 rfl (lv_at hl 1 rfl) ?_
  refine lv_aload_n hx hb dX0_save_9 rfl (lv_at hl 2 rfl) ?_
  refine va_get (D := G) (ci := 6) (v := .ref (va 16)) (C := RX6) (T := TX6) (N := 20) hx hb hT ku_6 hown hK hP 89 rfl rfl 15 (by decide) (hT _ kw_36_5) (fun _ h9 => h9) rfl dX0_save_10 ?_
  refine lv_iload_n hx hb dX0_save_13 rfl (lv_at hl 0 rfl) ?_
  replace h := tx_bd h
  obtain ⟨⟨r2, C_3⟩, hc4, h⟩ := h
  replace h := tx_let (y := r2) rfl h
  replace h := tx_let (y := C_3) rfl h
  refine tz_i (As := [.ref (va 16), .int y1]) (rest := []) ⟨hx, hb, hml, hown, hT⟩ hP hD hS hA hK hN (c_X0_saveRow_x_va16 l G cA H.size xa ka ra na ia ua va ca za pa qa X K R P L P2 L2 Tn Ti Tu Tv C Z q0 q1 q2 q3 q4 q5 y1  r2 C_3 hc4) (tq_gV kw_36_10 kw_36_11 kw_36_12 kw_2_7 kw_36_13) rfl rfl dkdV_yX0_saveRow_2 (Nat.le_of_ble_eq_true rfl) (Nat.le_of_ble_eq_true rfl) (ci := 0) (q0 := 101) rfl rfl rfl hl.1 rfl (Nat.le_of_ble_eq_true rfl) dX0_save_14 ⟨Nat.le_of_ble_eq_true rfl, Nat.le_of_ble_eq_true rfl⟩ (fun _ _ H locs z5 hP hD hS => ?_)
  have z5 := z5.symm
  subst z5
  have hP : va_P G vwCl (wX cA xa ka ra na ia ua va ca za pa qa X K R P L P2 L2 Tn Ti Tu Tv C_3 Z q0 q1 q2 q3 q4 q5) H := hP
  have hD : va_D A (wX cA xa ka ra na ia ua va ca za pa qa X K R P L P2 L2 Tn Ti Tu Tv C_3 Z q0 q1 q2 q3 q4 q5) := hD
  refine lv_istore_n (lv' := [(2, .int r2), (0, .ref (ca 0)), (1, .ref (va 0))]) hx hb dX0_save_17 rfl hl (by decide) rfl (fun ls hl => ?_)
  refine lv_aload_n hx hb dX0_save_18 rfl (lv_at hl 1 rfl) ?_
  refine lv_aload_n hx hb dX0_save_19 rfl (lv_at hl 2 rfl) ?_
  refine va_get (D := G) (ci := 6) (v := .ref (va 17)) (C := RX6) (T := TX6) (N := 20) hx hb hT ku_6 hown hK hP 89 rfl rfl 16 (by decide) (hT _ kw_36_6) (fun _ h9 => h9) rfl dX0_save_20 ?_
  refine lv_iload_n hx hb dX0_save_23 rfl (lv_at hl 0 rfl) ?_
  replace h := tx_bd h
  obtain ⟨⟨r6, C_7⟩, hc8, h⟩ := h
  replace h := tx_let (y := r6) rfl h
  replace h := tx_let (y := C_7) rfl h
  refine tz_i (As := [.ref (va 17), .int r2]) (rest := []) ⟨hx, hb, hml, hown, hT⟩ hP hD hS hA hK hN (c_X0_saveRow_x_va17 l G cA H.size xa ka ra na ia ua va ca za pa qa X K R P L P2 L2 Tn Ti Tu Tv C_3 Z q0 q1 q2 q3 q4 q5 r2  r6 C_7 hc8) (tq_gV kw_36_10 kw_36_11 kw_36_12 kw_2_7 kw_36_13) rfl rfl dkdV_yX0_saveRow_2 (Nat.le_of_ble_eq_true rfl) (Nat.le_of_ble_eq_true rfl) (ci := 0) (q0 := 101) rfl rfl rfl hl.1 rfl (Nat.le_of_ble_eq_true rfl) dX0_save_24 ⟨Nat.le_of_ble_eq_true rfl, Nat.le_of_ble_eq_true rfl⟩ (fun _ _ H locs z9 hP hD hS => ?_)
  have z9 := z9.symm
  subst z9
  have hP : va_P G vwCl (wX cA xa ka ra na ia ua va ca za pa qa X K R P L P2 L2 Tn Ti Tu Tv C_7 Z q0 q1 q2 q3 q4 q5) H := hP
  have hD : va_D A (wX cA xa ka ra na ia ua va ca za pa qa X K R P L P2 L2 Tn Ti Tu Tv C_7 Z q0 q1 q2 q3 q4 q5) := hD
  refine lv_istore_n (lv' := [(2, .int r6), (0, .ref (ca 0)), (1, .ref (va 0))]) hx hb dX0_save_27 rfl hl (by decide) rfl (fun ls hl => ?_)
  refine lv_aload_n hx hb dX0_save_28 rfl (lv_at hl 1 rfl) ?_
  refine lv_aload_n hx hb dX0_save_29 rfl (lv_at hl 2 rfl) ?_
  refine va_get (D := G) (ci := 6) (v := .ref (va 18)) (C := RX6) (T := TX6) (N := 20) hx hb hT ku_6 hown hK hP 89 rfl rfl 17 (by decide) (hT _ kw_36_7) (fun _ h9 => h9) rfl dX0_save_30 ?_
  refine lv_iload_n hx hb dX0_save_33 rfl (lv_at hl 0 rfl) ?_
  replace h := tx_bd h
  obtain ⟨⟨r10, C_11⟩, hc12, h⟩ := h
  replace h := tx_let (y := r10) rfl h
  replace h := tx_let (y := C_11) rfl h
  refine tz_i (As := [.ref (va 18), .int r6]) (rest := []) ⟨hx, hb, hml, hown, hT⟩ hP hD hS hA hK hN (c_X0_saveRow_x_va18 l G cA H.size xa ka ra na ia ua va ca za pa qa X K R P L P2 L2 Tn Ti Tu Tv C_7 Z q0 q1 q2 q3 q4 q5 r6  r10 C_11 hc12) (tq_gV kw_36_10 kw_36_11 kw_36_12 kw_2_7 kw_36_13) rfl rfl dkdV_yX0_saveRow_2 (Nat.le_of_ble_eq_true rfl) (Nat.le_of_ble_eq_true rfl) (ci := 0) (q0 := 101) rfl rfl rfl hl.1 rfl (Nat.le_of_ble_eq_true rfl) dX0_save_34 ⟨Nat.le_of_ble_eq_true rfl, Nat.le_of_ble_eq_true rfl⟩ (fun _ _ H locs z13 hP hD hS => ?_)
  have z13 := z13.symm
  subst z13
  have hP : va_P G vwCl (wX cA xa ka ra na ia ua va ca za pa qa X K R P L P2 L2 Tn Ti Tu Tv C_11 Z q0 q1 q2 q3 q4 q5) H := hP
  have hD : va_D A (wX cA xa ka ra na ia ua va ca za pa qa X K R P L P2 L2 Tn Ti Tu Tv C_11 Z q0 q1 q2 q3 q4 q5) := hD
  refine lv_istore_n (lv' := [(2, .int r10), (0, .ref (ca 0)), (1, .ref (va 0))]) hx hb dX0_save_37 rfl hl (by decide) rfl (fun ls hl => ?_)
  refine lv_aload_n hx hb dX0_save_38 rfl (lv_at hl 1 rfl) ?_
  refine lv_aload_n hx hb dX0_save_39 rfl (lv_at hl 2 rfl) ?_
  refine va_get (D := G) (ci := 6) (v := .ref (va 15)) (C := RX6) (T := TX6) (N := 20) hx hb hT ku_6 hown hK hP 89 rfl rfl 14 (by decide) (hT _ kw_36_8) (fun _ h9 => h9) rfl dX0_save_40 ?_
  refine lv_iload_n hx hb dX0_save_43 rfl (lv_at hl 0 rfl) ?_
  replace h := tx_bd h
  obtain ⟨⟨r14, C_15⟩, hc16, h⟩ := h
  replace h := tx_let (y := r14) rfl h
  replace h := tx_let (y := C_15) rfl h
  refine tz_i (As := [.ref (va 15), .int r10]) (rest := []) ⟨hx, hb, hml, hown, hT⟩ hP hD hS hA hK hN (c_X0_saveRow_x_va15 l G cA H.size xa ka ra na ia ua va ca za pa qa X K R P L P2 L2 Tn Ti Tu Tv C_11 Z q0 q1 q2 q3 q4 q5 r10  r14 C_15 hc16) (tq_gV kw_36_10 kw_36_11 kw_36_12 kw_2_7 kw_36_13) rfl rfl dkdV_yX0_saveRow_2 (Nat.le_of_ble_eq_true rfl) (Nat.le_of_ble_eq_true rfl) (ci := 0) (q0 := 101) rfl rfl rfl hl.1 rfl (Nat.le_of_ble_eq_true rfl) dX0_save_44 ⟨Nat.le_of_ble_eq_true rfl, Nat.le_of_ble_eq_true rfl⟩ (fun _ _ H locs z17 hP hD hS => ?_)
  have z17 := z17.symm
  subst z17
  have hP : va_P G vwCl (wX cA xa ka ra na ia ua va ca za pa qa X K R P L P2 L2 Tn Ti Tu Tv C_15 Z q0 q1 q2 q3 q4 q5) H := hP
  have hD : va_D A (wX cA xa ka ra na ia ua va ca za pa qa X K R P L P2 L2 Tn Ti Tu Tv C_15 Z q0 q1 q2 q3 q4 q5) := hD
  refine lv_istore_n (lv' := [(2, .int r14), (0, .ref (ca 0)), (1, .ref (va 0))]) hx hb dX0_save_47 rfl hl (by decide) rfl (fun ls hl => ?_)
  refine lv_aload_n hx hb dX0_save_48 rfl (lv_at hl 1 rfl) ?_
  refine lv_aload_n hx hb dX0_save_49 rfl (lv_at hl 2 rfl) ?_
  refine va_get (D := G) (ci := 6) (v := .ref (va 10)) (C := RX6) (T := TX6) (N := 20) hx hb hT ku_6 hown hK hP 89 rfl rfl 9 (by decide) (hT _ kw_36_9) (fun _ h9 => h9) rfl dX0_save_50 ?_
  refine lv_iload_n hx hb dX0_save_53 rfl (lv_at hl 0 rfl) ?_
  replace h := tx_bd h
  obtain ⟨⟨r18, C_19⟩, hc20, h⟩ := h
  replace h := tx_let (y := r18) rfl h
  replace h := tx_let (y := C_19) rfl h
  refine tz_i (As := [.ref (va 10), .int r14]) (rest := []) ⟨hx, hb, hml, hown, hT⟩ hP hD hS hA hK hN (c_X0_saveRow_x_va10 l G cA H.size xa ka ra na ia ua va ca za pa qa X K R P L P2 L2 Tn Ti Tu Tv C_15 Z q0 q1 q2 q3 q4 q5 r14  r18 C_19 hc20) (tq_gV kw_36_10 kw_36_11 kw_36_12 kw_2_7 kw_36_13) rfl rfl dkdV_yX0_saveRow_2 (Nat.le_of_ble_eq_true rfl) (Nat.le_of_ble_eq_true rfl) (ci := 0) (q0 := 101) rfl rfl rfl hl.1 rfl (Nat.le_of_ble_eq_true rfl) dX0_save_54 ⟨Nat.le_of_ble_eq_true rfl, Nat.le_of_ble_eq_true rfl⟩ (fun _ _ H locs z21 hP hD hS => ?_)
  have z21 := z21.symm
  subst z21
  have hP : va_P G vwCl (wX cA xa ka ra na ia ua va ca za pa qa X K R P L P2 L2 Tn Ti Tu Tv C_19 Z q0 q1 q2 q3 q4 q5) H := hP
  have hD : va_D A (wX cA xa ka ra na ia ua va ca za pa qa X K R P L P2 L2 Tn Ti Tu Tv C_19 Z q0 q1 q2 q3 q4 q5) := hD
  refine lv_pop hx hb dX0_save_57 rfl ?_
  refine lv_aload_n hx hb dX0_save_58 rfl (lv_at hl 1 rfl) ?_
  refine lv_aload_n hx hb dX0_save_59 rfl (lv_at hl 1 rfl) ?_
  refine va_get (D := G) (ci := 0) (v := .int (C_19 0 1)) (C := RX0) (T := TX0) (N := 3) hx hb hT ku_0 hown hK hP 101 rfl rfl 1 (by decide) (hT _ kw_8_17) (fun _ h9 => h9) rfl dX0_save_60 ?_
  refine lv_iconst (v := 1) hx hb dX0_save_63 (by decide) ?_
  refine lv_iadd hx hb dX0_save_64 ?_
  refine lv_bipush (v := 20) hx hb dX0_save_65 (by decide) ?_
  refine lv_irem hx hb dX0_save_67 (by decide) ?_
  refine va_put (D := G) (ci := 0) (v := .int (((C_19 0 1) + 1) - ((C_19 0 1) + 1) / 20 * 20)) (ty := .int) (C := RX0) (T := TX0) (N := 3) hx hb hT ku_0 tyX0 tyX0_ok nmX0 hown hK hP hD hS 101 rfl rfl 1 (by decide) (hT _ kw_8_17) (fun _ h9 => h9) rfl (by decide +kernel) rfl rfl (Nat.le_of_ble_eq_true rfl) dX0_save_68 (fun H locs hP hD hS => ?_)
  replace h := tx_lt h
  obtain ⟨C_22, eC_22, h⟩ := h
  rw [sX_ca_f1, eC_22] at hP hD
  refine lv_aload_n hx hb dX0_save_71 rfl (lv_at hl 1 rfl) ?_
  refine lv_aload_n hx hb dX0_save_72 rfl (lv_at hl 1 rfl) ?_
  refine va_get (D := G) (ci := 0) (v := .int (C_22 0 0)) (C := RX0) (T := TX0) (N := 3) hx hb hT ku_0 hown hK hP 101 rfl rfl 0 (by decide) (hT _ kw_8_16) (fun _ h9 => h9) rfl dX0_save_73 ?_
  refine lv_bipush (v := 20) hx hb dX0_save_76 (by decide) ?_
  refine lv_icmp_ne (tgt := 86) hx hb dX0_save_78 (by decide) (fun c23 => ?_) (fun c23 => ?_)
  · replace h := tx_neg c23 h
    refine lv_aload_n hx hb dX0_save_86 rfl (lv_at hl 1 rfl) ?_
    refine va_get (D := G) (ci := 0) (v := .int (C_22 0 0)) (C := RX0) (T := TX0) (N := 3) hx hb hT ku_0 hown hK hP 101 rfl rfl 0 (by decide) (hT _ kw_8_16) (fun _ h9 => h9) rfl dX0_save_87 ?_
    refine lv_iconst (v := 1) hx hb dX0_save_90 (by decide) ?_
    refine lv_iadd hx hb dX0_save_91 ?_
    exact w_X0_save_x_va0_J92 F ((C_22 0 0) + 1) C_22 H locs ls h hP hD hS (lv_sub hl [] rfl)
  · replace h := tx_pos c23 h
    refine lv_bipush (v := 20) hx hb dX0_save_81 (by decide) ?_
    refine lv_goto (tgt := 92) hx hb dX0_save_83 (by decide) ?_
    exact w_X0_save_x_va0_J92 F 20 C_22 H locs ls h hP hD hS (lv_sub hl [] rfl)
abbrev G_X7_turn (p : Program) (l : Launch) (e : Env) (s : State) (m : MethodId) (below : List Frame) (meth : Method) (c : Code) (G : va_G) (cA : Nat → ClassId) (A : Nat → Prop) (xa : Nat → Nat) (ka : Nat → Nat) (ra : Nat → Nat) (na : Nat → Nat) (ia : Nat → Nat) (ua : Nat → Nat) (va : Nat → Nat) (ca : Nat → Nat) (za : Nat → Nat) (pa : Nat → Nat) (qa : Nat → Nat) (X : Tr) (K : Tr) (R : Tr) (P : Tr) (L : Lo) (P2 : Tr) (L2 : Lo) (Ti : Tr) (Tu : Tr) (Z : Tr) (q0 : Nat) (q1 : Nat) (q2 : Nat) (q4 : Nat) (q5 : Nat) (x1 : Int32) (r0 : Int32) (Tn' : Tr) (Tv' : Tr) (C' : Tr) (q3' : Nat) (H : Heap) (locs : List Loc) (g : JFrame) : Prop := W p l e (headSpec (.code yX7_turn cX7_turn 3 (some .int) :: T0) ({ frames := 3, cells := 0, slots := 0, locals := 84 } : Room)).room s m ([.ref (xa 0), .int x1] : List Value).toArray below meth c H locs 0 0 (MQ below (tqQi G cA (fun (r : Int32) (_ : Unit) => r = r0) (fun (_ : Unit) => wX cA xa ka ra na ia ua va ca za pa qa X K R P L P2 L2 (Tn') Ti Tu (Tv') (C') Z q0 q1 q2 (q3') q4 q5) A) ([.ref (xa 0), .int x1] : List Value).toArray s 0 0 A) g
set_option maxHeartbeats 4000000 in
set_option maxRecDepth 100000 in
theorem c_X7_turn (l : Launch) (G : va_G) (cA : Nat → ClassId) (sz : Nat) (xa : Nat → Nat) (ka : Nat → Nat) (ra : Nat → Nat) (na : Nat → Nat) (ia : Nat → Nat) (ua : Nat → Nat) (va : Nat → Nat) (ca : Nat → Nat) (za : Nat → Nat) (pa : Nat → Nat) (qa : Nat → Nat) (X : Tr) (K : Tr) (R : Tr) (P : Tr) (L : Lo) (P2 : Tr) (L2 : Lo) (Tn : Tr) (Ti : Tr) (Tu : Tr) (Tv : Tr) (C : Tr) (Z : Tr) (q0 : Nat) (q1 : Nat) (q2 : Nat) (q3 : Nat) (q4 : Nat) (q5 : Nat) (x1 : Int32)  (r0 : Int32) (Tn' : Tr) (Tv' : Tr) (C' : Tr) (q3' : Nat) (h : f_X7_turn pa qa P Tn Tv C q0 q3 q4 x1 = some (r0, Tn', Tv', C', q3')) : Met l yX7_turn (.code yX7_turn cX7_turn 3 (some .int) :: T0) ({ frames := 3, cells := 0, slots := 0, locals := 84 } : Room) (tqP G cA [.ref (xa 0), .int x1] (wX cA xa ka ra na ia ua va ca za pa qa X K R P L P2 L2 Tn Ti Tu Tv C Z q0 q1 q2 q3 q4 q5) sz) (tqQi G cA (fun (r : Int32) (_ : Unit) => r = r0) (fun (_ : Unit) => wX cA xa ka ra na ia ua va ca za pa qa X K R P L P2 L2 (Tn') Ti Tu (Tv') (C') Z q0 q1 q2 (q3') q4 q5) (va_A (wX cA xa ka ra na ia ua va ca za pa qa X K R P L P2 L2 Tn Ti Tu Tv C Z q0 q1 q2 q3 q4 q5) sz)) 0 0 (va_A (wX cA xa ka ra na ia ua va ca za pa qa X K R P L P2 L2 Tn Ti Tu Tv C Z q0 q1 q2 q3 q4 q5) sz) := by
  refine Met.ofW (cc := cX7_turn) (maxL := 3) (ret := (some .int)) (by decide) rfl ?_
  intro p e s m args below meth c s₁ B hml hv
  obtain ⟨rfl, hsz, hP, hK, hD0, hN⟩ := hv
  have hx := B.exec
  have hb := B.bytes
  have hr := B.returns
  have hts := atoms_spec (ws := .code yX7_turn cX7_turn 3 (some .int) :: T0) B.pre
  have hT : ∀ w ∈ T0, w.before _ s = true := fun w h => hts w (List.mem_cons_of_mem _ h)
  have hown : s.vm.findClass RX7 = some m.cls := findClass_of_methodNamed B.named
  have hlocks := B.notSynchronized
  subst hsz
  have hD := hD0.self (sz := s.heap.size)
  generalize hAe : va_A (wX cA xa ka ra na ia ua va ca za pa qa X K R P L P2 L2 Tn Ti Tu Tv C Z q0 q1 q2 q3 q4 q5) s.heap.size = A at hD ⊢
  have hA : ∀ q : Nat, s.heap.size ≤ q → A q := fun q h => by rw [← hAe]; exact Or.inr h
  have hS : va_S A s.heap s.heap [] := va_S.rf
  have hl := lv_entry ([.ref (xa 0), .int x1]) (n := 3) (Nat.le_of_ble_eq_true rfl)
  rw [lg_entry_eq]
  generalize (lg_sl ([.ref (xa 0), .int x1]) ++ List.replicate (3 - (lg_sl ([.ref (xa 0), .int x1])).length) Slot.unset).toArray = ls at hl ⊢
  have hl : lv_has ls 3 [(0, .ref (xa 0)), (1, .int x1)] := hl
  have F : tF p s m ([.ref (xa 0), .int x1] : List Value).toArray meth c G cA A RX7 cX7_turn 3 (some .int) := ⟨hx, hb, hr, hml, hT, hown, hlocks, hK, hN, hA⟩
  obtain ⟨H, hH⟩ : ∃ z, z = s.heap := ⟨_, rfl⟩
  rw [← hH] at hP
  have hS : va_S A s.heap H [] := by rw [hH]; exact hS
  suffices hgo : G_X7_turn p l e s m below meth c G cA A xa ka ra na ia ua va ca za pa qa X K R P L P2 L2 Ti Tu Z q0 q1 q2 q4 q5 x1 r0 Tn' Tv' C' q3' H [] (F0 m 0 ls []) by rw [hH] at hgo; exact hgo
  generalize ([] : List Loc) = locs at hS ⊢
  unfold f_X7_turn at h
  refine lv_aload_n hx hb dX7_turn_0 rfl (lv_at hl 0 rfl) ?_
  refine lv_iload_n hx hb dX7_turn_1 rfl (lv_at hl 1 rfl) ?_
  replace h := tx_bd h
  obtain ⟨r1, hc2, h⟩ := h
  refine tz_i (As := [.int x1]) (rest := []) ⟨hx, hb, hml, hown, hT⟩ hP hD hS hA hK hN (c_X7_isPlace l G cA H.size xa ka ra na ia ua va ca za pa qa X K R P L P2 L2 Tn Ti Tu Tv C Z q0 q1 q2 q3 q4 q5 x1  r1 hc2) (tq_gV kw_31_22 kw_31_23 kw_32_0 kw_1_2 kw_32_1) rfl rfl dkdV_yX7_isPlace_1 (Nat.le_of_ble_eq_true rfl) (Nat.le_of_ble_eq_true rfl) (ci := 7) (q0 := 0) rfl rfl rfl hl.1 rfl (Nat.le_of_ble_eq_true rfl) dX7_turn_2 ⟨Nat.le_of_ble_eq_true rfl, Nat.le_of_ble_eq_true rfl⟩ (fun _ _ H locs z3 hP hD hS => ?_)
  have z3 := z3.symm
  subst z3
  have hP : va_P G vwCl (wX cA xa ka ra na ia ua va ca za pa qa X K R P L P2 L2 Tn Ti Tu Tv C Z q0 q1 q2 q3 q4 q5) H := hP
  have hD : va_D A (wX cA xa ka ra na ia ua va ca za pa qa X K R P L P2 L2 Tn Ti Tu Tv C Z q0 q1 q2 q3 q4 q5) := hD
  refine lv_if_ne (tgt := 10) hx hb dX7_turn_5 (by decide) (fun c4 => ?_) (fun c4 => ?_)
  · replace h := tx_neg c4 h
    refine lv_aload_n hx hb dX7_turn_10 rfl (lv_at hl 0 rfl) ?_
    refine va_get (D := G) (ci := 7) (v := .ref (va 0)) (C := RX7) (T := TX7) (N := 12) hx hb hT ku_7 hown hK hP 0 rfl rfl 6 (by decide) (hT _ kw_2_4) (fun _ h9 => h9) rfl dX7_turn_11 ?_
    refine lv_aload_n hx hb dX7_turn_14 rfl (lv_at hl 0 rfl) ?_
    refine va_get (D := G) (ci := 7) (v := .ref (na 0)) (C := RX7) (T := TX7) (N := 12) hx hb hT ku_7 hown hK hP 0 rfl rfl 2 (by decide) (hT _ kw_2_0) (fun _ h9 => h9) rfl dX7_turn_15 ?_
    replace h := tx_bd h
    obtain ⟨⟨Tv_5, q3_6⟩, hc7, h⟩ := h
    replace h := tx_let (y := Tv_5) rfl h
    replace h := tx_let (y := q3_6) rfl h
    refine tw_cv pX_va_na hP hD hS hA (va_runV (As := [.ref (na 0)]) (rest := []) ⟨hx, hb, hml, hown, hT⟩ (c_X6_copy l G cA H.size va na Tv Tn q3 q0  Tv_5 q3_6 hc7) (cwV 1 hT (tq_gV kw_38_6 kw_38_7 kw_38_8 kw_1_23 kw_38_9) rfl rfl rfl dkdV_yX6_copy_1 ⟨Nat.le_of_ble_eq_true rfl, Nat.le_of_ble_eq_true rfl⟩) ⟨(tw_pre pX_va_na hP hD hK hN).1, va_recv hK hP (ci := 6) (q0 := 89) rfl rfl, (tw_pre pX_va_na hP hD hK hN).2⟩ rfl rfl hl.1 rfl (lv_room (Nat.le_of_ble_eq_true rfl)) dX7_turn_18 ⟨Nat.le_of_ble_eq_true rfl, Nat.le_of_ble_eq_true rfl⟩) (fun _ H locs z8 hP hD hS => ?_)
    replace hP := tw_P pX_va_na.symm hP
    replace hD := tw_D pX_va_na.symm hD
    have hP : va_P G vwCl (wX cA xa ka ra na ia ua va ca za pa qa X K R P L P2 L2 Tn Ti Tu Tv_5 C Z q0 q1 q2 q3_6 q4 q5) H := hP
    have hD : va_D A (wX cA xa ka ra na ia ua va ca za pa qa X K R P L P2 L2 Tn Ti Tu Tv_5 C Z q0 q1 q2 q3_6 q4 q5) := hD
    refine lv_aload_n hx hb dX7_turn_21 rfl (lv_at hl 0 rfl) ?_
    refine va_get (D := G) (ci := 7) (v := .ref (na 0)) (C := RX7) (T := TX7) (N := 12) hx hb hT ku_7 hown hK hP 0 rfl rfl 2 (by decide) (hT _ kw_2_0) (fun _ h9 => h9) rfl dX7_turn_22 ?_
    refine lv_iload_n hx hb dX7_turn_25 rfl (lv_at hl 1 rfl) ?_
    replace h := tx_ck h
    obtain ⟨g9, h⟩ := h
    have eg9 := of_decide_eq_true g9
    subst eg9
    replace h := tx_bd h
    obtain ⟨⟨r10, Tn_11⟩, hc12, h⟩ := h
    replace h := tx_let (y := r10) rfl h
    replace h := tx_let (y := Tn_11) rfl h
    refine tw_ci pX_na hP hD hS hA (va_runV (As := [.int x1]) (rest := []) ⟨hx, hb, hml, hown, hT⟩ (c_X6_turnOver l G cA H.size na pa Tn P L x1  r10 Tn_11 hc12) (cwV 1 hT (tq_gV kw_38_11 kw_38_12 kw_38_13 kw_1_23 kw_38_14) rfl rfl rfl dkdV_yX6_turnOver_1 ⟨Nat.le_of_ble_eq_true rfl, Nat.le_of_ble_eq_true rfl⟩) ⟨(tw_pre pX_na hP hD hK hN).1, va_recv hK hP (ci := 6) (q0 := 53) rfl rfl, (tw_pre pX_na hP hD hK hN).2⟩ rfl rfl hl.1 rfl (lv_room (Nat.le_of_ble_eq_true rfl)) dX7_turn_26 ⟨Nat.le_of_ble_eq_true rfl, Nat.le_of_ble_eq_true rfl⟩) (fun _ _ H locs z13 hP hD hS => ?_)
    have z13 := z13.symm
    subst z13
    replace hP := tw_P pX_na.symm hP
    replace hD := tw_D pX_na.symm hD
    have hP : va_P G vwCl (wX cA xa ka ra na ia ua va ca za pa qa X K R P L P2 L2 Tn_11 Ti Tu Tv_5 C Z (pa 0) q1 q2 q3_6 q4 q5) H := hP
    have hD : va_D A (wX cA xa ka ra na ia ua va ca za pa qa X K R P L P2 L2 Tn_11 Ti Tu Tv_5 C Z (pa 0) q1 q2 q3_6 q4 q5) := hD
    refine lv_istore_n (lv' := [(2, .int r10), (0, .ref (xa 0)), (1, .int x1)]) hx hb dX7_turn_29 rfl hl (by decide) rfl (fun ls hl => ?_)
    refine lv_iload_n hx hb dX7_turn_30 rfl (lv_at hl 0 rfl) ?_
    refine lv_if_le (tgt := 45) hx hb dX7_turn_31 (by decide) (fun c14 => ?_) (fun c14 => ?_)
    · replace h := tx_pos c14 h
      refine lv_iload_n hx hb dX7_turn_45 rfl (lv_at hl 0 rfl) ?_
      obtain ⟨rfl, rfl, rfl, rfl, rfl⟩ := tx_5 h
      exact W.iret hx hb hr (fun t ht hW => ⟨⟨_, (), rfl, rfl, by rw [ht]; exact hP, hD⟩, hS.F ht⟩) hS.2.2 dX7_turn_46
    · replace h := tx_neg c14 h
      refine lv_aload_n hx hb dX7_turn_34 rfl (lv_at hl 1 rfl) ?_
      refine va_get (D := G) (ci := 7) (v := .ref (ca 0)) (C := RX7) (T := TX7) (N := 12) hx hb hT ku_7 hown hK hP 0 rfl rfl 7 (by decide) (hT _ kw_2_8) (fun _ h9 => h9) rfl dX7_turn_35 ?_
      refine lv_aload_n hx hb dX7_turn_38 rfl (lv_at hl 1 rfl) ?_
      refine va_get (D := G) (ci := 7) (v := .ref (va 0)) (C := RX7) (T := TX7) (N := 12) hx hb hT ku_7 hown hK hP 0 rfl rfl 6 (by decide) (hT _ kw_2_4) (fun _ h9 => h9) rfl dX7_turn_39 ?_
      replace h := tx_bd h
      obtain ⟨C_15, hc16, h⟩ := h
      refine tz_v (As := [.ref (va 0)]) (rest := []) ⟨hx, hb, hml, hown, hT⟩ hP hD hS hA hK hN (c_X0_save_x_va0 l G cA H.size xa ka ra na ia ua va ca za pa qa X K R P L P2 L2 Tn_11 Ti Tu Tv_5 C Z (pa 0) q1 q2 q3_6 q4 q5  C_15 hc16) (tq_gV kw_36_1 kw_36_2 kw_36_3 kw_2_7 kw_36_4) rfl rfl dkdV_yX0_save_1 (Nat.le_of_ble_eq_true rfl) (Nat.le_of_ble_eq_true rfl) (ci := 0) (q0 := 101) rfl rfl rfl hl.1 rfl (Nat.le_of_ble_eq_true rfl) dX7_turn_42 ⟨Nat.le_of_ble_eq_true rfl, Nat.le_of_ble_eq_true rfl⟩ (fun _ H locs z17 hP hD hS => ?_)
      have hP : va_P G vwCl (wX cA xa ka ra na ia ua va ca za pa qa X K R P L P2 L2 Tn_11 Ti Tu Tv_5 C_15 Z (pa 0) q1 q2 q3_6 q4 q5) H := hP
      have hD : va_D A (wX cA xa ka ra na ia ua va ca za pa qa X K R P L P2 L2 Tn_11 Ti Tu Tv_5 C_15 Z (pa 0) q1 q2 q3_6 q4 q5) := hD
      refine lv_iload_n hx hb dX7_turn_45 rfl (lv_at hl 0 rfl) ?_
      obtain ⟨rfl, rfl, rfl, rfl, rfl⟩ := tx_5 h
      exact W.iret hx hb hr (fun t ht hW => ⟨⟨_, (), rfl, rfl, by rw [ht]; exact hP, hD⟩, hS.F ht⟩) hS.2.2 dX7_turn_46
  · replace h := tx_pos c4 h
    refine lv_iconst (v := (-1)) hx hb dX7_turn_8 (by decide) ?_
    obtain ⟨rfl, rfl, rfl, rfl, rfl⟩ := tx_5 h
    exact W.iret hx hb hr (fun t ht hW => ⟨⟨_, (), rfl, rfl, by rw [ht]; exact hP, hD⟩, hS.F ht⟩) hS.2.2 dX7_turn_9
abbrev G_X0_bringRow_x_na16 (p : Program) (l : Launch) (e : Env) (s : State) (m : MethodId) (below : List Frame) (meth : Method) (c : Code) (G : va_G) (cA : Nat → ClassId) (A : Nat → Prop) (xa : Nat → Nat) (ka : Nat → Nat) (ra : Nat → Nat) (na : Nat → Nat) (ia : Nat → Nat) (ua : Nat → Nat) (va : Nat → Nat) (ca : Nat → Nat) (za : Nat → Nat) (pa : Nat → Nat) (qa : Nat → Nat) (X : Tr) (K : Tr) (R : Tr) (P : Tr) (L : Lo) (P2 : Tr) (L2 : Lo) (Ti : Tr) (Tu : Tr) (Tv : Tr) (C : Tr) (Z : Tr) (q0 : Nat) (q1 : Nat) (q2 : Nat) (q3 : Nat) (q4 : Nat) (q5 : Nat) (x2 : Int32) (r0 : Int32) (Tn' : Tr) (H : Heap) (locs : List Loc) (g : JFrame) : Prop := W p l e (headSpec (.code yX0_bringRow cX0_bringRow 3 (some .int) :: T0) ({ frames := 1, cells := 0, slots := 0, locals := 40 } : Room)).room s m ([.ref (ca 0), .ref (na 16), .int x2] : List Value).toArray below meth c H locs 0 0 (MQ below (tqQi G cA (fun (r : Int32) (_ : Unit) => r = r0) (fun (_ : Unit) => wX cA xa ka ra na ia ua va ca za pa qa X K R P L P2 L2 (Tn') Ti Tu Tv C Z q0 q1 q2 q3 q4 q5) A) ([.ref (ca 0), .ref (na 16), .int x2] : List Value).toArray s 0 0 A) g
set_option maxHeartbeats 4000000 in
set_option maxRecDepth 100000 in
theorem c_X0_bringRow_x_na16 (l : Launch) (G : va_G) (cA : Nat → ClassId) (sz : Nat) (xa : Nat → Nat) (ka : Nat → Nat) (ra : Nat → Nat) (na : Nat → Nat) (ia : Nat → Nat) (ua : Nat → Nat) (va : Nat → Nat) (ca : Nat → Nat) (za : Nat → Nat) (pa : Nat → Nat) (qa : Nat → Nat) (X : Tr) (K : Tr) (R : Tr) (P : Tr) (L : Lo) (P2 : Tr) (L2 : Lo) (Tn : Tr) (Ti : Tr) (Tu : Tr) (Tv : Tr) (C : Tr) (Z : Tr) (q0 : Nat) (q1 : Nat) (q2 : Nat) (q3 : Nat) (q4 : Nat) (q5 : Nat) (x2 : Int32)  (r0 : Int32) (Tn' : Tr) (h : f_X0_bringRow_x_na16 pa qa Tn C x2 = some (r0, Tn')) : Met l yX0_bringRow (.code yX0_bringRow cX0_bringRow 3 (some .int) :: T0) ({ frames := 1, cells := 0, slots := 0, locals := 40 } : Room) (tqP G cA [.ref (ca 0), .ref (na 16), .int x2] (wX cA xa ka ra na ia ua va ca za pa qa X K R P L P2 L2 Tn Ti Tu Tv C Z q0 q1 q2 q3 q4 q5) sz) (tqQi G cA (fun (r : Int32) (_ : Unit) => r = r0) (fun (_ : Unit) => wX cA xa ka ra na ia ua va ca za pa qa X K R P L P2 L2 (Tn') Ti Tu Tv C Z q0 q1 q2 q3 q4 q5) (va_A (wX cA xa ka ra na ia ua va ca za pa qa X K R P L P2 L2 Tn Ti Tu Tv C Z q0 q1 q2 q3 q4 q5) sz)) 0 0 (va_A (wX cA xa ka ra na ia ua va ca za pa qa X K R P L P2 L2 Tn Ti Tu Tv C Z q0 q1 q2 q3 q4 q5) sz) := by
  refine Met.ofW (cc := cX0_bringRow) (maxL := 3) (ret := (some .int)) (by decide) rfl ?_
  intro p e s m args below meth c s₁ B hml hv
  obtain ⟨rfl, hsz, hP, hK, hD0, hN⟩ := hv
  have hx := B.exec
  have hb := B.bytes
  have hr := B.returns
  have hts := atoms_spec (ws := .code yX0_bringRow cX0_bringRow 3 (some .int) :: T0) B.pre
  have hT : ∀ w ∈ T0, w.before _ s = true := fun w h => hts w (List.mem_cons_of_mem _ h)
  have hown : s.vm.findClass RX0 = some m.cls := findClass_of_methodNamed B.named
  have hlocks := B.notSynchronized
  subst hsz
  have hD := hD0.self (sz := s.heap.size)
  generalize hAe : va_A (wX cA xa ka ra na ia ua va ca za pa qa X K R P L P2 L2 Tn Ti Tu Tv C Z q0 q1 q2 q3 q4 q5) s.heap.size = A at hD ⊢
  have hA : ∀ q : Nat, s.heap.size ≤ q → A q := fun q h => by rw [← hAe]; exact Or.inr h
  have hS : va_S A s.heap s.heap [] := va_S.rf
  have hl := lv_entry ([.ref (ca 0), .ref (na 16), .int x2]) (n := 3) (Nat.le_of_ble_eq_true rfl)
  rw [lg_entry_eq]
  generalize (lg_sl ([.ref (ca 0), .ref (na 16), .int x2]) ++ List.replicate (3 - (lg_sl ([.ref (ca 0), .ref (na 16), .int x2])).length) Slot.unset).toArray = ls at hl ⊢
  have hl : lv_has ls 3 [(0, .ref (ca 0)), (1, .ref (na 16)), (2, .int x2)] := hl
  have F : tF p s m ([.ref (ca 0), .ref (na 16), .int x2] : List Value).toArray meth c G cA A RX0 cX0_bringRow 3 (some .int) := ⟨hx, hb, hr, hml, hT, hown, hlocks, hK, hN, hA⟩
  obtain ⟨H, hH⟩ : ∃ z, z = s.heap := ⟨_, rfl⟩
  rw [← hH] at hP
  have hS : va_S A s.heap H [] := by rw [hH]; exact hS
  suffices hgo : G_X0_bringRow_x_na16 p l e s m below meth c G cA A xa ka ra na ia ua va ca za pa qa X K R P L P2 L2 Ti Tu Tv C Z q0 q1 q2 q3 q4 q5 x2 r0 Tn' H [] (F0 m 0 ls []) by rw [hH] at hgo; exact hgo
  generalize ([] : List Loc) = locs at hS ⊢
  unfold f_X0_bringRow_x_na16 at h
  refine lv_aload_n hx hb dX0_bringRow_0 rfl (lv_at hl 0 rfl) ?_
  refine va_get (D := G) (ci := 0) (v := .ref (ca 3)) (C := RX0) (T := TX0) (N := 3) hx hb hT ku_0 hown hK hP 101 rfl rfl 2 (by decide) (hT _ kw_8_18) (fun _ h9 => h9) rfl dX0_bringRow_1 ?_
  refine lv_iload_n hx hb dX0_bringRow_4 rfl (lv_at hl 2 rfl) ?_
  refine lv_aload_n hx hb dX0_bringRow_5 rfl (lv_at hl 1 rfl) ?_
  refine lv_iconst (v := 0) hx hb dX0_bringRow_6 (by decide) ?_
  refine lv_aload_n hx hb dX0_bringRow_7 rfl (lv_at hl 1 rfl) ?_
  refine va_alen (v := 50) hx hb hK hP 61 0 rfl rfl (show Int32.ofNat 50 = 50 from by decide) dX0_bringRow_8 ?_
  replace h := tx_ck h
  obtain ⟨g1, h⟩ := h
  refine va_copyi (ty := .int) (sp := x2) (dp := 0) (n := 50) hx hb (hml.trans hl.1.symm) hown (hT _ kw_36_14) (hT _ kw_36_15) (hT _ kw_36_16) (hT _ kw_36_17) hK hP hD hS 102 61 0 0 rfl rfl rfl rfl rfl (tx_cp g1).1 (tx_cp g1).2.1 (tx_cp g1).2.2.1 (tx_cp g1).2.2.2.1 (tx_cp g1).2.2.2.2 (fun _ _ => rfl) (Nat.le_of_ble_eq_true rfl) (by decide) dX0_bringRow_9 (fun H locs hP hD hS => ?_)
  try rw [show (0 : Int32).toNatClampNeg = 0 from rfl] at hP hD
  try rw [show (50 : Int32).toNatClampNeg = 50 from rfl] at hP hD
  replace h := tx_lt h
  obtain ⟨Tn_2, eTn_2, h⟩ := h
  rw [sX_na_c15, eTn_2] at hP hD
  refine lv_iload_n hx hb dX0_bringRow_12 rfl (lv_at hl 2 rfl) ?_
  refine lv_aload_n hx hb dX0_bringRow_13 rfl (lv_at hl 1 rfl) ?_
  refine va_alen (v := 50) hx hb hK hP 61 0 rfl rfl (show Int32.ofNat 50 = 50 from by decide) dX0_bringRow_14 ?_
  refine lv_iadd hx hb dX0_bringRow_15 ?_
  obtain ⟨rfl, rfl⟩ := tx_2 h
  exact W.iret hx hb hr (fun t ht hW => ⟨⟨_, (), rfl, rfl, by rw [ht]; exact hP, hD⟩, hS.F ht⟩) hS.2.2 dX0_bringRow_16
abbrev G_X0_bringRow_x_na17 (p : Program) (l : Launch) (e : Env) (s : State) (m : MethodId) (below : List Frame) (meth : Method) (c : Code) (G : va_G) (cA : Nat → ClassId) (A : Nat → Prop) (xa : Nat → Nat) (ka : Nat → Nat) (ra : Nat → Nat) (na : Nat → Nat) (ia : Nat → Nat) (ua : Nat → Nat) (va : Nat → Nat) (ca : Nat → Nat) (za : Nat → Nat) (pa : Nat → Nat) (qa : Nat → Nat) (X : Tr) (K : Tr) (R : Tr) (P : Tr) (L : Lo) (P2 : Tr) (L2 : Lo) (Ti : Tr) (Tu : Tr) (Tv : Tr) (C : Tr) (Z : Tr) (q0 : Nat) (q1 : Nat) (q2 : Nat) (q3 : Nat) (q4 : Nat) (q5 : Nat) (x2 : Int32) (r0 : Int32) (Tn' : Tr) (H : Heap) (locs : List Loc) (g : JFrame) : Prop := W p l e (headSpec (.code yX0_bringRow cX0_bringRow 3 (some .int) :: T0) ({ frames := 1, cells := 0, slots := 0, locals := 40 } : Room)).room s m ([.ref (ca 0), .ref (na 17), .int x2] : List Value).toArray below meth c H locs 0 0 (MQ below (tqQi G cA (fun (r : Int32) (_ : Unit) => r = r0) (fun (_ : Unit) => wX cA xa ka ra na ia ua va ca za pa qa X K R P L P2 L2 (Tn') Ti Tu Tv C Z q0 q1 q2 q3 q4 q5) A) ([.ref (ca 0), .ref (na 17), .int x2] : List Value).toArray s 0 0 A) g
set_option maxHeartbeats 4000000 in
set_option maxRecDepth 100000 in
theorem c_X0_bringRow_x_na17 (l : Launch) (G : va_G) (cA : Nat → ClassId) (sz : Nat) (xa : Nat → Nat) (ka : Nat → Nat) (ra : Nat → Nat) (na : Nat → Nat) (ia : Nat → Nat) (ua : Nat → Nat) (va : Nat → Nat) (ca : Nat → Nat) (za : Nat → Nat) (pa : Nat → Nat) (qa : Nat → Nat) (X : Tr) (K : Tr) (R : Tr) (P : Tr) (L : Lo) (P2 : Tr) (L2 : Lo) (Tn : Tr) (Ti : Tr) (Tu : Tr) (Tv : Tr) (C : Tr) (Z : Tr) (q0 : Nat) (q1 : Nat) (q2 : Nat) (q3 : Nat) (q4 : Nat) (q5 : Nat) (x2 : Int32)  (r0 : Int32) (Tn' : Tr) (h : f_X0_bringRow_x_na17 pa qa Tn C x2 = some (r0, Tn')) : Met l yX0_bringRow (.code yX0_bringRow cX0_bringRow 3 (some .int) :: T0) ({ frames := 1, cells := 0, slots := 0, locals := 40 } : Room) (tqP G cA [.ref (ca 0), .ref (na 17), .int x2] (wX cA xa ka ra na ia ua va ca za pa qa X K R P L P2 L2 Tn Ti Tu Tv C Z q0 q1 q2 q3 q4 q5) sz) (tqQi G cA (fun (r : Int32) (_ : Unit) => r = r0) (fun (_ : Unit) => wX cA xa ka ra na ia ua va ca za pa qa X K R P L P2 L2 (Tn') Ti Tu Tv C Z q0 q1 q2 q3 q4 q5) (va_A (wX cA xa ka ra na ia ua va ca za pa qa X K R P L P2 L2 Tn Ti Tu Tv C Z q0 q1 q2 q3 q4 q5) sz)) 0 0 (va_A (wX cA xa ka ra na ia ua va ca za pa qa X K R P L P2 L2 Tn Ti Tu Tv C Z q0 q1 q2 q3 q4 q5) sz) := by
  refine Met.ofW (cc := cX0_bringRow) (maxL := 3) (ret := (some .int)) (by decide) rfl ?_
  intro p e s m args below meth c s₁ B hml hv
  obtain ⟨rfl, hsz, hP, hK, hD0, hN⟩ := hv
  have hx := B.exec
  have hb := B.bytes
  have hr := B.returns
  have hts := atoms_spec (ws := .code yX0_bringRow cX0_bringRow 3 (some .int) :: T0) B.pre
  have hT : ∀ w ∈ T0, w.before _ s = true := fun w h => hts w (List.mem_cons_of_mem _ h)
  have hown : s.vm.findClass RX0 = some m.cls := findClass_of_methodNamed B.named
  have hlocks := B.notSynchronized
  subst hsz
  have hD := hD0.self (sz := s.heap.size)
  generalize hAe : va_A (wX cA xa ka ra na ia ua va ca za pa qa X K R P L P2 L2 Tn Ti Tu Tv C Z q0 q1 q2 q3 q4 q5) s.heap.size = A at hD ⊢
  have hA : ∀ q : Nat, s.heap.size ≤ q → A q := fun q h => by rw [← hAe]; exact Or.inr h
  have hS : va_S A s.heap s.heap [] := va_S.rf
  have hl := lv_entry ([.ref (ca 0), .ref (na 17), .int x2]) (n := 3) (Nat.le_of_ble_eq_true rfl)
  rw [lg_entry_eq]
  generalize (lg_sl ([.ref (ca 0), .ref (na 17), .int x2]) ++ List.replicate (3 - (lg_sl ([.ref (ca 0), .ref (na 17), .int x2])).length) Slot.unset).toArray = ls at hl ⊢
  have hl : lv_has ls 3 [(0, .ref (ca 0)), (1, .ref (na 17)), (2, .int x2)] := hl
  have F : tF p s m ([.ref (ca 0), .ref (na 17), .int x2] : List Value).toArray meth c G cA A RX0 cX0_bringRow 3 (some .int) := ⟨hx, hb, hr, hml, hT, hown, hlocks, hK, hN, hA⟩
  obtain ⟨H, hH⟩ : ∃ z, z = s.heap := ⟨_, rfl⟩
  rw [← hH] at hP
  have hS : va_S A s.heap H [] := by rw [hH]; exact hS
  suffices hgo : G_X0_bringRow_x_na17 p l e s m below meth c G cA A xa ka ra na ia ua va ca za pa qa X K R P L P2 L2 Ti Tu Tv C Z q0 q1 q2 q3 q4 q5 x2 r0 Tn' H [] (F0 m 0 ls []) by rw [hH] at hgo; exact hgo
  generalize ([] : List Loc) = locs at hS ⊢
  unfold f_X0_bringRow_x_na17 at h
  refine lv_aload_n hx hb dX0_bringRow_0 rfl (lv_at hl 0 rfl) ?_
  refine va_get (D := G) (ci := 0) (v := .ref (ca 3)) (C := RX0) (T := TX0) (N := 3) hx hb hT ku_0 hown hK hP 101 rfl rfl 2 (by decide) (hT _ kw_8_18) (fun _ h9 => h9) rfl dX0_bringRow_1 ?_
  refine lv_iload_n hx hb dX0_bringRow_4 rfl (lv_at hl 2 rfl) ?_
  refine lv_aload_n hx hb dX0_bringRow_5 rfl (lv_at hl 1 rfl) ?_
  refine lv_iconst (v := 0) hx hb dX0_bringRow_6 (by decide) ?_
  refine lv_aload_n hx hb dX0_bringRow_7 rfl (lv_at hl 1 rfl) ?_
  refine va_alen (v := 5) hx hb hK hP 62 0 rfl rfl (show Int32.ofNat 5 = 5 from by decide) dX0_bringRow_8 ?_
  replace h := tx_ck h
  obtain ⟨g1, h⟩ := h
  refine va_copyi (ty := .int) (sp := x2) (dp := 0) (n := 5) hx hb (hml.trans hl.1.symm) hown (hT _ kw_36_14) (hT _ kw_36_15) (hT _ kw_36_16) (hT _ kw_36_17) hK hP hD hS 102 62 0 0 rfl rfl rfl rfl rfl (tx_cp g1).1 (tx_cp g1).2.1 (tx_cp g1).2.2.1 (tx_cp g1).2.2.2.1 (tx_cp g1).2.2.2.2 (fun _ _ => rfl) (Nat.le_of_ble_eq_true rfl) (by decide) dX0_bringRow_9 (fun H locs hP hD hS => ?_)
  try rw [show (0 : Int32).toNatClampNeg = 0 from rfl] at hP hD
  try rw [show (5 : Int32).toNatClampNeg = 5 from rfl] at hP hD
  replace h := tx_lt h
  obtain ⟨Tn_2, eTn_2, h⟩ := h
  rw [sX_na_c16, eTn_2] at hP hD
  refine lv_iload_n hx hb dX0_bringRow_12 rfl (lv_at hl 2 rfl) ?_
  refine lv_aload_n hx hb dX0_bringRow_13 rfl (lv_at hl 1 rfl) ?_
  refine va_alen (v := 5) hx hb hK hP 62 0 rfl rfl (show Int32.ofNat 5 = 5 from by decide) dX0_bringRow_14 ?_
  refine lv_iadd hx hb dX0_bringRow_15 ?_
  obtain ⟨rfl, rfl⟩ := tx_2 h
  exact W.iret hx hb hr (fun t ht hW => ⟨⟨_, (), rfl, rfl, by rw [ht]; exact hP, hD⟩, hS.F ht⟩) hS.2.2 dX0_bringRow_16
abbrev G_X0_bringRow_x_na18 (p : Program) (l : Launch) (e : Env) (s : State) (m : MethodId) (below : List Frame) (meth : Method) (c : Code) (G : va_G) (cA : Nat → ClassId) (A : Nat → Prop) (xa : Nat → Nat) (ka : Nat → Nat) (ra : Nat → Nat) (na : Nat → Nat) (ia : Nat → Nat) (ua : Nat → Nat) (va : Nat → Nat) (ca : Nat → Nat) (za : Nat → Nat) (pa : Nat → Nat) (qa : Nat → Nat) (X : Tr) (K : Tr) (R : Tr) (P : Tr) (L : Lo) (P2 : Tr) (L2 : Lo) (Ti : Tr) (Tu : Tr) (Tv : Tr) (C : Tr) (Z : Tr) (q0 : Nat) (q1 : Nat) (q2 : Nat) (q3 : Nat) (q4 : Nat) (q5 : Nat) (x2 : Int32) (r0 : Int32) (Tn' : Tr) (H : Heap) (locs : List Loc) (g : JFrame) : Prop := W p l e (headSpec (.code yX0_bringRow cX0_bringRow 3 (some .int) :: T0) ({ frames := 1, cells := 0, slots := 0, locals := 40 } : Room)).room s m ([.ref (ca 0), .ref (na 18), .int x2] : List Value).toArray below meth c H locs 0 0 (MQ below (tqQi G cA (fun (r : Int32) (_ : Unit) => r = r0) (fun (_ : Unit) => wX cA xa ka ra na ia ua va ca za pa qa X K R P L P2 L2 (Tn') Ti Tu Tv C Z q0 q1 q2 q3 q4 q5) A) ([.ref (ca 0), .ref (na 18), .int x2] : List Value).toArray s 0 0 A) g
set_option maxHeartbeats 4000000 in
set_option maxRecDepth 100000 in
theorem c_X0_bringRow_x_na18 (l : Launch) (G : va_G) (cA : Nat → ClassId) (sz : Nat) (xa : Nat → Nat) (ka : Nat → Nat) (ra : Nat → Nat) (na : Nat → Nat) (ia : Nat → Nat) (ua : Nat → Nat) (va : Nat → Nat) (ca : Nat → Nat) (za : Nat → Nat) (pa : Nat → Nat) (qa : Nat → Nat) (X : Tr) (K : Tr) (R : Tr) (P : Tr) (L : Lo) (P2 : Tr) (L2 : Lo) (Tn : Tr) (Ti : Tr) (Tu : Tr) (Tv : Tr) (C : Tr) (Z : Tr) (q0 : Nat) (q1 : Nat) (q2 : Nat) (q3 : Nat) (q4 : Nat) (q5 : Nat) (x2 : Int32)  (r0 : Int32) (Tn' : Tr) (h : f_X0_bringRow_x_na18 pa qa Tn C x2 = some (r0, Tn')) : Met l yX0_bringRow (.code yX0_bringRow cX0_bringRow 3 (some .int) :: T0) ({ frames := 1, cells := 0, slots := 0, locals := 40 } : Room) (tqP G cA [.ref (ca 0), .ref (na 18), .int x2] (wX cA xa ka ra na ia ua va ca za pa qa X K R P L P2 L2 Tn Ti Tu Tv C Z q0 q1 q2 q3 q4 q5) sz) (tqQi G cA (fun (r : Int32) (_ : Unit) => r = r0) (fun (_ : Unit) => wX cA xa ka ra na ia ua va ca za pa qa X K R P L P2 L2 (Tn') Ti Tu Tv C Z q0 q1 q2 q3 q4 q5) (va_A (wX cA xa ka ra na ia ua va ca za pa qa X K R P L P2 L2 Tn Ti Tu Tv C Z q0 q1 q2 q3 q4 q5) sz)) 0 0 (va_A (wX cA xa ka ra na ia ua va ca za pa qa X K R P L P2 L2 Tn Ti Tu Tv C Z q0 q1 q2 q3 q4 q5) sz) := by
  refine Met.ofW (cc := cX0_bringRow) (maxL := 3) (ret := (some .int)) (by decide) rfl ?_
  intro p e s m args below meth c s₁ B hml hv
  obtain ⟨rfl, hsz, hP, hK, hD0, hN⟩ := hv
  have hx := B.exec
  have hb := B.bytes
  have hr := B.returns
  have hts := atoms_spec (ws := .code yX0_bringRow cX0_bringRow 3 (some .int) :: T0) B.pre
  have hT : ∀ w ∈ T0, w.before _ s = true := fun w h => hts w (List.mem_cons_of_mem _ h)
  have hown : s.vm.findClass RX0 = some m.cls := findClass_of_methodNamed B.named
  have hlocks := B.notSynchronized
  subst hsz
  have hD := hD0.self (sz := s.heap.size)
  generalize hAe : va_A (wX cA xa ka ra na ia ua va ca za pa qa X K R P L P2 L2 Tn Ti Tu Tv C Z q0 q1 q2 q3 q4 q5) s.heap.size = A at hD ⊢
  have hA : ∀ q : Nat, s.heap.size ≤ q → A q := fun q h => by rw [← hAe]; exact Or.inr h
  have hS : va_S A s.heap s.heap [] := va_S.rf
  have hl := lv_entry ([.ref (ca 0), .ref (na 18), .int x2]) (n := 3) (Nat.le_of_ble_eq_true rfl)
  rw [lg_entry_eq]
  generalize (lg_sl ([.ref (ca 0), .ref (na 18), .int x2]) ++ List.replicate (3 - (lg_sl ([.ref (ca 0), .ref (na 18), .int x2])).length) Slot.unset).toArray = ls at hl ⊢
  have hl : lv_has ls 3 [(0, .ref (ca 0)), (1, .ref (na 18)), (2, .int x2)] := hl
  have F : tF p s m ([.ref (ca 0), .ref (na 18), .int x2] : List Value).toArray meth c G cA A RX0 cX0_bringRow 3 (some .int) := ⟨hx, hb, hr, hml, hT, hown, hlocks, hK, hN, hA⟩
  obtain ⟨H, hH⟩ : ∃ z, z = s.heap := ⟨_, rfl⟩
  rw [← hH] at hP
  have hS : va_S A s.heap H [] := by rw [hH]; exact hS
  suffices hgo : G_X0_bringRow_x_na18 p l e s m below meth c G cA A xa ka ra na ia ua va ca za pa qa X K R P L P2 L2 Ti Tu Tv C Z q0 q1 q2 q3 q4 q5 x2 r0 Tn' H [] (F0 m 0 ls []) by rw [hH] at hgo; exact hgo
  generalize ([] : List Loc) = locs at hS ⊢
  unfold f_X0_bringRow_x_na18 at h
  refine lv_aload_n hx hb dX0_bringRow_0 rfl (lv_at hl 0 rfl) ?_
  refine va_get (D := G) (ci := 0) (v := .ref (ca 3)) (C := RX0) (T := TX0) (N := 3) hx hb hT ku_0 hown hK hP 101 rfl rfl 2 (by decide) (hT _ kw_8_18) (fun _ h9 => h9) rfl dX0_bringRow_1 ?_
  refine lv_iload_n hx hb dX0_bringRow_4 rfl (lv_at hl 2 rfl) ?_
  refine lv_aload_n hx hb dX0_bringRow_5 rfl (lv_at hl 1 rfl) ?_
  refine lv_iconst (v := 0) hx hb dX0_bringRow_6 (by decide) ?_
  refine lv_aload_n hx hb dX0_bringRow_7 rfl (lv_at hl 1 rfl) ?_
  refine va_alen (v := 5) hx hb hK hP 63 0 rfl rfl (show Int32.ofNat 5 = 5 from by decide) dX0_bringRow_8 ?_
  replace h := tx_ck h
  obtain ⟨g1, h⟩ := h
  refine va_copyi (ty := .int) (sp := x2) (dp := 0) (n := 5) hx hb (hml.trans hl.1.symm) hown (hT _ kw_36_14) (hT _ kw_36_15) (hT _ kw_36_16) (hT _ kw_36_17) hK hP hD hS 102 63 0 0 rfl rfl rfl rfl rfl (tx_cp g1).1 (tx_cp g1).2.1 (tx_cp g1).2.2.1 (tx_cp g1).2.2.2.1 (tx_cp g1).2.2.2.2 (fun _ _ => rfl) (Nat.le_of_ble_eq_true rfl) (by decide) dX0_bringRow_9 (fun H locs hP hD hS => ?_)
  try rw [show (0 : Int32).toNatClampNeg = 0 from rfl] at hP hD
  try rw [show (5 : Int32).toNatClampNeg = 5 from rfl] at hP hD
  replace h := tx_lt h
  obtain ⟨Tn_2, eTn_2, h⟩ := h
  rw [sX_na_c17, eTn_2] at hP hD
  refine lv_iload_n hx hb dX0_bringRow_12 rfl (lv_at hl 2 rfl) ?_
  refine lv_aload_n hx hb dX0_bringRow_13 rfl (lv_at hl 1 rfl) ?_
  refine va_alen (v := 5) hx hb hK hP 63 0 rfl rfl (show Int32.ofNat 5 = 5 from by decide) dX0_bringRow_14 ?_
  refine lv_iadd hx hb dX0_bringRow_15 ?_
  obtain ⟨rfl, rfl⟩ := tx_2 h
  exact W.iret hx hb hr (fun t ht hW => ⟨⟨_, (), rfl, rfl, by rw [ht]; exact hP, hD⟩, hS.F ht⟩) hS.2.2 dX0_bringRow_16
abbrev G_X0_bringRow_x_na15 (p : Program) (l : Launch) (e : Env) (s : State) (m : MethodId) (below : List Frame) (meth : Method) (c : Code) (G : va_G) (cA : Nat → ClassId) (A : Nat → Prop) (xa : Nat → Nat) (ka : Nat → Nat) (ra : Nat → Nat) (na : Nat → Nat) (ia : Nat → Nat) (ua : Nat → Nat) (va : Nat → Nat) (ca : Nat → Nat) (za : Nat → Nat) (pa : Nat → Nat) (qa : Nat → Nat) (X : Tr) (K : Tr) (R : Tr) (P : Tr) (L : Lo) (P2 : Tr) (L2 : Lo) (Ti : Tr) (Tu : Tr) (Tv : Tr) (C : Tr) (Z : Tr) (q0 : Nat) (q1 : Nat) (q2 : Nat) (q3 : Nat) (q4 : Nat) (q5 : Nat) (x2 : Int32) (r0 : Int32) (Tn' : Tr) (H : Heap) (locs : List Loc) (g : JFrame) : Prop := W p l e (headSpec (.code yX0_bringRow cX0_bringRow 3 (some .int) :: T0) ({ frames := 1, cells := 0, slots := 0, locals := 40 } : Room)).room s m ([.ref (ca 0), .ref (na 15), .int x2] : List Value).toArray below meth c H locs 0 0 (MQ below (tqQi G cA (fun (r : Int32) (_ : Unit) => r = r0) (fun (_ : Unit) => wX cA xa ka ra na ia ua va ca za pa qa X K R P L P2 L2 (Tn') Ti Tu Tv C Z q0 q1 q2 q3 q4 q5) A) ([.ref (ca 0), .ref (na 15), .int x2] : List Value).toArray s 0 0 A) g
set_option maxHeartbeats 4000000 in
set_option maxRecDepth 100000 in
theorem c_X0_bringRow_x_na15 (l : Launch) (G : va_G) (cA : Nat → ClassId) (sz : Nat) (xa : Nat → Nat) (ka : Nat → Nat) (ra : Nat → Nat) (na : Nat → Nat) (ia : Nat → Nat) (ua : Nat → Nat) (va : Nat → Nat) (ca : Nat → Nat) (za : Nat → Nat) (pa : Nat → Nat) (qa : Nat → Nat) (X : Tr) (K : Tr) (R : Tr) (P : Tr) (L : Lo) (P2 : Tr) (L2 : Lo) (Tn : Tr) (Ti : Tr) (Tu : Tr) (Tv : Tr) (C : Tr) (Z : Tr) (q0 : Nat) (q1 : Nat) (q2 : Nat) (q3 : Nat) (q4 : Nat) (q5 : Nat) (x2 : Int32)  (r0 : Int32) (Tn' : Tr) (h : f_X0_bringRow_x_na15 pa qa Tn C x2 = some (r0, Tn')) : Met l yX0_bringRow (.code yX0_bringRow cX0_bringRow 3 (some .int) :: T0) ({ frames := 1, cells := 0, slots := 0, locals := 40 } : Room) (tqP G cA [.ref (ca 0), .ref (na 15), .int x2] (wX cA xa ka ra na ia ua va ca za pa qa X K R P L P2 L2 Tn Ti Tu Tv C Z q0 q1 q2 q3 q4 q5) sz) (tqQi G cA (fun (r : Int32) (_ : Unit) => r = r0) (fun (_ : Unit) => wX cA xa ka ra na ia ua va ca za pa qa X K R P L P2 L2 (Tn') Ti Tu Tv C Z q0 q1 q2 q3 q4 q5) (va_A (wX cA xa ka ra na ia ua va ca za pa qa X K R P L P2 L2 Tn Ti Tu Tv C Z q0 q1 q2 q3 q4 q5) sz)) 0 0 (va_A (wX cA xa ka ra na ia ua va ca za pa qa X K R P L P2 L2 Tn Ti Tu Tv C Z q0 q1 q2 q3 q4 q5) sz) := by
  refine Met.ofW (cc := cX0_bringRow) (maxL := 3) (ret := (some .int)) (by decide) rfl ?_
  intro p e s m args below meth c s₁ B hml hv
  obtain ⟨rfl, hsz, hP, hK, hD0, hN⟩ := hv
  have hx := B.exec
  have hb := B.bytes
  have hr := B.returns
  have hts := atoms_spec (ws := .code yX0_bringRow cX0_bringRow 3 (some .int) :: T0) B.pre
  have hT : ∀ w ∈ T0, w.before _ s = true := fun w h => hts w (List.mem_cons_of_mem _ h)
  have hown : s.vm.findClass RX0 = some m.cls := findClass_of_methodNamed B.named
  have hlocks := B.notSynchronized
  subst hsz
  have hD := hD0.self (sz := s.heap.size)
  generalize hAe : va_A (wX cA xa ka ra na ia ua va ca za pa qa X K R P L P2 L2 Tn Ti Tu Tv C Z q0 q1 q2 q3 q4 q5) s.heap.size = A at hD ⊢
  have hA : ∀ q : Nat, s.heap.size ≤ q → A q := fun q h => by rw [← hAe]; exact Or.inr h
  have hS : va_S A s.heap s.heap [] := va_S.rf
  have hl := lv_entry ([.ref (ca 0), .ref (na 15), .int x2]) (n := 3) (Nat.le_of_ble_eq_true rfl)
  rw [lg_entry_eq]
  generalize (lg_sl ([.ref (ca 0), .ref (na 15), .int x2]) ++ List.replicate (3 - (lg_sl ([.ref (ca 0), .ref (na 15), .int x2])).length) Slot.unset).toArray = ls at hl ⊢
  have hl : lv_has ls 3 [(0, .ref (ca 0)), (1, .ref (na 15)), (2, .int x2)] := hl
  have F : tF p s m ([.ref (ca 0), .ref (na 15), .int x2] : List Value).toArray meth c G cA A RX0 cX0_bringRow 3 (some .int) := ⟨hx, hb, hr, hml, hT, hown, hlocks, hK, hN, hA⟩
  obtain ⟨H, hH⟩ : ∃ z, z = s.heap := ⟨_, rfl⟩
  rw [← hH] at hP
  have hS : va_S A s.heap H [] := by rw [hH]; exact hS
  suffices hgo : G_X0_bringRow_x_na15 p l e s m below meth c G cA A xa ka ra na ia ua va ca za pa qa X K R P L P2 L2 Ti Tu Tv C Z q0 q1 q2 q3 q4 q5 x2 r0 Tn' H [] (F0 m 0 ls []) by rw [hH] at hgo; exact hgo
  generalize ([] : List Loc) = locs at hS ⊢
  unfold f_X0_bringRow_x_na15 at h
  refine lv_aload_n hx hb dX0_bringRow_0 rfl (lv_at hl 0 rfl) ?_
  refine va_get (D := G) (ci := 0) (v := .ref (ca 3)) (C := RX0) (T := TX0) (N := 3) hx hb hT ku_0 hown hK hP 101 rfl rfl 2 (by decide) (hT _ kw_8_18) (fun _ h9 => h9) rfl dX0_bringRow_1 ?_
  refine lv_iload_n hx hb dX0_bringRow_4 rfl (lv_at hl 2 rfl) ?_
  refine lv_aload_n hx hb dX0_bringRow_5 rfl (lv_at hl 1 rfl) ?_
  refine lv_iconst (v := 0) hx hb dX0_bringRow_6 (by decide) ?_
  refine lv_aload_n hx hb dX0_bringRow_7 rfl (lv_at hl 1 rfl) ?_
  refine va_alen (v := 10) hx hb hK hP 60 0 rfl rfl (show Int32.ofNat 10 = 10 from by decide) dX0_bringRow_8 ?_
  replace h := tx_ck h
  obtain ⟨g1, h⟩ := h
  refine va_copyi (ty := .int) (sp := x2) (dp := 0) (n := 10) hx hb (hml.trans hl.1.symm) hown (hT _ kw_36_14) (hT _ kw_36_15) (hT _ kw_36_16) (hT _ kw_36_17) hK hP hD hS 102 60 0 0 rfl rfl rfl rfl rfl (tx_cp g1).1 (tx_cp g1).2.1 (tx_cp g1).2.2.1 (tx_cp g1).2.2.2.1 (tx_cp g1).2.2.2.2 (fun _ _ => rfl) (Nat.le_of_ble_eq_true rfl) (by decide) dX0_bringRow_9 (fun H locs hP hD hS => ?_)
  try rw [show (0 : Int32).toNatClampNeg = 0 from rfl] at hP hD
  try rw [show (10 : Int32).toNatClampNeg = 10 from rfl] at hP hD
  replace h := tx_lt h
  obtain ⟨Tn_2, eTn_2, h⟩ := h
  rw [sX_na_c14, eTn_2] at hP hD
  refine lv_iload_n hx hb dX0_bringRow_12 rfl (lv_at hl 2 rfl) ?_
  refine lv_aload_n hx hb dX0_bringRow_13 rfl (lv_at hl 1 rfl) ?_
  refine va_alen (v := 10) hx hb hK hP 60 0 rfl rfl (show Int32.ofNat 10 = 10 from by decide) dX0_bringRow_14 ?_
  refine lv_iadd hx hb dX0_bringRow_15 ?_
  obtain ⟨rfl, rfl⟩ := tx_2 h
  exact W.iret hx hb hr (fun t ht hW => ⟨⟨_, (), rfl, rfl, by rw [ht]; exact hP, hD⟩, hS.F ht⟩) hS.2.2 dX0_bringRow_16
abbrev G_X0_bringRow_x_na10 (p : Program) (l : Launch) (e : Env) (s : State) (m : MethodId) (below : List Frame) (meth : Method) (c : Code) (G : va_G) (cA : Nat → ClassId) (A : Nat → Prop) (xa : Nat → Nat) (ka : Nat → Nat) (ra : Nat → Nat) (na : Nat → Nat) (ia : Nat → Nat) (ua : Nat → Nat) (va : Nat → Nat) (ca : Nat → Nat) (za : Nat → Nat) (pa : Nat → Nat) (qa : Nat → Nat) (X : Tr) (K : Tr) (R : Tr) (P : Tr) (L : Lo) (P2 : Tr) (L2 : Lo) (Ti : Tr) (Tu : Tr) (Tv : Tr) (C : Tr) (Z : Tr) (q0 : Nat) (q1 : Nat) (q2 : Nat) (q3 : Nat) (q4 : Nat) (q5 : Nat) (x2 : Int32) (r0 : Int32) (Tn' : Tr) (H : Heap) (locs : List Loc) (g : JFrame) : Prop := W p l e (headSpec (.code yX0_bringRow cX0_bringRow 3 (some .int) :: T0) ({ frames := 1, cells := 0, slots := 0, locals := 40 } : Room)).room s m ([.ref (ca 0), .ref (na 10), .int x2] : List Value).toArray below meth c H locs 0 0 (MQ below (tqQi G cA (fun (r : Int32) (_ : Unit) => r = r0) (fun (_ : Unit) => wX cA xa ka ra na ia ua va ca za pa qa X K R P L P2 L2 (Tn') Ti Tu Tv C Z q0 q1 q2 q3 q4 q5) A) ([.ref (ca 0), .ref (na 10), .int x2] : List Value).toArray s 0 0 A) g
set_option maxHeartbeats 4000000 in
set_option maxRecDepth 100000 in
theorem c_X0_bringRow_x_na10 (l : Launch) (G : va_G) (cA : Nat → ClassId) (sz : Nat) (xa : Nat → Nat) (ka : Nat → Nat) (ra : Nat → Nat) (na : Nat → Nat) (ia : Nat → Nat) (ua : Nat → Nat) (va : Nat → Nat) (ca : Nat → Nat) (za : Nat → Nat) (pa : Nat → Nat) (qa : Nat → Nat) (X : Tr) (K : Tr) (R : Tr) (P : Tr) (L : Lo) (P2 : Tr) (L2 : Lo) (Tn : Tr) (Ti : Tr) (Tu : Tr) (Tv : Tr) (C : Tr) (Z : Tr) (q0 : Nat) (q1 : Nat) (q2 : Nat) (q3 : Nat) (q4 : Nat) (q5 : Nat) (x2 : Int32)  (r0 : Int32) (Tn' : Tr) (h : f_X0_bringRow_x_na10 pa qa Tn C x2 = some (r0, Tn')) : Met l yX0_bringRow (.code yX0_bringRow cX0_bringRow 3 (some .int) :: T0) ({ frames := 1, cells := 0, slots := 0, locals := 40 } : Room) (tqP G cA [.ref (ca 0), .ref (na 10), .int x2] (wX cA xa ka ra na ia ua va ca za pa qa X K R P L P2 L2 Tn Ti Tu Tv C Z q0 q1 q2 q3 q4 q5) sz) (tqQi G cA (fun (r : Int32) (_ : Unit) => r = r0) (fun (_ : Unit) => wX cA xa ka ra na ia ua va ca za pa qa X K R P L P2 L2 (Tn') Ti Tu Tv C Z q0 q1 q2 q3 q4 q5) (va_A (wX cA xa ka ra na ia ua va ca za pa qa X K R P L P2 L2 Tn Ti Tu Tv C Z q0 q1 q2 q3 q4 q5) sz)) 0 0 (va_A (wX cA xa ka ra na ia ua va ca za pa qa X K R P L P2 L2 Tn Ti Tu Tv C Z q0 q1 q2 q3 q4 q5) sz) := by
  refine Met.ofW (cc := cX0_bringRow) (maxL := 3) (ret := (some .int)) (by decide) rfl ?_
  intro p e s m args below meth c s₁ B hml hv
  obtain ⟨rfl, hsz, hP, hK, hD0, hN⟩ := hv
  have hx := B.exec
  have hb := B.bytes
  have hr := B.returns
  have hts := atoms_spec (ws := .code yX0_bringRow cX0_bringRow 3 (some .int) :: T0) B.pre
  have hT : ∀ w ∈ T0, w.before _ s = true := fun w h => hts w (List.mem_cons_of_mem _ h)
  have hown : s.vm.findClass RX0 = some m.cls := findClass_of_methodNamed B.named
  have hlocks := B.notSynchronized
  subst hsz
  have hD := hD0.self (sz := s.heap.size)
  generalize hAe : va_A (wX cA xa ka ra na ia ua va ca za pa qa X K R P L P2 L2 Tn Ti Tu Tv C Z q0 q1 q2 q3 q4 q5) s.heap.size = A at hD ⊢
  have hA : ∀ q : Nat, s.heap.size ≤ q → A q := fun q h => by rw [← hAe]; exact Or.inr h
  have hS : va_S A s.heap s.heap [] := va_S.rf
  have hl := lv_entry ([.ref (ca 0), .ref (na 10), .int x2]) (n := 3) (Nat.le_of_ble_eq_true rfl)
  rw [lg_entry_eq]
  generalize (lg_sl ([.ref (ca 0), .ref (na 10), .int x2]) ++ List.replicate (3 - (lg_sl ([.ref (ca 0), .ref (na 10), .int x2])).length) Slot.unset).toArray = ls at hl ⊢
  have hl : lv_has ls 3 [(0, .ref (ca 0)), (1, .ref (na 10)), (2, .int x2)] := hl
  have F : tF p s m ([.ref (ca 0), .ref (na 10), .int x2] : List Value).toArray meth c G cA A RX0 cX0_bringRow 3 (some .int) := ⟨hx, hb, hr, hml, hT, hown, hlocks, hK, hN, hA⟩
  obtain ⟨H, hH⟩ : ∃ z, z = s.heap := ⟨_, rfl⟩
  rw [← hH] at hP
  have hS : va_S A s.heap H [] := by rw [hH]; exact hS
  suffices hgo : G_X0_bringRow_x_na10 p l e s m below meth c G cA A xa ka ra na ia ua va ca za pa qa X K R P L P2 L2 Ti Tu Tv C Z q0 q1 q2 q3 q4 q5 x2 r0 Tn' H [] (F0 m 0 ls []) by rw [hH] at hgo; exact hgo
  generalize ([] : List Loc) = locs at hS ⊢
  unfold f_X0_bringRow_x_na10 at h
  refine lv_aload_n hx hb dX0_bringRow_0 rfl (lv_at hl 0 rfl) ?_
  refine va_get (D := G) (ci := 0) (v := .ref (ca 3)) (C := RX0) (T := TX0) (N := 3) hx hb hT ku_0 hown hK hP 101 rfl rfl 2 (by decide) (hT _ kw_8_18) (fun _ h9 => h9) rfl dX0_bringRow_1 ?_
  refine lv_iload_n hx hb dX0_bringRow_4 rfl (lv_at hl 2 rfl) ?_
  refine lv_aload_n hx hb dX0_bringRow_5 rfl (lv_at hl 1 rfl) ?_
  refine lv_iconst (v := 0) hx hb dX0_bringRow_6 (by decide) ?_
  refine lv_aload_n hx hb dX0_bringRow_7 rfl (lv_at hl 1 rfl) ?_
  refine va_alen (v := 6) hx hb hK hP 55 0 rfl rfl (show Int32.ofNat 6 = 6 from by decide) dX0_bringRow_8 ?_
  replace h := tx_ck h
  obtain ⟨g1, h⟩ := h
  refine va_copyi (ty := .int) (sp := x2) (dp := 0) (n := 6) hx hb (hml.trans hl.1.symm) hown (hT _ kw_36_14) (hT _ kw_36_15) (hT _ kw_36_16) (hT _ kw_36_17) hK hP hD hS 102 55 0 0 rfl rfl rfl rfl rfl (tx_cp g1).1 (tx_cp g1).2.1 (tx_cp g1).2.2.1 (tx_cp g1).2.2.2.1 (tx_cp g1).2.2.2.2 (fun _ _ => rfl) (Nat.le_of_ble_eq_true rfl) (by decide) dX0_bringRow_9 (fun H locs hP hD hS => ?_)
  try rw [show (0 : Int32).toNatClampNeg = 0 from rfl] at hP hD
  try rw [show (6 : Int32).toNatClampNeg = 6 from rfl] at hP hD
  replace h := tx_lt h
  obtain ⟨Tn_2, eTn_2, h⟩ := h
  rw [sX_na_c9, eTn_2] at hP hD
  refine lv_iload_n hx hb dX0_bringRow_12 rfl (lv_at hl 2 rfl) ?_
  refine lv_aload_n hx hb dX0_bringRow_13 rfl (lv_at hl 1 rfl) ?_
  refine va_alen (v := 6) hx hb hK hP 55 0 rfl rfl (show Int32.ofNat 6 = 6 from by decide) dX0_bringRow_14 ?_
  refine lv_iadd hx hb dX0_bringRow_15 ?_
  obtain ⟨rfl, rfl⟩ := tx_2 h
  exact W.iret hx hb hr (fun t ht hW => ⟨⟨_, (), rfl, rfl, by rw [ht]; exact hP, hD⟩, hS.F ht⟩) hS.2.2 dX0_bringRow_16
abbrev G_X0_bringBack_x_na0 (p : Program) (l : Launch) (e : Env) (s : State) (m : MethodId) (below : List Frame) (meth : Method) (c : Code) (G : va_G) (cA : Nat → ClassId) (A : Nat → Prop) (xa : Nat → Nat) (ka : Nat → Nat) (ra : Nat → Nat) (na : Nat → Nat) (ia : Nat → Nat) (ua : Nat → Nat) (va : Nat → Nat) (ca : Nat → Nat) (za : Nat → Nat) (pa : Nat → Nat) (qa : Nat → Nat) (X : Tr) (K : Tr) (R : Tr) (P : Tr) (L : Lo) (P2 : Tr) (L2 : Lo) (Ti : Tr) (Tu : Tr) (Tv : Tr) (Z : Tr) (q0 : Nat) (q1 : Nat) (q2 : Nat) (q3 : Nat) (q4 : Nat) (q5 : Nat) (Tn' : Tr) (C' : Tr) (H : Heap) (locs : List Loc) (g : JFrame) : Prop := W p l e (headSpec (.code yX0_bringBack cX0_bringBack 3 none :: T0) ({ frames := 2, cells := 0, slots := 0, locals := 62 } : Room)).room s m ([.ref (ca 0), .ref (na 0)] : List Value).toArray below meth c H locs 0 0 (MQ below (tqQv G cA (fun (_ : Unit) => True) (fun (_ : Unit) => wX cA xa ka ra na ia ua va ca za pa qa X K R P L P2 L2 (Tn') Ti Tu Tv (C') Z q0 q1 q2 q3 q4 q5) A) ([.ref (ca 0), .ref (na 0)] : List Value).toArray s 0 0 A) g
set_option maxHeartbeats 4000000 in
set_option maxRecDepth 100000 in
theorem c_X0_bringBack_x_na0 (l : Launch) (G : va_G) (cA : Nat → ClassId) (sz : Nat) (xa : Nat → Nat) (ka : Nat → Nat) (ra : Nat → Nat) (na : Nat → Nat) (ia : Nat → Nat) (ua : Nat → Nat) (va : Nat → Nat) (ca : Nat → Nat) (za : Nat → Nat) (pa : Nat → Nat) (qa : Nat → Nat) (X : Tr) (K : Tr) (R : Tr) (P : Tr) (L : Lo) (P2 : Tr) (L2 : Lo) (Tn : Tr) (Ti : Tr) (Tu : Tr) (Tv : Tr) (C : Tr) (Z : Tr) (q0 : Nat) (q1 : Nat) (q2 : Nat) (q3 : Nat) (q4 : Nat) (q5 : Nat)  (Tn' : Tr) (C' : Tr) (h : f_X0_bringBack_x_na0 pa qa Tn C = some (Tn', C')) : Met l yX0_bringBack (.code yX0_bringBack cX0_bringBack 3 none :: T0) ({ frames := 2, cells := 0, slots := 0, locals := 62 } : Room) (tqP G cA [.ref (ca 0), .ref (na 0)] (wX cA xa ka ra na ia ua va ca za pa qa X K R P L P2 L2 Tn Ti Tu Tv C Z q0 q1 q2 q3 q4 q5) sz) (tqQv G cA (fun (_ : Unit) => True) (fun (_ : Unit) => wX cA xa ka ra na ia ua va ca za pa qa X K R P L P2 L2 (Tn') Ti Tu Tv (C') Z q0 q1 q2 q3 q4 q5) (va_A (wX cA xa ka ra na ia ua va ca za pa qa X K R P L P2 L2 Tn Ti Tu Tv C Z q0 q1 q2 q3 q4 q5) sz)) 0 0 (va_A (wX cA xa ka ra na ia ua va ca za pa qa X K R P L P2 L2 Tn Ti Tu Tv C Z q0 q1 q2 q3 q4 q5) sz) := by
  refine Met.ofW (cc := cX0_bringBack) (maxL := 3) (ret := none) (by decide) rfl ?_
  intro p e s m args below meth c s₁ B hml hv
  obtain ⟨rfl, hsz, hP, hK, hD0, hN⟩ := hv
  have hx := B.exec
  have hb := B.bytes
  have hr := B.returns
  have hts := atoms_spec (ws := .code yX0_bringBack cX0_bringBack 3 none :: T0) B.pre
  have hT : ∀ w ∈ T0, w.before _ s = true := fun w h => hts w (List.mem_cons_of_mem _ h)
  have hown : s.vm.findClass RX0 = some m.cls := findClass_of_methodNamed B.named
  have hlocks := B.notSynchronized
  subst hsz
  have hD := hD0.self (sz := s.heap.size)
  generalize hAe : va_A (wX cA xa ka ra na ia ua va ca za pa qa X K R P L P2 L2 Tn Ti Tu Tv C Z q0 q1 q2 q3 q4 q5) s.heap.size = A at hD ⊢
  have hA : ∀ q : Nat, s.heap.size ≤ q → A q := fun q h => by rw [← hAe]; exact Or.inr h
  have hS : va_S A s.heap s.heap [] := va_S.rf
  have hl := lv_entry ([.ref (ca 0), .ref (na 0)]) (n := 3) (Nat.le_of_ble_eq_true rfl)
  rw [lg_entry_eq]
  generalize (lg_sl ([.ref (ca 0), .ref (na 0)]) ++ List.replicate (3 - (lg_sl ([.ref (ca 0), .ref (na 0)])).length) Slot.unset).toArray = ls at hl ⊢
  have hl : lv_has ls 3 [(0, .ref (ca 0)), (1, .ref (na 0))] := hl
  have F : tF p s m ([.ref (ca 0), .ref (na 0)] : List Value).toArray meth c G cA A RX0 cX0_bringBack 3 none := ⟨hx, hb, hr, hml, hT, hown, hlocks, hK, hN, hA⟩
  obtain ⟨H, hH⟩ : ∃ z, z = s.heap := ⟨_, rfl⟩
  rw [← hH] at hP
  have hS : va_S A s.heap H [] := by rw [hH]; exact hS
  suffices hgo : G_X0_bringBack_x_na0 p l e s m below meth c G cA A xa ka ra na ia ua va ca za pa qa X K R P L P2 L2 Ti Tu Tv Z q0 q1 q2 q3 q4 q5 Tn' C' H [] (F0 m 0 ls []) by rw [hH] at hgo; exact hgo
  generalize ([] : List Loc) = locs at hS ⊢
  unfold f_X0_bringBack_x_na0 at h
  refine lv_aload_n hx hb dX0_bringBack_0 rfl (lv_at hl 0 rfl) ?_
  refine va_get (D := G) (ci := 0) (v := .int (C 0 0)) (C := RX0) (T := TX0) (N := 3) hx hb hT ku_0 hown hK hP 101 rfl rfl 0 (by decide) (hT _ kw_8_16) (fun _ h9 => h9) rfl dX0_bringBack_1 ?_
  refine lv_if_ne (tgt := 8) hx hb dX0_bringBack_4 (by decide) (fun c1 => ?_) (fun c1 => ?_)
  · replace h := tx_neg c1 h
    refine lv_aload_n hx hb dX0_bringBack_8 rfl (lv_at hl 0 rfl) ?_
    refine lv_aload_n hx hb dX0_bringBack_9 rfl (lv_at hl 0 rfl) ?_
    refine va_get (D := G) (ci := 0) (v := .int (C 0 1)) (C := RX0) (T := TX0) (N := 3) hx hb hT ku_0 hown hK hP 101 rfl rfl 1 (by decide) (hT _ kw_8_17) (fun _ h9 => h9) rfl dX0_bringBack_10 ?_
    refine lv_bipush (v := 20) hx hb dX0_bringBack_13 (by decide) ?_
    refine lv_iadd hx hb dX0_bringBack_15 ?_
    refine lv_iconst (v := 1) hx hb dX0_bringBack_16 (by decide) ?_
    refine lv_isub hx hb dX0_bringBack_17 ?_
    refine lv_bipush (v := 20) hx hb dX0_bringBack_18 (by decide) ?_
    refine lv_irem hx hb dX0_bringBack_20 (by decide) ?_
    refine va_put (D := G) (ci := 0) (v := .int ((((C 0 1) + 20) - 1) - (((C 0 1) + 20) - 1) / 20 * 20)) (ty := .int) (C := RX0) (T := TX0) (N := 3) hx hb hT ku_0 tyX0 tyX0_ok nmX0 hown hK hP hD hS 101 rfl rfl 1 (by decide) (hT _ kw_8_17) (fun _ h9 => h9) rfl (by decide +kernel) rfl rfl (Nat.le_of_ble_eq_true rfl) dX0_bringBack_21 (fun H locs hP hD hS => ?_)
    replace h := tx_lt h
    obtain ⟨C_2, eC_2, h⟩ := h
    rw [sX_ca_f1, eC_2] at hP hD
    refine lv_aload_n hx hb dX0_bringBack_24 rfl (lv_at hl 0 rfl) ?_
    refine lv_dup hx hb dX0_bringBack_25 rfl ?_
    refine va_get (D := G) (ci := 0) (v := .int (C_2 0 0)) (C := RX0) (T := TX0) (N := 3) hx hb hT ku_0 hown hK hP 101 rfl rfl 0 (by decide) (hT _ kw_8_16) (fun _ h9 => h9) rfl dX0_bringBack_26 ?_
    refine lv_iconst (v := 1) hx hb dX0_bringBack_29 (by decide) ?_
    refine lv_isub hx hb dX0_bringBack_30 ?_
    refine va_put (D := G) (ci := 0) (v := .int ((C_2 0 0) - 1)) (ty := .int) (C := RX0) (T := TX0) (N := 3) hx hb hT ku_0 tyX0 tyX0_ok nmX0 hown hK hP hD hS 101 rfl rfl 0 (by decide) (hT _ kw_8_16) (fun _ h9 => h9) rfl (by decide +kernel) rfl rfl (Nat.le_of_ble_eq_true rfl) dX0_bringBack_31 (fun H locs hP hD hS => ?_)
    replace h := tx_lt h
    obtain ⟨C_3, eC_3, h⟩ := h
    rw [sX_ca_f0, eC_3] at hP hD
    refine lv_aload_n hx hb dX0_bringBack_34 rfl (lv_at hl 0 rfl) ?_
    refine va_get (D := G) (ci := 0) (v := .int (C_3 0 1)) (C := RX0) (T := TX0) (N := 3) hx hb hT ku_0 hown hK hP 101 rfl rfl 1 (by decide) (hT _ kw_8_17) (fun _ h9 => h9) rfl dX0_bringBack_35 ?_
    refine lv_bipush (v := 76) hx hb dX0_bringBack_38 (by decide) ?_
    refine lv_imul hx hb dX0_bringBack_40 ?_
    refine lv_topi (fun y4 ey4 => ?_)
    replace h := tx_let ey4 h
    refine lv_istore_n (lv' := [(2, .int y4), (0, .ref (ca 0)), (1, .ref (na 0))]) hx hb dX0_bringBack_41 rfl hl (by decide) rfl (fun ls hl => ?_)
    refine lv_aload_n hx hb dX0_bringBack_42 rfl (lv_at hl 1 rfl) ?_
    refine lv_aload_n hx hb dX0_bringBack_43 rfl (lv_at hl 2 rfl) ?_
    refine va_get (D := G) (ci := 6) (v := .ref (na 16)) (C := RX6) (T := TX6) (N := 20) hx hb hT ku_6 hown hK hP 53 rfl rfl 15 (by decide) (hT _ kw_36_5) (fun _ h9 => h9) rfl dX0_bringBack_44 ?_
    refine lv_iload_n hx hb dX0_bringBack_47 rfl (lv_at hl 0 rfl) ?_
    replace h := tx_bd h
    obtain ⟨⟨r5, Tn_6⟩, hc7, h⟩ := h
    replace h := tx_let (y := r5) rfl h
    replace h := tx_let (y := Tn_6) rfl h
    refine tz_i (As := [.ref (na 16), .int y4]) (rest := []) ⟨hx, hb, hml, hown, hT⟩ hP hD hS hA hK hN (c_X0_bringRow_x_na16 l G cA H.size xa ka ra na ia ua va ca za pa qa X K R P L P2 L2 Tn Ti Tu Tv C_3 Z q0 q1 q2 q3 q4 q5 y4  r5 Tn_6 hc7) (tq_gV kw_58_8 kw_58_9 kw_58_10 kw_2_7 kw_58_11) rfl rfl dkdV_yX0_bringRow_2 (Nat.le_of_ble_eq_true rfl) (Nat.le_of_ble_eq_true rfl) (ci := 0) (q0 := 101) rfl rfl rfl hl.1 rfl (Nat.le_of_ble_eq_true rfl) dX0_bringBack_48 ⟨Nat.le_of_ble_eq_true rfl, Nat.le_of_ble_eq_true rfl⟩ (fun _ _ H locs z8 hP hD hS => ?_)
    have z8 := z8.symm
    subst z8
    have hP : va_P G vwCl (wX cA xa ka ra na ia ua va ca za pa qa X K R P L P2 L2 Tn_6 Ti Tu Tv C_3 Z q0 q1 q2 q3 q4 q5) H := hP
    have hD : va_D A (wX cA xa ka ra na ia ua va ca za pa qa X K R P L P2 L2 Tn_6 Ti Tu Tv C_3 Z q0 q1 q2 q3 q4 q5) := hD
    refine lv_istore_n (lv' := [(2, .int r5), (0, .ref (ca 0)), (1, .ref (na 0))]) hx hb dX0_bringBack_51 rfl hl (by decide) rfl (fun ls hl => ?_)
    refine lv_aload_n hx hb dX0_bringBack_52 rfl (lv_at hl 1 rfl) ?_
    refine lv_aload_n hx hb dX0_bringBack_53 rfl (lv_at hl 2 rfl) ?_
    refine va_get (D := G) (ci := 6) (v := .ref (na 17)) (C := RX6) (T := TX6) (N := 20) hx hb hT ku_6 hown hK hP 53 rfl rfl 16 (by decide) (hT _ kw_36_6) (fun _ h9 => h9) rfl dX0_bringBack_54 ?_
    refine lv_iload_n hx hb dX0_bringBack_57 rfl (lv_at hl 0 rfl) ?_
    replace h := tx_bd h
    obtain ⟨⟨r9, Tn_10⟩, hc11, h⟩ := h
    replace h := tx_let (y := r9) rfl h
    replace h := tx_let (y := Tn_10) rfl h
    refine tz_i (As := [.ref (na 17), .int r5]) (rest := []) ⟨hx, hb, hml, hown, hT⟩ hP hD hS hA hK hN (c_X0_bringRow_x_na17 l G cA H.size xa ka ra na ia ua va ca za pa qa X K R P L P2 L2 Tn_6 Ti Tu Tv C_3 Z q0 q1 q2 q3 q4 q5 r5  r9 Tn_10 hc11) (tq_gV kw_58_8 kw_58_9 kw_58_10 kw_2_7 kw_58_11) rfl rfl dkdV_yX0_bringRow_2 (Nat.le_of_ble_eq_true rfl) (Nat.le_of_ble_eq_true rfl) (ci := 0) (q0 := 101) rfl rfl rfl hl.1 rfl (Nat.le_of_ble_eq_true rfl) dX0_bringBack_58 ⟨Nat.le_of_ble_eq_true rfl, Nat.le_of_ble_eq_true rfl⟩ (fun _ _ H locs z12 hP hD hS => ?_)
    have z12 := z12.symm
    subst z12
    have hP : va_P G vwCl (wX cA xa ka ra na ia ua va ca za pa qa X K R P L P2 L2 Tn_10 Ti Tu Tv C_3 Z q0 q1 q2 q3 q4 q5) H := hP
    have hD : va_D A (wX cA xa ka ra na ia ua va ca za pa qa X K R P L P2 L2 Tn_10 Ti Tu Tv C_3 Z q0 q1 q2 q3 q4 q5) := hD
    refine lv_istore_n (lv' := [(2, .int r9), (0, .ref (ca 0)), (1, .ref (na 0))]) hx hb dX0_bringBack_61 rfl hl (by decide) rfl (fun ls hl => ?_)
    refine lv_aload_n hx hb dX0_bringBack_62 rfl (lv_at hl 1 rfl) ?_
    refine lv_aload_n hx hb dX0_bringBack_63 rfl (lv_at hl 2 rfl) ?_
    refine va_get (D := G) (ci := 6) (v := .ref (na 18)) (C := RX6) (T := TX6) (N := 20) hx hb hT ku_6 hown hK hP 53 rfl rfl 17 (by decide) (hT _ kw_36_7) (fun _ h9 => h9) rfl dX0_bringBack_64 ?_
    refine lv_iload_n hx hb dX0_bringBack_67 rfl (lv_at hl 0 rfl) ?_
    replace h := tx_bd h
    obtain ⟨⟨r13, Tn_14⟩, hc15, h⟩ := h
    replace h := tx_let (y := r13) rfl h
    replace h := tx_let (y := Tn_14) rfl h
    refine tz_i (As := [.ref (na 18), .int r9]) (rest := []) ⟨hx, hb, hml, hown, hT⟩ hP hD hS hA hK hN (c_X0_bringRow_x_na18 l G cA H.size xa ka ra na ia ua va ca za pa qa X K R P L P2 L2 Tn_10 Ti Tu Tv C_3 Z q0 q1 q2 q3 q4 q5 r9  r13 Tn_14 hc15) (tq_gV kw_58_8 kw_58_9 kw_58_10 kw_2_7 kw_58_11) rfl rfl dkdV_yX0_bringRow_2 (Nat.le_of_ble_eq_true rfl) (Nat.le_of_ble_eq_true rfl) (ci := 0) (q0 := 101) rfl rfl rfl hl.1 rfl (Nat.le_of_ble_eq_true rfl) dX0_bringBack_68 ⟨Nat.le_of_ble_eq_true rfl, Nat.le_of_ble_eq_true rfl⟩ (fun _ _ H locs z16 hP hD hS => ?_)
    have z16 := z16.symm
    subst z16
    have hP : va_P G vwCl (wX cA xa ka ra na ia ua va ca za pa qa X K R P L P2 L2 Tn_14 Ti Tu Tv C_3 Z q0 q1 q2 q3 q4 q5) H := hP
    have hD : va_D A (wX cA xa ka ra na ia ua va ca za pa qa X K R P L P2 L2 Tn_14 Ti Tu Tv C_3 Z q0 q1 q2 q3 q4 q5) := hD
    refine lv_istore_n (lv' := [(2, .int r13), (0, .ref (ca 0)), (1, .ref (na 0))]) hx hb dX0_bringBack_71 rfl hl (by decide) rfl (fun ls hl => ?_)
    refine lv_aload_n hx hb dX0_bringBack_72 rfl (lv_at hl 1 rfl) ?_
    refine lv_aload_n hx hb dX0_bringBack_73 rfl (lv_at hl 2 rfl) ?_
    refine va_get (D := G) (ci := 6) (v := .ref (na 15)) (C := RX6) (T := TX6) (N := 20) hx hb hT ku_6 hown hK hP 53 rfl rfl 14 (by decide) (hT _ kw_36_8) (fun _ h9 => h9) rfl dX0_bringBack_74 ?_
    refine lv_iload_n hx hb dX0_bringBack_77 rfl (lv_at hl 0 rfl) ?_
    replace h := tx_bd h
    obtain ⟨⟨r17, Tn_18⟩, hc19, h⟩ := h
    replace h := tx_let (y := r17) rfl h
    replace h := tx_let (y := Tn_18) rfl h
    refine tz_i (As := [.ref (na 15), .int r13]) (rest := []) ⟨hx, hb, hml, hown, hT⟩ hP hD hS hA hK hN (c_X0_bringRow_x_na15 l G cA H.size xa ka ra na ia ua va ca za pa qa X K R P L P2 L2 Tn_14 Ti Tu Tv C_3 Z q0 q1 q2 q3 q4 q5 r13  r17 Tn_18 hc19) (tq_gV kw_58_8 kw_58_9 kw_58_10 kw_2_7 kw_58_11) rfl rfl dkdV_yX0_bringRow_2 (Nat.le_of_ble_eq_true rfl) (Nat.le_of_ble_eq_true rfl) (ci := 0) (q0 := 101) rfl rfl rfl hl.1 rfl (Nat.le_of_ble_eq_true rfl) dX0_bringBack_78 ⟨Nat.le_of_ble_eq_true rfl, Nat.le_of_ble_eq_true rfl⟩ (fun _ _ H locs z20 hP hD hS => ?_)
    have z20 := z20.symm
    subst z20
    have hP : va_P G vwCl (wX cA xa ka ra na ia ua va ca za pa qa X K R P L P2 L2 Tn_18 Ti Tu Tv C_3 Z q0 q1 q2 q3 q4 q5) H := hP
    have hD : va_D A (wX cA xa ka ra na ia ua va ca za pa qa X K R P L P2 L2 Tn_18 Ti Tu Tv C_3 Z q0 q1 q2 q3 q4 q5) := hD
    refine lv_istore_n (lv' := [(2, .int r17), (0, .ref (ca 0)), (1, .ref (na 0))]) hx hb dX0_bringBack_81 rfl hl (by decide) rfl (fun ls hl => ?_)
    refine lv_aload_n hx hb dX0_bringBack_82 rfl (lv_at hl 1 rfl) ?_
    refine lv_aload_n hx hb dX0_bringBack_83 rfl (lv_at hl 2 rfl) ?_
    refine va_get (D := G) (ci := 6) (v := .ref (na 10)) (C := RX6) (T := TX6) (N := 20) hx hb hT ku_6 hown hK hP 53 rfl rfl 9 (by decide) (hT _ kw_36_9) (fun _ h9 => h9) rfl dX0_bringBack_84 ?_
    refine lv_iload_n hx hb dX0_bringBack_87 rfl (lv_at hl 0 rfl) ?_
    replace h := tx_bd h
    obtain ⟨⟨r21, Tn_22⟩, hc23, h⟩ := h
    replace h := tx_let (y := r21) rfl h
    replace h := tx_let (y := Tn_22) rfl h
    refine tz_i (As := [.ref (na 10), .int r17]) (rest := []) ⟨hx, hb, hml, hown, hT⟩ hP hD hS hA hK hN (c_X0_bringRow_x_na10 l G cA H.size xa ka ra na ia ua va ca za pa qa X K R P L P2 L2 Tn_18 Ti Tu Tv C_3 Z q0 q1 q2 q3 q4 q5 r17  r21 Tn_22 hc23) (tq_gV kw_58_8 kw_58_9 kw_58_10 kw_2_7 kw_58_11) rfl rfl dkdV_yX0_bringRow_2 (Nat.le_of_ble_eq_true rfl) (Nat.le_of_ble_eq_true rfl) (ci := 0) (q0 := 101) rfl rfl rfl hl.1 rfl (Nat.le_of_ble_eq_true rfl) dX0_bringBack_88 ⟨Nat.le_of_ble_eq_true rfl, Nat.le_of_ble_eq_true rfl⟩ (fun _ _ H locs z24 hP hD hS => ?_)
    have z24 := z24.symm
    subst z24
    have hP : va_P G vwCl (wX cA xa ka ra na ia ua va ca za pa qa X K R P L P2 L2 Tn_22 Ti Tu Tv C_3 Z q0 q1 q2 q3 q4 q5) H := hP
    have hD : va_D A (wX cA xa ka ra na ia ua va ca za pa qa X K R P L P2 L2 Tn_22 Ti Tu Tv C_3 Z q0 q1 q2 q3 q4 q5) := hD
    refine lv_pop hx hb dX0_bringBack_91 rfl ?_
    obtain ⟨rfl, rfl⟩ := tx_2 h
    exact W.vret hx hb hr (fun t ht hW => ⟨⟨(), rfl, trivial, by rw [ht]; exact hP, hD⟩, hS.F ht⟩) hS.2.2 dX0_bringBack_92
  · replace h := tx_pos c1 h
    obtain ⟨rfl, rfl⟩ := tx_2 h
    exact W.vret hx hb hr (fun t ht hW => ⟨⟨(), rfl, trivial, by rw [ht]; exact hP, hD⟩, hS.F ht⟩) hS.2.2 dX0_bringBack_7
abbrev G_X7_undo (p : Program) (l : Launch) (e : Env) (s : State) (m : MethodId) (below : List Frame) (meth : Method) (c : Code) (G : va_G) (cA : Nat → ClassId) (A : Nat → Prop) (xa : Nat → Nat) (ka : Nat → Nat) (ra : Nat → Nat) (na : Nat → Nat) (ia : Nat → Nat) (ua : Nat → Nat) (va : Nat → Nat) (ca : Nat → Nat) (za : Nat → Nat) (pa : Nat → Nat) (qa : Nat → Nat) (X : Tr) (K : Tr) (R : Tr) (P : Tr) (L : Lo) (P2 : Tr) (L2 : Lo) (Ti : Tr) (Tu : Tr) (Tv : Tr) (Z : Tr) (q0 : Nat) (q1 : Nat) (q2 : Nat) (q3 : Nat) (q4 : Nat) (q5 : Nat) (r0 : Int32) (Tn' : Tr) (C' : Tr) (H : Heap) (locs : List Loc) (g : JFrame) : Prop := W p l e (headSpec (.code yX7_undo cX7_undo 1 (some .int) :: T0) ({ frames := 3, cells := 0, slots := 0, locals := 84 } : Room)).room s m ([.ref (xa 0)] : List Value).toArray below meth c H locs 0 0 (MQ below (tqQi G cA (fun (r : Int32) (_ : Unit) => r = r0) (fun (_ : Unit) => wX cA xa ka ra na ia ua va ca za pa qa X K R P L P2 L2 (Tn') Ti Tu Tv (C') Z q0 q1 q2 q3 q4 q5) A) ([.ref (xa 0)] : List Value).toArray s 0 0 A) g
set_option maxHeartbeats 4000000 in
set_option maxRecDepth 100000 in
theorem c_X7_undo (l : Launch) (G : va_G) (cA : Nat → ClassId) (sz : Nat) (xa : Nat → Nat) (ka : Nat → Nat) (ra : Nat → Nat) (na : Nat → Nat) (ia : Nat → Nat) (ua : Nat → Nat) (va : Nat → Nat) (ca : Nat → Nat) (za : Nat → Nat) (pa : Nat → Nat) (qa : Nat → Nat) (X : Tr) (K : Tr) (R : Tr) (P : Tr) (L : Lo) (P2 : Tr) (L2 : Lo) (Tn : Tr) (Ti : Tr) (Tu : Tr) (Tv : Tr) (C : Tr) (Z : Tr) (q0 : Nat) (q1 : Nat) (q2 : Nat) (q3 : Nat) (q4 : Nat) (q5 : Nat)  (r0 : Int32) (Tn' : Tr) (C' : Tr) (h : f_X7_undo pa qa Tn C = some (r0, Tn', C')) : Met l yX7_undo (.code yX7_undo cX7_undo 1 (some .int) :: T0) ({ frames := 3, cells := 0, slots := 0, locals := 84 } : Room) (tqP G cA [.ref (xa 0)] (wX cA xa ka ra na ia ua va ca za pa qa X K R P L P2 L2 Tn Ti Tu Tv C Z q0 q1 q2 q3 q4 q5) sz) (tqQi G cA (fun (r : Int32) (_ : Unit) => r = r0) (fun (_ : Unit) => wX cA xa ka ra na ia ua va ca za pa qa X K R P L P2 L2 (Tn') Ti Tu Tv (C') Z q0 q1 q2 q3 q4 q5) (va_A (wX cA xa ka ra na ia ua va ca za pa qa X K R P L P2 L2 Tn Ti Tu Tv C Z q0 q1 q2 q3 q4 q5) sz)) 0 0 (va_A (wX cA xa ka ra na ia ua va ca za pa qa X K R P L P2 L2 Tn Ti Tu Tv C Z q0 q1 q2 q3 q4 q5) sz) := by
  refine Met.ofW (cc := cX7_undo) (maxL := 1) (ret := (some .int)) (by decide) rfl ?_
  intro p e s m args below meth c s₁ B hml hv
  obtain ⟨rfl, hsz, hP, hK, hD0, hN⟩ := hv
  have hx := B.exec
  have hb := B.bytes
  have hr := B.returns
  have hts := atoms_spec (ws := .code yX7_undo cX7_undo 1 (some .int) :: T0) B.pre
  have hT : ∀ w ∈ T0, w.before _ s = true := fun w h => hts w (List.mem_cons_of_mem _ h)
  have hown : s.vm.findClass RX7 = some m.cls := findClass_of_methodNamed B.named
  have hlocks := B.notSynchronized
  subst hsz
  have hD := hD0.self (sz := s.heap.size)
  generalize hAe : va_A (wX cA xa ka ra na ia ua va ca za pa qa X K R P L P2 L2 Tn Ti Tu Tv C Z q0 q1 q2 q3 q4 q5) s.heap.size = A at hD ⊢
  have hA : ∀ q : Nat, s.heap.size ≤ q → A q := fun q h => by rw [← hAe]; exact Or.inr h
  have hS : va_S A s.heap s.heap [] := va_S.rf
  have hl := lv_entry ([.ref (xa 0)]) (n := 1) (Nat.le_of_ble_eq_true rfl)
  rw [lg_entry_eq]
  generalize (lg_sl ([.ref (xa 0)]) ++ List.replicate (1 - (lg_sl ([.ref (xa 0)])).length) Slot.unset).toArray = ls at hl ⊢
  have hl : lv_has ls 1 [(0, .ref (xa 0))] := hl
  have F : tF p s m ([.ref (xa 0)] : List Value).toArray meth c G cA A RX7 cX7_undo 1 (some .int) := ⟨hx, hb, hr, hml, hT, hown, hlocks, hK, hN, hA⟩
  obtain ⟨H, hH⟩ : ∃ z, z = s.heap := ⟨_, rfl⟩
  rw [← hH] at hP
  have hS : va_S A s.heap H [] := by rw [hH]; exact hS
  suffices hgo : G_X7_undo p l e s m below meth c G cA A xa ka ra na ia ua va ca za pa qa X K R P L P2 L2 Ti Tu Tv Z q0 q1 q2 q3 q4 q5 r0 Tn' C' H [] (F0 m 0 ls []) by rw [hH] at hgo; exact hgo
  generalize ([] : List Loc) = locs at hS ⊢
  unfold f_X7_undo at h
  refine lv_aload_n hx hb dX7_undo_0 rfl (lv_at hl 0 rfl) ?_
  refine va_get (D := G) (ci := 7) (v := .ref (ca 0)) (C := RX7) (T := TX7) (N := 12) hx hb hT ku_7 hown hK hP 0 rfl rfl 7 (by decide) (hT _ kw_2_8) (fun _ h9 => h9) rfl dX7_undo_1 ?_
  refine va_get (D := G) (ci := 0) (v := .int (C 0 0)) (C := RX0) (T := TX0) (N := 3) hx hb hT ku_0 hown hK hP 101 rfl rfl 0 (by decide) (hT _ kw_14_7) (fun _ h9 => h9) rfl dX7_undo_4 ?_
  refine lv_if_ne (tgt := 12) hx hb dX7_undo_7 (by decide) (fun c1 => ?_) (fun c1 => ?_)
  · replace h := tx_neg c1 h
    refine lv_aload_n hx hb dX7_undo_12 rfl (lv_at hl 0 rfl) ?_
    refine va_get (D := G) (ci := 7) (v := .ref (ca 0)) (C := RX7) (T := TX7) (N := 12) hx hb hT ku_7 hown hK hP 0 rfl rfl 7 (by decide) (hT _ kw_2_8) (fun _ h9 => h9) rfl dX7_undo_13 ?_
    refine lv_aload_n hx hb dX7_undo_16 rfl (lv_at hl 0 rfl) ?_
    refine va_get (D := G) (ci := 7) (v := .ref (na 0)) (C := RX7) (T := TX7) (N := 12) hx hb hT ku_7 hown hK hP 0 rfl rfl 2 (by decide) (hT _ kw_2_0) (fun _ h9 => h9) rfl dX7_undo_17 ?_
    replace h := tx_bd h
    obtain ⟨⟨Tn_2, C_3⟩, hc4, h⟩ := h
    replace h := tx_let (y := Tn_2) rfl h
    replace h := tx_let (y := C_3) rfl h
    refine tz_v (As := [.ref (na 0)]) (rest := []) ⟨hx, hb, hml, hown, hT⟩ hP hD hS hA hK hN (c_X0_bringBack_x_na0 l G cA H.size xa ka ra na ia ua va ca za pa qa X K R P L P2 L2 Tn Ti Tu Tv C Z q0 q1 q2 q3 q4 q5  Tn_2 C_3 hc4) (tq_gV kw_58_4 kw_58_5 kw_58_6 kw_2_7 kw_58_7) rfl rfl dkdV_yX0_bringBack_1 (Nat.le_of_ble_eq_true rfl) (Nat.le_of_ble_eq_true rfl) (ci := 0) (q0 := 101) rfl rfl rfl hl.1 rfl (Nat.le_of_ble_eq_true rfl) dX7_undo_20 ⟨Nat.le_of_ble_eq_true rfl, Nat.le_of_ble_eq_true rfl⟩ (fun _ H locs z5 hP hD hS => ?_)
    have hP : va_P G vwCl (wX cA xa ka ra na ia ua va ca za pa qa X K R P L P2 L2 Tn_2 Ti Tu Tv C_3 Z q0 q1 q2 q3 q4 q5) H := hP
    have hD : va_D A (wX cA xa ka ra na ia ua va ca za pa qa X K R P L P2 L2 Tn_2 Ti Tu Tv C_3 Z q0 q1 q2 q3 q4 q5) := hD
    refine lv_aload_n hx hb dX7_undo_23 rfl (lv_at hl 0 rfl) ?_
    refine va_get (D := G) (ci := 7) (v := .ref (ca 0)) (C := RX7) (T := TX7) (N := 12) hx hb hT ku_7 hown hK hP 0 rfl rfl 7 (by decide) (hT _ kw_2_8) (fun _ h9 => h9) rfl dX7_undo_24 ?_
    refine va_get (D := G) (ci := 0) (v := .int (C_3 0 0)) (C := RX0) (T := TX0) (N := 3) hx hb hT ku_0 hown hK hP 101 rfl rfl 0 (by decide) (hT _ kw_14_7) (fun _ h9 => h9) rfl dX7_undo_27 ?_
    obtain ⟨rfl, rfl, rfl⟩ := tx_3 h
    exact W.iret hx hb hr (fun t ht hW => ⟨⟨_, (), rfl, rfl, by rw [ht]; exact hP, hD⟩, hS.F ht⟩) hS.2.2 dX7_undo_30
  · replace h := tx_pos c1 h
    refine lv_iconst (v := (-1)) hx hb dX7_undo_10 (by decide) ?_
    obtain ⟨rfl, rfl, rfl⟩ := tx_3 h
    exact W.iret hx hb hr (fun t ht hW => ⟨⟨_, (), rfl, rfl, by rw [ht]; exact hP, hD⟩, hS.F ht⟩) hS.2.2 dX7_undo_11
abbrev G_X7_waits (p : Program) (l : Launch) (e : Env) (s : State) (m : MethodId) (below : List Frame) (meth : Method) (c : Code) (G : va_G) (cA : Nat → ClassId) (A : Nat → Prop) (xa : Nat → Nat) (ka : Nat → Nat) (ra : Nat → Nat) (na : Nat → Nat) (ia : Nat → Nat) (ua : Nat → Nat) (va : Nat → Nat) (ca : Nat → Nat) (za : Nat → Nat) (pa : Nat → Nat) (qa : Nat → Nat) (X : Tr) (K : Tr) (R : Tr) (P : Tr) (L : Lo) (P2 : Tr) (L2 : Lo) (Tn : Tr) (Ti : Tr) (Tu : Tr) (Tv : Tr) (C : Tr) (Z : Tr) (q0 : Nat) (q1 : Nat) (q2 : Nat) (q3 : Nat) (q4 : Nat) (q5 : Nat) (x1 : Int32) (r0 : Int32) (H : Heap) (locs : List Loc) (g : JFrame) : Prop := W p l e (headSpec (.code yX7_waits cX7_waits 2 (some .int) :: T0) ({ frames := 0, cells := 0, slots := 0, locals := 0 } : Room)).room s m ([.ref (xa 0), .int x1] : List Value).toArray below meth c H locs 0 0 (MQ below (tqQi G cA (fun (r : Int32) (_ : Unit) => r = r0) (fun (_ : Unit) => wX cA xa ka ra na ia ua va ca za pa qa X K R P L P2 L2 Tn Ti Tu Tv C Z q0 q1 q2 q3 q4 q5) A) ([.ref (xa 0), .int x1] : List Value).toArray s 0 0 A) g
set_option maxHeartbeats 4000000 in
set_option maxRecDepth 100000 in
theorem c_X7_waits (l : Launch) (G : va_G) (cA : Nat → ClassId) (sz : Nat) (xa : Nat → Nat) (ka : Nat → Nat) (ra : Nat → Nat) (na : Nat → Nat) (ia : Nat → Nat) (ua : Nat → Nat) (va : Nat → Nat) (ca : Nat → Nat) (za : Nat → Nat) (pa : Nat → Nat) (qa : Nat → Nat) (X : Tr) (K : Tr) (R : Tr) (P : Tr) (L : Lo) (P2 : Tr) (L2 : Lo) (Tn : Tr) (Ti : Tr) (Tu : Tr) (Tv : Tr) (C : Tr) (Z : Tr) (q0 : Nat) (q1 : Nat) (q2 : Nat) (q3 : Nat) (q4 : Nat) (q5 : Nat) (x1 : Int32)  (r0 : Int32) (h : f_X7_waits pa qa P q4 x1 = some r0) : Met l yX7_waits (.code yX7_waits cX7_waits 2 (some .int) :: T0) ({ frames := 0, cells := 0, slots := 0, locals := 0 } : Room) (tqP G cA [.ref (xa 0), .int x1] (wX cA xa ka ra na ia ua va ca za pa qa X K R P L P2 L2 Tn Ti Tu Tv C Z q0 q1 q2 q3 q4 q5) sz) (tqQi G cA (fun (r : Int32) (_ : Unit) => r = r0) (fun (_ : Unit) => wX cA xa ka ra na ia ua va ca za pa qa X K R P L P2 L2 Tn Ti Tu Tv C Z q0 q1 q2 q3 q4 q5) (va_A (wX cA xa ka ra na ia ua va ca za pa qa X K R P L P2 L2 Tn Ti Tu Tv C Z q0 q1 q2 q3 q4 q5) sz)) 0 0 (va_A (wX cA xa ka ra na ia ua va ca za pa qa X K R P L P2 L2 Tn Ti Tu Tv C Z q0 q1 q2 q3 q4 q5) sz) := by
  refine Met.ofW (cc := cX7_waits) (maxL := 2) (ret := (some .int)) (by decide) rfl ?_
  intro p e s m args below meth c s₁ B hml hv
  obtain ⟨rfl, hsz, hP, hK, hD0, hN⟩ := hv
  have hx := B.exec
  have hb := B.bytes
  have hr := B.returns
  have hts := atoms_spec (ws := .code yX7_waits cX7_waits 2 (some .int) :: T0) B.pre
  have hT : ∀ w ∈ T0, w.before _ s = true := fun w h => hts w (List.mem_cons_of_mem _ h)
  have hown : s.vm.findClass RX7 = some m.cls := findClass_of_methodNamed B.named
  have hlocks := B.notSynchronized
  subst hsz
  have hD := hD0.self (sz := s.heap.size)
  generalize hAe : va_A (wX cA xa ka ra na ia ua va ca za pa qa X K R P L P2 L2 Tn Ti Tu Tv C Z q0 q1 q2 q3 q4 q5) s.heap.size = A at hD ⊢
  have hA : ∀ q : Nat, s.heap.size ≤ q → A q := fun q h => by rw [← hAe]; exact Or.inr h
  have hS : va_S A s.heap s.heap [] := va_S.rf
  have hl := lv_entry ([.ref (xa 0), .int x1]) (n := 2) (Nat.le_of_ble_eq_true rfl)
  rw [lg_entry_eq]
  generalize (lg_sl ([.ref (xa 0), .int x1]) ++ List.replicate (2 - (lg_sl ([.ref (xa 0), .int x1])).length) Slot.unset).toArray = ls at hl ⊢
  have hl : lv_has ls 2 [(0, .ref (xa 0)), (1, .int x1)] := hl
  have F : tF p s m ([.ref (xa 0), .int x1] : List Value).toArray meth c G cA A RX7 cX7_waits 2 (some .int) := ⟨hx, hb, hr, hml, hT, hown, hlocks, hK, hN, hA⟩
  obtain ⟨H, hH⟩ : ∃ z, z = s.heap := ⟨_, rfl⟩
  rw [← hH] at hP
  have hS : va_S A s.heap H [] := by rw [hH]; exact hS
  suffices hgo : G_X7_waits p l e s m below meth c G cA A xa ka ra na ia ua va ca za pa qa X K R P L P2 L2 Tn Ti Tu Tv C Z q0 q1 q2 q3 q4 q5 x1 r0 H [] (F0 m 0 ls []) by rw [hH] at hgo; exact hgo
  generalize ([] : List Loc) = locs at hS ⊢
  unfold f_X7_waits at h
  refine lv_iload_n hx hb dX7_waits_0 rfl (lv_at hl 1 rfl) ?_
  refine lv_if_lt (tgt := 10) hx hb dX7_waits_1 (by decide) (fun c1 => ?_) (fun c1 => ?_)
  · replace h := tx_pos c1 h
    refine lv_iconst (v := (-1)) hx hb dX7_waits_10 (by decide) ?_
    refine lv_goto (tgt := 23) hx hb dX7_waits_11 (by decide) ?_
    obtain rfl := tx_1 h
    exact W.iret hx hb hr (fun t ht hW => ⟨⟨_, (), rfl, rfl, by rw [ht]; exact hP, hD⟩, hS.F ht⟩) hS.2.2 dX7_waits_23
  · replace h := tx_neg c1 h
    refine lv_iload_n hx hb dX7_waits_4 rfl (lv_at hl 1 rfl) ?_
    refine lv_bipush (v := 20) hx hb dX7_waits_5 (by decide) ?_
    refine lv_icmp_le (tgt := 14) hx hb dX7_waits_7 (by decide) (fun c2 => ?_) (fun c2 => ?_)
    · replace h := tx_pos c2 h
      refine lv_aload_n hx hb dX7_waits_14 rfl (lv_at hl 0 rfl) ?_
      refine va_get (D := G) (ci := 7) (v := .ref q4) (C := RX7) (T := TX7) (N := 12) hx hb hT ku_7 hown hK hP 0 rfl rfl 1 (by decide) (hT _ kw_1_20) (fun _ h9 => h9) rfl dX7_waits_15 ?_
      replace h := tx_ck h
      obtain ⟨g3, h⟩ := h
      have eg3 := of_decide_eq_true g3
      subst eg3
      refine va_get (D := G) (ci := 2) (v := .ref (pa 18)) (C := RX2) (T := TX2) (N := 19) hx hb hT ku_2 hown hK hP 9 rfl rfl 17 (by decide) (hT _ kw_32_23) (fun _ h9 => h9) rfl dX7_waits_18 ?_
      refine lv_iload_n hx hb dX7_waits_21 rfl (lv_at hl 1 rfl) ?_
      replace h := tx_ck h
      obtain ⟨g4, h⟩ := h
      refine va_iald (i := x1) hx hb hK hP 20 0 rfl rfl (tx_in g4) dX7_waits_22 ?_
      obtain rfl := tx_1 h
      exact W.iret hx hb hr (fun t ht hW => ⟨⟨_, (), rfl, rfl, by rw [ht]; exact hP, hD⟩, hS.F ht⟩) hS.2.2 dX7_waits_23
    · replace h := tx_neg c2 h
      refine lv_iconst (v := (-1)) hx hb dX7_waits_10 (by decide) ?_
      refine lv_goto (tgt := 23) hx hb dX7_waits_11 (by decide) ?_
      obtain rfl := tx_1 h
      exact W.iret hx hb hr (fun t ht hW => ⟨⟨_, (), rfl, rfl, by rw [ht]; exact hP, hD⟩, hS.F ht⟩) hS.2.2 dX7_waits_23
abbrev G_X7_when (p : Program) (l : Launch) (e : Env) (s : State) (m : MethodId) (below : List Frame) (meth : Method) (c : Code) (G : va_G) (cA : Nat → ClassId) (A : Nat → Prop) (xa : Nat → Nat) (ka : Nat → Nat) (ra : Nat → Nat) (na : Nat → Nat) (ia : Nat → Nat) (ua : Nat → Nat) (va : Nat → Nat) (ca : Nat → Nat) (za : Nat → Nat) (pa : Nat → Nat) (qa : Nat → Nat) (X : Tr) (K : Tr) (R : Tr) (P : Tr) (P2 : Tr) (L2 : Lo) (Tn : Tr) (Ti : Tr) (C : Tr) (Z : Tr) (q0 : Nat) (q1 : Nat) (q4 : Nat) (q5 : Nat) (x1 : Int32) (x2 : Int32) (r0 : Int32) (L' : Lo) (Tu' : Tr) (Tv' : Tr) (q2' : Nat) (q3' : Nat) (H : Heap) (locs : List Loc) (g : JFrame) : Prop := W p l e (headSpec (.code yX7_when cX7_when 8 (some .int) :: T0) ({ frames := 7, cells := 0, slots := 0, locals := 173 } : Room)).room s m ([.ref (xa 0), .int x1, .int x2] : List Value).toArray below meth c H locs 0 0 (MQ below (tqQi G cA (fun (r : Int32) (_ : Unit) => r = r0) (fun (_ : Unit) => wX cA xa ka ra na ia ua va ca za pa qa X K R P (L') P2 L2 Tn Ti (Tu') (Tv') C Z q0 q1 (q2') (q3') q4 q5) A) ([.ref (xa 0), .int x1, .int x2] : List Value).toArray s 0 0 A) g
set_option maxHeartbeats 4000000 in
set_option maxRecDepth 100000 in
theorem w_X7_when_J132 {p : Program} {l : Launch} {e : Env} {s : State} {m : MethodId} {below : List Frame} {meth : Method} {c : Code} {G : va_G} {cA : Nat → ClassId} {A : Nat → Prop} {xa : Nat → Nat} {ka : Nat → Nat} {ra : Nat → Nat} {na : Nat → Nat} {ia : Nat → Nat} {ua : Nat → Nat} {va : Nat → Nat} {ca : Nat → Nat} {za : Nat → Nat} {pa : Nat → Nat} {qa : Nat → Nat} {X : Tr} {K : Tr} {R : Tr} {P : Tr} {P2 : Tr} {L2 : Lo} {Tn : Tr} {Ti : Tr} {C : Tr} {Z : Tr} {q0 : Nat} {q1 : Nat} {q4 : Nat} {q5 : Nat} {x1₀ : Int32} {x2₀ : Int32} {r0 : Int32} {L' : Lo} {Tu' : Tr} {Tv' : Tr} {q2' : Nat} {q3' : Nat} {q3 : Nat} {x1 : Int32} {x2 : Int32} (F : tF p s m ([.ref (xa 0), .int x1₀, .int x2₀] : List Value).toArray meth c G cA A RX7 cX7_when 8 (some .int))  (k55 : Int32 → Int32 → Int32 → Lo → Tr → Tr → Nat → Option (Int32 × Lo × Tr × Tr × Nat × Nat)) (hk55 : ∀ (x4 : Int32) (x5 : Int32) (x6 : Int32) (L : Lo) (Tu : Tr) (Tv : Tr) (q2 : Nat) (H : Heap) (locs : List Loc) (ls : Array Slot), k55 x4 x5 x6 L Tu Tv q2 = some (r0, L', Tu', Tv', q2', q3') → va_P G vwCl (wX cA xa ka ra na ia ua va ca za pa qa X K R P L P2 L2 Tn Ti Tu Tv C Z q0 q1 q2 q3 q4 q5) H → va_D A (wX cA xa ka ra na ia ua va ca za pa qa X K R P L P2 L2 Tn Ti Tu Tv C Z q0 q1 q2 q3 q4 q5) → va_S A s.heap H locs → lv_has ls 8 [(0, .ref (xa 0)), (1, .int x1), (2, .int x2), (4, .int x4), (5, .int x5), (6, .int x6)] → G_X7_when p l e s m below meth c G cA A xa ka ra na ia ua va ca za pa qa X K R P P2 L2 Tn Ti C Z q0 q1 q4 q5 x1₀ x2₀ r0 L' Tu' Tv' q2' q3' H locs (F0 m 55 ls [])) (x4 : Int32) (x5 : Int32) (x6 : Int32) (L : Lo) (Tu : Tr) (Tv : Tr) (q2 : Nat) (H : Heap) (locs : List Loc) (ls : Array Slot) (h : fJ_X7_when_J132 k55 pa qa P Tn q0 q3 q4 x1 x2 x4 x5 x6 L Tu Tv q2 = some (r0, L', Tu', Tv', q2', q3')) (hP : va_P G vwCl (wX cA xa ka ra na ia ua va ca za pa qa X K R P L P2 L2 Tn Ti Tu Tv C Z q0 q1 q2 q3 q4 q5) H) (hD : va_D A (wX cA xa ka ra na ia ua va ca za pa qa X K R P L P2 L2 Tn Ti Tu Tv C Z q0 q1 q2 q3 q4 q5)) (hS : va_S A s.heap H locs) (hl : lv_has ls 8 [(0, .ref (xa 0)), (1, .int x1), (2, .int x2), (4, .int x4), (5, .int x5), (6, .int x6)]) : G_X7_when p l e s m below meth c G cA A xa ka ra na ia ua va ca za pa qa X K R P P2 L2 Tn Ti C Z q0 q1 q4 q5 x1₀ x2₀ r0 L' Tu' Tv' q2' q3' H locs (F0 m 132 ls []) := by
  obtain ⟨hx, hb, hr, hml, hT, hown, hlocks, hK, hN, hA⟩ := id F
  unfold fJ_X7_when_J132 at h
  refine lv_aload_n hx hb dX7_when_132 rfl (lv_at hl 0 rfl) ?_
  refine va_get (D := G) (ci := 7) (v := .ref (va 0)) (C := RX7) (T := TX7) (N := 12) hx hb hT ku_7 hown hK hP 0 rfl rfl 6 (by decide) (hT _ kw_2_4) (fun _ h9 => h9) rfl dX7_when_133 ?_
  replace h := tx_ck h
  obtain ⟨g38, h⟩ := h
  have eg38 := of_decide_eq_true g38
  subst eg38
  replace h := tx_bd h
  obtain ⟨⟨Tv_39, L_40⟩, hc41, h⟩ := h
  replace h := tx_let (y := Tv_39) rfl h
  replace h := tx_let (y := L_40) rfl h
  refine tw_cv pX_va hP hD hS hA (va_runV (As := []) (rest := []) ⟨hx, hb, hml, hown, hT⟩ (c_X6_passStop l G cA H.size va pa Tv P L  Tv_39 L_40 hc41) (cwV 0 hT (tq_gV kw_40_7 kw_40_8 kw_40_9 kw_1_23 kw_40_10) rfl rfl rfl dkdV_yX6_passStop_0 ⟨Nat.le_of_ble_eq_true rfl, Nat.le_of_ble_eq_true rfl⟩) ⟨(tw_pre pX_va hP hD hK hN).1, va_recv hK hP (ci := 6) (q0 := 89) rfl rfl, (tw_pre pX_va hP hD hK hN).2⟩ rfl rfl hl.1 rfl (lv_room (Nat.le_of_ble_eq_true rfl)) dX7_when_136 ⟨Nat.le_of_ble_eq_true rfl, Nat.le_of_ble_eq_true rfl⟩) (fun _ H locs z42 hP hD hS => ?_)
  replace hP := tw_P pX_va.symm hP
  replace hD := tw_D pX_va.symm hD
  have hP : va_P G vwCl (wX cA xa ka ra na ia ua va ca za pa qa X K R P L_40 P2 L2 Tn Ti Tu Tv_39 C Z q0 q1 q2 (pa 0) q4 q5) H := hP
  have hD : va_D A (wX cA xa ka ra na ia ua va ca za pa qa X K R P L_40 P2 L2 Tn Ti Tu Tv_39 C Z q0 q1 q2 (pa 0) q4 q5) := hD
  replace h := tx_lt h
  obtain ⟨y43, ey43, h⟩ := h
  refine lv_iinc (v := y43) (lv' := [(6, .int y43), (0, .ref (xa 0)), (1, .int x1), (2, .int x2), (4, .int x4), (5, .int x5)]) hx hb dX7_when_139 hl (k := 5) rfl ey43 (by decide) rfl (fun ls hl => ?_)
  refine lv_goto (tgt := 55) hx hb dX7_when_142 (by decide) ?_
  exact hk55 x4 x5 y43 L_40 Tu Tv_39 q2 H locs ls h hP hD hS (lv_sub hl [1, 2, 3, 4, 5, 0] rfl)
set_option maxHeartbeats 4000000 in
set_option maxRecDepth 100000 in
theorem w_X7_when_J130 {p : Program} {l : Launch} {e : Env} {s : State} {m : MethodId} {below : List Frame} {meth : Method} {c : Code} {G : va_G} {cA : Nat → ClassId} {A : Nat → Prop} {xa : Nat → Nat} {ka : Nat → Nat} {ra : Nat → Nat} {na : Nat → Nat} {ia : Nat → Nat} {ua : Nat → Nat} {va : Nat → Nat} {ca : Nat → Nat} {za : Nat → Nat} {pa : Nat → Nat} {qa : Nat → Nat} {X : Tr} {K : Tr} {R : Tr} {P : Tr} {P2 : Tr} {L2 : Lo} {Tn : Tr} {Ti : Tr} {C : Tr} {Z : Tr} {q0 : Nat} {q1 : Nat} {q4 : Nat} {q5 : Nat} {x1₀ : Int32} {x2₀ : Int32} {r0 : Int32} {L' : Lo} {Tu' : Tr} {Tv' : Tr} {q2' : Nat} {q3' : Nat} {q3 : Nat} {x1 : Int32} {x2 : Int32} (F : tF p s m ([.ref (xa 0), .int x1₀, .int x2₀] : List Value).toArray meth c G cA A RX7 cX7_when 8 (some .int))  (k55 : Int32 → Int32 → Int32 → Lo → Tr → Tr → Nat → Option (Int32 × Lo × Tr × Tr × Nat × Nat)) (hk55 : ∀ (x4 : Int32) (x5 : Int32) (x6 : Int32) (L : Lo) (Tu : Tr) (Tv : Tr) (q2 : Nat) (H : Heap) (locs : List Loc) (ls : Array Slot), k55 x4 x5 x6 L Tu Tv q2 = some (r0, L', Tu', Tv', q2', q3') → va_P G vwCl (wX cA xa ka ra na ia ua va ca za pa qa X K R P L P2 L2 Tn Ti Tu Tv C Z q0 q1 q2 q3 q4 q5) H → va_D A (wX cA xa ka ra na ia ua va ca za pa qa X K R P L P2 L2 Tn Ti Tu Tv C Z q0 q1 q2 q3 q4 q5) → va_S A s.heap H locs → lv_has ls 8 [(0, .ref (xa 0)), (1, .int x1), (2, .int x2), (4, .int x4), (5, .int x5), (6, .int x6)] → G_X7_when p l e s m below meth c G cA A xa ka ra na ia ua va ca za pa qa X K R P P2 L2 Tn Ti C Z q0 q1 q4 q5 x1₀ x2₀ r0 L' Tu' Tv' q2' q3' H locs (F0 m 55 ls [])) (x4 : Int32) (x6 : Int32) (s0 : Int32) (L : Lo) (Tu : Tr) (Tv : Tr) (q2 : Nat) (H : Heap) (locs : List Loc) (ls : Array Slot) (h : fJ_X7_when_J130 k55 pa qa P Tn q0 q3 q4 x1 x2 x4 x6 s0 L Tu Tv q2 = some (r0, L', Tu', Tv', q2', q3')) (hP : va_P G vwCl (wX cA xa ka ra na ia ua va ca za pa qa X K R P L P2 L2 Tn Ti Tu Tv C Z q0 q1 q2 q3 q4 q5) H) (hD : va_D A (wX cA xa ka ra na ia ua va ca za pa qa X K R P L P2 L2 Tn Ti Tu Tv C Z q0 q1 q2 q3 q4 q5)) (hS : va_S A s.heap H locs) (hl : lv_has ls 8 [(0, .ref (xa 0)), (1, .int x1), (2, .int x2), (4, .int x4), (6, .int x6)]) : G_X7_when p l e s m below meth c G cA A xa ka ra na ia ua va ca za pa qa X K R P P2 L2 Tn Ti C Z q0 q1 q4 q5 x1₀ x2₀ r0 L' Tu' Tv' q2' q3' H locs (F0 m 130 ls [.int s0]) := by
  obtain ⟨hx, hb, hr, hml, hT, hown, hlocks, hK, hN, hA⟩ := id F
  unfold fJ_X7_when_J130 at h
  refine lv_istore (lv' := [(5, .int s0), (0, .ref (xa 0)), (1, .int x1), (2, .int x2), (4, .int x4), (6, .int x6)]) hx hb dX7_when_130 hl (by decide) rfl (fun ls hl => ?_)
  exact w_X7_when_J132 F k55 hk55 x4 s0 x6 L Tu Tv q2 H locs ls h hP hD hS (lv_sub hl [1, 2, 3, 4, 0, 5] rfl)
set_option maxHeartbeats 4000000 in
set_option maxRecDepth 100000 in
theorem w_X7_when_L55 {p : Program} {l : Launch} {e : Env} {s : State} {m : MethodId} {below : List Frame} {meth : Method} {c : Code} {G : va_G} {cA : Nat → ClassId} {A : Nat → Prop} {xa : Nat → Nat} {ka : Nat → Nat} {ra : Nat → Nat} {na : Nat → Nat} {ia : Nat → Nat} {ua : Nat → Nat} {va : Nat → Nat} {ca : Nat → Nat} {za : Nat → Nat} {pa : Nat → Nat} {qa : Nat → Nat} {X : Tr} {K : Tr} {R : Tr} {P : Tr} {P2 : Tr} {L2 : Lo} {Tn : Tr} {Ti : Tr} {C : Tr} {Z : Tr} {q0 : Nat} {q1 : Nat} {q4 : Nat} {q5 : Nat} {x1₀ : Int32} {x2₀ : Int32} {r0 : Int32} {L' : Lo} {Tu' : Tr} {Tv' : Tr} {q2' : Nat} {q3' : Nat} {q3 : Nat} {x1 : Int32} {x2 : Int32} (F : tF p s m ([.ref (xa 0), .int x1₀, .int x2₀] : List Value).toArray meth c G cA A RX7 cX7_when 8 (some .int))    (N : Nat) : ∀ (x4 : Int32) (x5 : Int32) (x6 : Int32) (L : Lo) (Tu : Tr) (Tv : Tr) (q2 : Nat) (H : Heap) (locs : List Loc) (ls : Array Slot), lpF (fun _ _ _ _ _ _ _ => none) (fB_X7_when_L55 pa qa P Tn q0 q3 q4 x1 x2) N x4 x5 x6 L Tu Tv q2 = some (r0, L', Tu', Tv', q2', q3') → va_P G vwCl (wX cA xa ka ra na ia ua va ca za pa qa X K R P L P2 L2 Tn Ti Tu Tv C Z q0 q1 q2 q3 q4 q5) H → va_D A (wX cA xa ka ra na ia ua va ca za pa qa X K R P L P2 L2 Tn Ti Tu Tv C Z q0 q1 q2 q3 q4 q5) → va_S A s.heap H locs → lv_has ls 8 [(0, .ref (xa 0)), (1, .int x1), (2, .int x2), (4, .int x4), (5, .int x5), (6, .int x6)] → G_X7_when p l e s m below meth c G cA A xa ka ra na ia ua va ca za pa qa X K R P P2 L2 Tn Ti C Z q0 q1 q4 q5 x1₀ x2₀ r0 L' Tu' Tv' q2' q3' H locs (F0 m 55 ls []) := by
  obtain ⟨hx, hb, hr, hml, hT, hown, hlocks, hK, hN, hA⟩ := id F
  induction N with
  | zero =>
    intro x4 x5 x6 L Tu Tv q2 H locs ls h
    replace h : (none : Option (Int32 × Lo × Tr × Tr × Nat × Nat)) = some (r0, L', Tu', Tv', q2', q3') := h
    cases h
  | succ N hk55 =>
    intro x4 x5 x6 L Tu Tv q2 H locs ls h hP hD hS hl
    replace h : fB_X7_when_L55 pa qa P Tn q0 q3 q4 x1 x2 (lpF (fun _ _ _ _ _ _ _ => none) (fB_X7_when_L55 pa qa P Tn q0 q3 q4 x1 x2) N) x4 x5 x6 L Tu Tv q2 = some (r0, L', Tu', Tv', q2', q3') := h
    generalize hk55e : lpF (fun _ _ _ _ _ _ _ => none) (fB_X7_when_L55 pa qa P Tn q0 q3 q4 x1 x2) N = k55 at h hk55
    unfold fB_X7_when_L55 at h
    refine lv_iload hx hb dX7_when_55 (lv_at hl 5 rfl) ?_
    refine lv_bipush (v := 20) hx hb dX7_when_57 (by decide) ?_
    refine lv_icmp_ge (tgt := 145) hx hb dX7_when_59 (by decide) (fun c21 => ?_) (fun c21 => ?_)
    · replace h := tx_pos c21 h
      refine lv_iload hx hb dX7_when_145 (lv_at hl 4 rfl) ?_
      obtain ⟨rfl, rfl, rfl, rfl, rfl, rfl⟩ := tx_6 h
      exact W.iret hx hb hr (fun t ht hW => ⟨⟨_, (), rfl, rfl, by rw [ht]; exact hP, hD⟩, hS.F ht⟩) hS.2.2 dX7_when_147
    · replace h := tx_neg c21 h
      refine lv_aload_n hx hb dX7_when_62 rfl (lv_at hl 0 rfl) ?_
      refine va_get (D := G) (ci := 7) (v := .ref (ua 0)) (C := RX7) (T := TX7) (N := 12) hx hb hT ku_7 hown hK hP 0 rfl rfl 5 (by decide) (hT _ kw_2_3) (fun _ h9 => h9) rfl dX7_when_63 ?_
      refine lv_aload_n hx hb dX7_when_66 rfl (lv_at hl 0 rfl) ?_
      refine va_get (D := G) (ci := 7) (v := .ref (va 0)) (C := RX7) (T := TX7) (N := 12) hx hb hT ku_7 hown hK hP 0 rfl rfl 6 (by decide) (hT _ kw_2_4) (fun _ h9 => h9) rfl dX7_when_67 ?_
      replace h := tx_bd h
      obtain ⟨⟨Tu_22, q2_23⟩, hc24, h⟩ := h
      replace h := tx_let (y := Tu_22) rfl h
      replace h := tx_let (y := q2_23) rfl h
      refine tw_cv pX_ua_va hP hD hS hA (va_runV (As := [.ref (va 0)]) (rest := []) ⟨hx, hb, hml, hown, hT⟩ (c_X6_copy l G cA H.size ua va Tu Tv q2 q3  Tu_22 q2_23 hc24) (cwV 1 hT (tq_gV kw_38_6 kw_38_7 kw_38_8 kw_1_23 kw_38_9) rfl rfl rfl dkdV_yX6_copy_1 ⟨Nat.le_of_ble_eq_true rfl, Nat.le_of_ble_eq_true rfl⟩) ⟨(tw_pre pX_ua_va hP hD hK hN).1, va_recv hK hP (ci := 6) (q0 := 77) rfl rfl, (tw_pre pX_ua_va hP hD hK hN).2⟩ rfl rfl hl.1 rfl (lv_room (Nat.le_of_ble_eq_true rfl)) dX7_when_70 ⟨Nat.le_of_ble_eq_true rfl, Nat.le_of_ble_eq_true rfl⟩) (fun _ H locs z25 hP hD hS => ?_)
      replace hP := tw_P pX_ua_va.symm hP
      replace hD := tw_D pX_ua_va.symm hD
      have hP : va_P G vwCl (wX cA xa ka ra na ia ua va ca za pa qa X K R P L P2 L2 Tn Ti Tu_22 Tv C Z q0 q1 q2_23 q3 q4 q5) H := hP
      have hD : va_D A (wX cA xa ka ra na ia ua va ca za pa qa X K R P L P2 L2 Tn Ti Tu_22 Tv C Z q0 q1 q2_23 q3 q4 q5) := hD
      refine lv_aload_n hx hb dX7_when_73 rfl (lv_at hl 0 rfl) ?_
      refine va_get (D := G) (ci := 7) (v := .ref (ua 0)) (C := RX7) (T := TX7) (N := 12) hx hb hT ku_7 hown hK hP 0 rfl rfl 5 (by decide) (hT _ kw_2_3) (fun _ h9 => h9) rfl dX7_when_74 ?_
      refine lv_iload_n hx hb dX7_when_77 rfl (lv_at hl 1 rfl) ?_
      replace h := tx_ck h
      obtain ⟨g26, h⟩ := h
      have eg26 := of_decide_eq_true g26
      subst eg26
      replace h := tx_bd h
      obtain ⟨⟨r27, Tu_28⟩, hc29, h⟩ := h
      replace h := tx_let (y := r27) rfl h
      replace h := tx_let (y := Tu_28) rfl h
      refine tw_ci pX_ua hP hD hS hA (va_runV (As := [.int x1]) (rest := []) ⟨hx, hb, hml, hown, hT⟩ (c_X6_turnOver l G cA H.size ua pa Tu_22 P L x1  r27 Tu_28 hc29) (cwV 1 hT (tq_gV kw_38_11 kw_38_12 kw_38_13 kw_1_23 kw_38_14) rfl rfl rfl dkdV_yX6_turnOver_1 ⟨Nat.le_of_ble_eq_true rfl, Nat.le_of_ble_eq_true rfl⟩) ⟨(tw_pre pX_ua hP hD hK hN).1, va_recv hK hP (ci := 6) (q0 := 77) rfl rfl, (tw_pre pX_ua hP hD hK hN).2⟩ rfl rfl hl.1 rfl (lv_room (Nat.le_of_ble_eq_true rfl)) dX7_when_78 ⟨Nat.le_of_ble_eq_true rfl, Nat.le_of_ble_eq_true rfl⟩) (fun _ _ H locs z30 hP hD hS => ?_)
      have z30 := z30.symm
      subst z30
      replace hP := tw_P pX_ua.symm hP
      replace hD := tw_D pX_ua.symm hD
      have hP : va_P G vwCl (wX cA xa ka ra na ia ua va ca za pa qa X K R P L P2 L2 Tn Ti Tu_28 Tv C Z q0 q1 (pa 0) q3 q4 q5) H := hP
      have hD : va_D A (wX cA xa ka ra na ia ua va ca za pa qa X K R P L P2 L2 Tn Ti Tu_28 Tv C Z q0 q1 (pa 0) q3 q4 q5) := hD
      refine lv_pop hx hb dX7_when_81 rfl ?_
      refine lv_aload_n hx hb dX7_when_82 rfl (lv_at hl 0 rfl) ?_
      replace h := tx_bd h
      obtain ⟨⟨r31, L_32, Tu_33⟩, hc34, h⟩ := h
      replace h := tx_let (y := r31) rfl h
      replace h := tx_let (y := L_32) rfl h
      replace h := tx_let (y := Tu_33) rfl h
      refine tz_i (As := []) (rest := []) ⟨hx, hb, hml, hown, hT⟩ hP hD hS hA hK hN (c_X7_liftsOfTrial l G cA H.size xa ka ra na ia ua va ca za pa qa X K R P L P2 L2 Tn Ti Tu_28 Tv C Z q0 q1 (pa 0) q3 q4 q5  r31 L_32 Tu_33 hc34) (tq_gV kw_49_5 kw_49_6 kw_49_7 kw_1_2 kw_49_8) rfl rfl dkdV_yX7_liftsOfTrial_0 (Nat.le_of_ble_eq_true rfl) (Nat.le_of_ble_eq_true rfl) (ci := 7) (q0 := 0) rfl rfl rfl hl.1 rfl (Nat.le_of_ble_eq_true rfl) dX7_when_83 ⟨Nat.le_of_ble_eq_true rfl, Nat.le_of_ble_eq_true rfl⟩ (fun _ _ H locs z35 hP hD hS => ?_)
      have z35 := z35.symm
      subst z35
      have hP : va_P G vwCl (wX cA xa ka ra na ia ua va ca za pa qa X K R P L_32 P2 L2 Tn Ti Tu_33 Tv C Z q0 q1 (pa 0) q3 q4 q5) H := hP
      have hD : va_D A (wX cA xa ka ra na ia ua va ca za pa qa X K R P L_32 P2 L2 Tn Ti Tu_33 Tv C Z q0 q1 (pa 0) q3 q4 q5) := hD
      refine lv_istore (lv' := [(7, .int r31), (0, .ref (xa 0)), (1, .int x1), (2, .int x2), (4, .int x4), (5, .int x5), (6, .int x6)]) hx hb dX7_when_86 hl (by decide) rfl (fun ls hl => ?_)
      refine lv_iload hx hb dX7_when_88 (lv_at hl 0 rfl) ?_
      refine lv_aload_n hx hb dX7_when_90 rfl (lv_at hl 1 rfl) ?_
      refine va_get (D := G) (ci := 7) (v := .ref (va 0)) (C := RX7) (T := TX7) (N := 12) hx hb hT ku_7 hown hK hP 0 rfl rfl 6 (by decide) (hT _ kw_2_4) (fun _ h9 => h9) rfl dX7_when_91 ?_
      refine va_get (D := G) (ci := 6) (v := .ref (va 17)) (C := RX6) (T := TX6) (N := 20) hx hb hT ku_6 hown hK hP 89 rfl rfl 16 (by decide) (hT _ kw_31_21) (fun _ h9 => h9) rfl dX7_when_94 ?_
      refine lv_iload_n hx hb dX7_when_97 rfl (lv_at hl 2 rfl) ?_
      replace h := tx_ck h
      obtain ⟨g36, h⟩ := h
      refine va_iald (i := x1) hx hb hK hP 98 0 rfl rfl (tx_in g36) dX7_when_98 ?_
      refine lv_iadd hx hb dX7_when_99 ?_
      refine lv_iload hx hb dX7_when_100 (lv_at hl 4 rfl) ?_
      refine lv_icmp_ge (tgt := 132) hx hb dX7_when_102 (by decide) (fun c37 => ?_) (fun c37 => ?_)
      · replace h := tx_pos c37 h
        exact w_X7_when_J132 F k55 hk55 x4 x5 x6 L_32 Tu_33 Tv (pa 0) H locs ls h hP hD hS (lv_sub hl [1, 2, 3, 4, 5, 6] rfl)
      · replace h := tx_neg c37 h
        refine lv_iload hx hb dX7_when_105 (lv_at hl 0 rfl) ?_
        refine lv_aload_n hx hb dX7_when_107 rfl (lv_at hl 1 rfl) ?_
        refine va_get (D := G) (ci := 7) (v := .ref (va 0)) (C := RX7) (T := TX7) (N := 12) hx hb hT ku_7 hown hK hP 0 rfl rfl 6 (by decide) (hT _ kw_2_4) (fun _ h9 => h9) rfl dX7_when_108 ?_
        refine va_get (D := G) (ci := 6) (v := .ref (va 17)) (C := RX6) (T := TX6) (N := 20) hx hb hT ku_6 hown hK hP 89 rfl rfl 16 (by decide) (hT _ kw_31_21) (fun _ h9 => h9) rfl dX7_when_111 ?_
        refine lv_iload_n hx hb dX7_when_114 rfl (lv_at hl 2 rfl) ?_
        refine va_iald (i := x1) hx hb hK hP 98 0 rfl rfl (tx_in g36) dX7_when_115 ?_
        refine lv_iadd hx hb dX7_when_116 ?_
        refine lv_topi (fun y44 ey44 => ?_)
        replace h := tx_let ey44 h
        refine lv_istore (lv' := [(4, .int y44), (7, .int r31), (0, .ref (xa 0)), (1, .int x1), (2, .int x2), (5, .int x5), (6, .int x6)]) hx hb dX7_when_117 hl (by decide) rfl (fun ls hl => ?_)
        refine lv_iload_n hx hb dX7_when_119 rfl (lv_at hl 4 rfl) ?_
        refine lv_if_ne (tgt := 128) hx hb dX7_when_120 (by decide) (fun c45 => ?_) (fun c45 => ?_)
        · replace h := tx_neg c45 h
          refine lv_iload hx hb dX7_when_128 (lv_at hl 1 rfl) ?_
          exact w_X7_when_J130 F k55 hk55 y44 x6 r31 L_32 Tu_33 Tv (pa 0) H locs ls h hP hD hS (lv_sub hl [2, 3, 4, 0, 6] rfl)
        · replace h := tx_pos c45 h
          refine lv_iload hx hb dX7_when_123 (lv_at hl 6 rfl) ?_
          refine lv_goto (tgt := 130) hx hb dX7_when_125 (by decide) ?_
          exact w_X7_when_J130 F k55 hk55 y44 x6 x6 L_32 Tu_33 Tv (pa 0) H locs ls h hP hD hS (lv_sub hl [2, 3, 4, 0, 6] rfl)
set_option maxHeartbeats 4000000 in
set_option maxRecDepth 100000 in
theorem c_X7_when (l : Launch) (G : va_G) (cA : Nat → ClassId) (sz : Nat) (xa : Nat → Nat) (ka : Nat → Nat) (ra : Nat → Nat) (na : Nat → Nat) (ia : Nat → Nat) (ua : Nat → Nat) (va : Nat → Nat) (ca : Nat → Nat) (za : Nat → Nat) (pa : Nat → Nat) (qa : Nat → Nat) (X : Tr) (K : Tr) (R : Tr) (P : Tr) (L : Lo) (P2 : Tr) (L2 : Lo) (Tn : Tr) (Ti : Tr) (Tu : Tr) (Tv : Tr) (C : Tr) (Z : Tr) (q0 : Nat) (q1 : Nat) (q2 : Nat) (q3 : Nat) (q4 : Nat) (q5 : Nat) (x1 : Int32) (x2 : Int32)  (r0 : Int32) (L' : Lo) (Tu' : Tr) (Tv' : Tr) (q2' : Nat) (q3' : Nat) (h : f_X7_when pa qa P L Tn Tu Tv q0 q2 q3 q4 x1 x2 = some (r0, L', Tu', Tv', q2', q3')) : Met l yX7_when (.code yX7_when cX7_when 8 (some .int) :: T0) ({ frames := 7, cells := 0, slots := 0, locals := 173 } : Room) (tqP G cA [.ref (xa 0), .int x1, .int x2] (wX cA xa ka ra na ia ua va ca za pa qa X K R P L P2 L2 Tn Ti Tu Tv C Z q0 q1 q2 q3 q4 q5) sz) (tqQi G cA (fun (r : Int32) (_ : Unit) => r = r0) (fun (_ : Unit) => wX cA xa ka ra na ia ua va ca za pa qa X K R P (L') P2 L2 Tn Ti (Tu') (Tv') C Z q0 q1 (q2') (q3') q4 q5) (va_A (wX cA xa ka ra na ia ua va ca za pa qa X K R P L P2 L2 Tn Ti Tu Tv C Z q0 q1 q2 q3 q4 q5) sz)) 0 0 (va_A (wX cA xa ka ra na ia ua va ca za pa qa X K R P L P2 L2 Tn Ti Tu Tv C Z q0 q1 q2 q3 q4 q5) sz) := by
  refine Met.ofW (cc := cX7_when) (maxL := 8) (ret := (some .int)) (by decide) rfl ?_
  intro p e s m args below meth c s₁ B hml hv
  obtain ⟨rfl, hsz, hP, hK, hD0, hN⟩ := hv
  have hx := B.exec
  have hb := B.bytes
  have hr := B.returns
  have hts := atoms_spec (ws := .code yX7_when cX7_when 8 (some .int) :: T0) B.pre
  have hT : ∀ w ∈ T0, w.before _ s = true := fun w h => hts w (List.mem_cons_of_mem _ h)
  have hown : s.vm.findClass RX7 = some m.cls := findClass_of_methodNamed B.named
  have hlocks := B.notSynchronized
  subst hsz
  have hD := hD0.self (sz := s.heap.size)
  generalize hAe : va_A (wX cA xa ka ra na ia ua va ca za pa qa X K R P L P2 L2 Tn Ti Tu Tv C Z q0 q1 q2 q3 q4 q5) s.heap.size = A at hD ⊢
  have hA : ∀ q : Nat, s.heap.size ≤ q → A q := fun q h => by rw [← hAe]; exact Or.inr h
  have hS : va_S A s.heap s.heap [] := va_S.rf
  have hl := lv_entry ([.ref (xa 0), .int x1, .int x2]) (n := 8) (Nat.le_of_ble_eq_true rfl)
  rw [lg_entry_eq]
  generalize (lg_sl ([.ref (xa 0), .int x1, .int x2]) ++ List.replicate (8 - (lg_sl ([.ref (xa 0), .int x1, .int x2])).length) Slot.unset).toArray = ls at hl ⊢
  have hl : lv_has ls 8 [(0, .ref (xa 0)), (1, .int x1), (2, .int x2)] := hl
  have F : tF p s m ([.ref (xa 0), .int x1, .int x2] : List Value).toArray meth c G cA A RX7 cX7_when 8 (some .int) := ⟨hx, hb, hr, hml, hT, hown, hlocks, hK, hN, hA⟩
  obtain ⟨H, hH⟩ : ∃ z, z = s.heap := ⟨_, rfl⟩
  rw [← hH] at hP
  have hS : va_S A s.heap H [] := by rw [hH]; exact hS
  suffices hgo : G_X7_when p l e s m below meth c G cA A xa ka ra na ia ua va ca za pa qa X K R P P2 L2 Tn Ti C Z q0 q1 q4 q5 x1 x2 r0 L' Tu' Tv' q2' q3' H [] (F0 m 0 ls []) by rw [hH] at hgo; exact hgo
  generalize ([] : List Loc) = locs at hS ⊢
  unfold f_X7_when at h
  refine lv_aload_n hx hb dX7_when_0 rfl (lv_at hl 0 rfl) ?_
  refine lv_iload_n hx hb dX7_when_1 rfl (lv_at hl 1 rfl) ?_
  replace h := tx_bd h
  obtain ⟨r1, hc2, h⟩ := h
  refine tz_i (As := [.int x1]) (rest := []) ⟨hx, hb, hml, hown, hT⟩ hP hD hS hA hK hN (c_X7_isPlace l G cA H.size xa ka ra na ia ua va ca za pa qa X K R P L P2 L2 Tn Ti Tu Tv C Z q0 q1 q2 q3 q4 q5 x1  r1 hc2) (tq_gV kw_31_22 kw_31_23 kw_32_0 kw_1_2 kw_32_1) rfl rfl dkdV_yX7_isPlace_1 (Nat.le_of_ble_eq_true rfl) (Nat.le_of_ble_eq_true rfl) (ci := 7) (q0 := 0) rfl rfl rfl hl.1 rfl (Nat.le_of_ble_eq_true rfl) dX7_when_2 ⟨Nat.le_of_ble_eq_true rfl, Nat.le_of_ble_eq_true rfl⟩ (fun _ _ H locs z3 hP hD hS => ?_)
  have z3 := z3.symm
  subst z3
  have hP : va_P G vwCl (wX cA xa ka ra na ia ua va ca za pa qa X K R P L P2 L2 Tn Ti Tu Tv C Z q0 q1 q2 q3 q4 q5) H := hP
  have hD : va_D A (wX cA xa ka ra na ia ua va ca za pa qa X K R P L P2 L2 Tn Ti Tu Tv C Z q0 q1 q2 q3 q4 q5) := hD
  refine lv_if_eq (tgt := 17) hx hb dX7_when_5 (by decide) (fun c4 => ?_) (fun c4 => ?_)
  · replace h := tx_pos c4 h
    refine lv_iconst (v := (-1)) hx hb dX7_when_17 (by decide) ?_
    obtain ⟨rfl, rfl, rfl, rfl, rfl, rfl⟩ := tx_6 h
    exact W.iret hx hb hr (fun t ht hW => ⟨⟨_, (), rfl, rfl, by rw [ht]; exact hP, hD⟩, hS.F ht⟩) hS.2.2 dX7_when_18
  · replace h := tx_neg c4 h
    refine lv_iload_n hx hb dX7_when_8 rfl (lv_at hl 2 rfl) ?_
    refine lv_if_lt (tgt := 17) hx hb dX7_when_9 (by decide) (fun c5 => ?_) (fun c5 => ?_)
    · replace h := tx_pos c5 h
      refine lv_iconst (v := (-1)) hx hb dX7_when_17 (by decide) ?_
      obtain ⟨rfl, rfl, rfl, rfl, rfl, rfl⟩ := tx_6 h
      exact W.iret hx hb hr (fun t ht hW => ⟨⟨_, (), rfl, rfl, by rw [ht]; exact hP, hD⟩, hS.F ht⟩) hS.2.2 dX7_when_18
    · replace h := tx_neg c5 h
      refine lv_iload_n hx hb dX7_when_12 rfl (lv_at hl 2 rfl) ?_
      refine lv_iconst (v := 1) hx hb dX7_when_13 (by decide) ?_
      refine lv_icmp_le (tgt := 19) hx hb dX7_when_14 (by decide) (fun c6 => ?_) (fun c6 => ?_)
      · replace h := tx_pos c6 h
        refine lv_aload_n hx hb dX7_when_19 rfl (lv_at hl 0 rfl) ?_
        replace h := tx_bd h
        obtain ⟨⟨Tu_7, q2_8⟩, hc9, h⟩ := h
        replace h := tx_let (y := Tu_7) rfl h
        replace h := tx_let (y := q2_8) rfl h
        refine tz_v (As := []) (rest := []) ⟨hx, hb, hml, hown, hT⟩ hP hD hS hA hK hN (c_X7_startTrial l G cA H.size xa ka ra na ia ua va ca za pa qa X K R P L P2 L2 Tn Ti Tu Tv C Z q0 q1 q2 q3 q4 q5  Tu_7 q2_8 hc9) (tq_gV kw_46_17 kw_46_18 kw_46_19 kw_1_2 kw_46_20) rfl rfl dkdV_yX7_startTrial_0 (Nat.le_of_ble_eq_true rfl) (Nat.le_of_ble_eq_true rfl) (ci := 7) (q0 := 0) rfl rfl rfl hl.1 rfl (Nat.le_of_ble_eq_true rfl) dX7_when_20 ⟨Nat.le_of_ble_eq_true rfl, Nat.le_of_ble_eq_true rfl⟩ (fun _ H locs z10 hP hD hS => ?_)
        have hP : va_P G vwCl (wX cA xa ka ra na ia ua va ca za pa qa X K R P L P2 L2 Tn Ti Tu_7 Tv C Z q0 q1 q2_8 q3 q4 q5) H := hP
        have hD : va_D A (wX cA xa ka ra na ia ua va ca za pa qa X K R P L P2 L2 Tn Ti Tu_7 Tv C Z q0 q1 q2_8 q3 q4 q5) := hD
        refine lv_aload_n hx hb dX7_when_23 rfl (lv_at hl 0 rfl) ?_
        refine va_get (D := G) (ci := 7) (v := .ref (va 0)) (C := RX7) (T := TX7) (N := 12) hx hb hT ku_7 hown hK hP 0 rfl rfl 6 (by decide) (hT _ kw_2_4) (fun _ h9 => h9) rfl dX7_when_24 ?_
        refine lv_aload_n hx hb dX7_when_27 rfl (lv_at hl 0 rfl) ?_
        refine va_get (D := G) (ci := 7) (v := .ref (ua 0)) (C := RX7) (T := TX7) (N := 12) hx hb hT ku_7 hown hK hP 0 rfl rfl 5 (by decide) (hT _ kw_2_3) (fun _ h9 => h9) rfl dX7_when_28 ?_
        replace h := tx_bd h
        obtain ⟨⟨Tv_11, q3_12⟩, hc13, h⟩ := h
        replace h := tx_let (y := Tv_11) rfl h
        replace h := tx_let (y := q3_12) rfl h
        refine tw_cv pX_va_ua hP hD hS hA (va_runV (As := [.ref (ua 0)]) (rest := []) ⟨hx, hb, hml, hown, hT⟩ (c_X6_copy l G cA H.size va ua Tv Tu_7 q3 q2_8  Tv_11 q3_12 hc13) (cwV 1 hT (tq_gV kw_38_6 kw_38_7 kw_38_8 kw_1_23 kw_38_9) rfl rfl rfl dkdV_yX6_copy_1 ⟨Nat.le_of_ble_eq_true rfl, Nat.le_of_ble_eq_true rfl⟩) ⟨(tw_pre pX_va_ua hP hD hK hN).1, va_recv hK hP (ci := 6) (q0 := 89) rfl rfl, (tw_pre pX_va_ua hP hD hK hN).2⟩ rfl rfl hl.1 rfl (lv_room (Nat.le_of_ble_eq_true rfl)) dX7_when_31 ⟨Nat.le_of_ble_eq_true rfl, Nat.le_of_ble_eq_true rfl⟩) (fun _ H locs z14 hP hD hS => ?_)
        replace hP := tw_P pX_va_ua.symm hP
        replace hD := tw_D pX_va_ua.symm hD
        have hP : va_P G vwCl (wX cA xa ka ra na ia ua va ca za pa qa X K R P L P2 L2 Tn Ti Tu_7 Tv_11 C Z q0 q1 q2_8 q3_12 q4 q5) H := hP
        have hD : va_D A (wX cA xa ka ra na ia ua va ca za pa qa X K R P L P2 L2 Tn Ti Tu_7 Tv_11 C Z q0 q1 q2_8 q3_12 q4 q5) := hD
        refine lv_aload_n hx hb dX7_when_34 rfl (lv_at hl 0 rfl) ?_
        replace h := tx_bd h
        obtain ⟨⟨r15, L_16, Tu_17⟩, hc18, h⟩ := h
        replace h := tx_let (y := r15) rfl h
        replace h := tx_let (y := L_16) rfl h
        replace h := tx_let (y := Tu_17) rfl h
        refine tz_i (As := []) (rest := []) ⟨hx, hb, hml, hown, hT⟩ hP hD hS hA hK hN (c_X7_liftsOfTrial l G cA H.size xa ka ra na ia ua va ca za pa qa X K R P L P2 L2 Tn Ti Tu_7 Tv_11 C Z q0 q1 q2_8 q3_12 q4 q5  r15 L_16 Tu_17 hc18) (tq_gV kw_49_5 kw_49_6 kw_49_7 kw_1_2 kw_49_8) rfl rfl dkdV_yX7_liftsOfTrial_0 (Nat.le_of_ble_eq_true rfl) (Nat.le_of_ble_eq_true rfl) (ci := 7) (q0 := 0) rfl rfl rfl hl.1 rfl (Nat.le_of_ble_eq_true rfl) dX7_when_35 ⟨Nat.le_of_ble_eq_true rfl, Nat.le_of_ble_eq_true rfl⟩ (fun _ _ H locs z19 hP hD hS => ?_)
        have z19 := z19.symm
        subst z19
        have hP : va_P G vwCl (wX cA xa ka ra na ia ua va ca za pa qa X K R P L_16 P2 L2 Tn Ti Tu_17 Tv_11 C Z q0 q1 q2_8 q3_12 q4 q5) H := hP
        have hD : va_D A (wX cA xa ka ra na ia ua va ca za pa qa X K R P L_16 P2 L2 Tn Ti Tu_17 Tv_11 C Z q0 q1 q2_8 q3_12 q4 q5) := hD
        refine lv_istore_n (lv' := [(3, .int r15), (0, .ref (xa 0)), (1, .int x1), (2, .int x2)]) hx hb dX7_when_38 rfl hl (by decide) rfl (fun ls hl => ?_)
        refine lv_iload_n hx hb dX7_when_39 rfl (lv_at hl 0 rfl) ?_
        refine lv_istore (lv' := [(4, .int r15), (3, .int r15), (0, .ref (xa 0)), (1, .int x1), (2, .int x2)]) hx hb dX7_when_40 hl (by decide) rfl (fun ls hl => ?_)
        refine lv_bipush (v := (-2)) hx hb dX7_when_42 (by decide) ?_
        refine lv_istore (lv' := [(5, .int (-2)), (4, .int r15), (3, .int r15), (0, .ref (xa 0)), (1, .int x1), (2, .int x2)]) hx hb dX7_when_44 hl (by decide) rfl (fun ls hl => ?_)
        refine lv_aload_n hx hb dX7_when_46 rfl (lv_at hl 3 rfl) ?_
        refine va_get (D := G) (ci := 7) (v := .ref (na 0)) (C := RX7) (T := TX7) (N := 12) hx hb hT ku_7 hown hK hP 0 rfl rfl 2 (by decide) (hT _ kw_2_0) (fun _ h9 => h9) rfl dX7_when_47 ?_
        refine va_get (D := G) (ci := 6) (v := .int (Tn 0 0)) (C := RX6) (T := TX6) (N := 20) hx hb hT ku_6 hown hK hP 53 rfl rfl 0 (by decide) (hT _ kw_40_5) (fun _ h9 => h9) rfl dX7_when_50 ?_
        refine lv_topi (fun y20 ey20 => ?_)
        replace h := tx_let ey20 h
        refine lv_istore (lv' := [(6, .int y20), (5, .int (-2)), (4, .int r15), (3, .int r15), (0, .ref (xa 0)), (1, .int x1), (2, .int x2)]) hx hb dX7_when_53 hl (by decide) rfl (fun ls hl => ?_)
        exact w_X7_when_L55 F 2000 r15 (-2) y20 L_16 Tu_17 Tv_11 q2_8 H locs ls h hP hD hS (lv_sub hl [4, 5, 6, 2, 1, 0] rfl)
      · replace h := tx_neg c6 h
        refine lv_iconst (v := (-1)) hx hb dX7_when_17 (by decide) ?_
        obtain ⟨rfl, rfl, rfl, rfl, rfl, rfl⟩ := tx_6 h
        exact W.iret hx hb hr (fun t ht hW => ⟨⟨_, (), rfl, rfl, by rw [ht]; exact hP, hD⟩, hS.F ht⟩) hS.2.2 dX7_when_18
