set_option maxHeartbeats 4000000 in
set_option maxRecDepth 100000 in
theorem law_27 {p : Program} {e : Env} {s : State} {m : MethodId} {below : List Frame} {meth : Method} {c : Code} (l : Launch) (hst : l.stackTraces = false) {b : Nat} {xs : Nat → Int32} (C0 : lw_At p s m meth c b 6 xs) (G : va_G) (cA : Nat → ClassId) {A : Nat → Prop} (hAe : A = fun q : Nat => s.heap.size ≤ q) (hK : va_K G vwCl (tyL cA) s) (hN : tqN s) (sP : Nat) (hXx : tqX sP A s s.heap) (w0 : Int32) (w1 : Int32) (w2 : Int32) (w3 : Int32) (w4 : Int32) (w5 : Int32) (hw0 : xs 0 = w0) (hw1 : xs 1 = w1) (hw2 : xs 2 = w2) (hw3 : xs 3 = w3) (hw4 : xs 4 = w4) (hw5 : xs 5 = w5) (h0 : Nat) (mm : Nat) (oa : Nat) (fs : List Value) (pa : Nat) (ps : List Value) (mfs : List Value) {H : Heap} {locs : List Loc} {ls : Array Slot} (hf : fh fs 12 [(1, .ref pa)]) (hp : fh ps 19 [(1, .int 0)]) (hmf : fh mfs 91 [(13, .int 0)]) (hP : va_P G vwCl [(h0, .inr (7, fs)), (pa, .inr (2, ps)), (mm, .inr (8, mfs))] H) (hD : va_D A [(h0, .inr (7, fs)), (pa, .inr (2, ps)), (mm, .inr (8, mfs))]) (hS : va_S A s.heap H locs) (hl : lv_has ls 7 [(4, .int 0), (3, .ref oa), (2, .ref mm), (1, .ref h0), (0, .ref b)]) : W p l e room_1 s m #[Value.ref b] below meth c H locs 160 7660 (lw_Z below #[Value.ref b] s) (F0 m 1083 ls []) := by
  obtain ⟨hx, hb, hr, hml, hown, hts, hX, hbl, hlocks, hgv⟩ := id C0
  have hT : ∀ v ∈ T0, v.before #[Value.ref b] s = true := fun v h => hts v (tq_law_in v h)
  have hown : s.vm.findClass RL = some m.cls := hown
  have hA : ∀ q : Nat, s.heap.size ≤ q → A q := fun q h => by rw [hAe]; exact h
  have hbA : ¬ A b := by rw [hAe]; exact Nat.not_le.mpr hbl
  have hO := hN.2.2.2.2
  refine lv_aload_n hx hb dL_law_1083 rfl (lv_at hl 3 rfl) ?_
  refine lv_aload_n hx hb dL_law_1084 rfl (lv_at hl 4 rfl) ?_
  refine lv_iload hx hb dL_law_1085 (lv_at hl 0 rfl) ?_
  refine lv_iconst (v := 1) hx hb dL_law_1087 (by decide) ?_
  refine lv_iadd hx hb dL_law_1088 ?_
  refine tq_i (w := 1) (by decide) ?_
  refine va_sld (i := 1) hx hb hX hbl hbA hS (tq_in (by decide)) dL_law_1089 ?_
  refine tq_i (w := w1) hw1 ?_
  refine tq_ci (wr := [(mm, .inr (8, mfs))]) hP hD hS hA [0, 1] [2] rfl rfl (by decide) (by decide) (va_runV (As := [.int w1]) (rest := []) ⟨hx, hb, hml, hown, hT⟩ (c_X7_got l G cA H.size h0 w1 fs pa ps (fh_sub hf [0] rfl) (fh_sub hp [0] rfl)) (cwV 1 hT (tq_gV kw_55_11 kw_55_12 kw_55_13 kw_1_2 kw_55_14) rfl rfl rfl (by decide +kernel) ⟨Nat.le_of_ble_eq_true rfl, Nat.le_of_ble_eq_true rfl⟩) ⟨(tq_pre (isC := [0, 1]) hP hD hK hN rfl (by decide)).1, va_recv hK hP (ci := 7) (q0 := 0) rfl rfl, (tq_pre (isC := [0, 1]) hP hD hK hN rfl (by decide)).2⟩ rfl rfl hl.1 rfl (lv_room (Nat.le_of_ble_eq_true rfl)) dL_law_1090 ⟨Nat.le_of_ble_eq_true rfl, Nat.le_of_ble_eq_true rfl⟩) (fun r101 u102 H locs hw103 hP hD hS => ?_)
  refine W.widen (k := 160) (n := 7660) (Nat.le_of_ble_eq_true rfl) (Nat.le_of_ble_eq_true rfl) ?_
  have hr104 := hw103
  subst hr104
  have hP : va_P G vwCl [(mm, .inr (8, mfs))] H := hP
  have hD : va_D A [(mm, .inr (8, mfs))] := hD
  refine lv_aload_n hx hb dL_law_1093 rfl (lv_at hl 2 rfl) ?_
  refine lv_aload_n hx hb dL_law_1094 rfl (lv_at hl 4 rfl) ?_
  refine lv_iload hx hb dL_law_1095 (lv_at hl 0 rfl) ?_
  refine lv_iconst (v := 1) hx hb dL_law_1097 (by decide) ?_
  refine lv_iadd hx hb dL_law_1098 ?_
  refine tq_i (w := 1) (by decide) ?_
  refine va_sld (i := 1) hx hb hX hbl hbA hS (tq_in (by decide)) dL_law_1099 ?_
  refine tq_i (w := w1) hw1 ?_
  refine tq_ci (wr := []) hP hD hS hA [0] [] rfl rfl (by decide) (by decide) (va_runV (As := [.int w1]) (rest := [.int (-1)]) ⟨hx, hb, hml, hown, hT⟩ (c_X8_got l G cA H.size mm w1 mfs (fh_sub hmf [0] rfl)) (cwV 1 hT (tq_gV kw_56_10 kw_56_11 kw_56_12 kw_1_5 kw_56_13) rfl rfl rfl (by decide +kernel) ⟨Nat.le_of_ble_eq_true rfl, Nat.le_of_ble_eq_true rfl⟩) ⟨(tq_pre (isC := [0]) hP hD hK hN rfl (by decide)).1, va_recv hK hP (ci := 8) (q0 := 0) rfl rfl, (tq_pre (isC := [0]) hP hD hK hN rfl (by decide)).2⟩ rfl rfl hl.1 rfl (lv_room (Nat.le_of_ble_eq_true rfl)) dL_law_1100 ⟨Nat.le_of_ble_eq_true rfl, Nat.le_of_ble_eq_true rfl⟩) (fun r105 u106 H locs hw107 hP hD hS => ?_)
  refine W.widen (k := 160) (n := 7660) (Nat.le_of_ble_eq_true rfl) (Nat.le_of_ble_eq_true rfl) ?_
  have hr108 := hw107
  subst hr108
  have hP : va_P G vwCl [] H := hP
  have hD : va_D A [] := hD
  refine lv_icmp_eq (tgt := 1246) hx hb dL_law_1103 (by decide) (fun c109 => ?_) (fun c109 => absurd (by decide) c109)
  refine lv_iinc (v := 6) (lv' := [(4, .int 6), (3, .ref oa), (2, .ref mm), (1, .ref h0), (0, .ref b)]) hx hb dL_law_1246 hl (k := 0) rfl (by decide) (by decide) rfl (fun ls hl => ?_)
  refine lv_goto (tgt := 23) hx hb dL_law_1249 (by decide) ?_
  refine lv_iload hx hb dL_law_23 (lv_at hl 0 rfl) ?_
  refine lv_aload_n hx hb dL_law_25 rfl (lv_at hl 4 rfl) ?_
  refine va_slen hx hb hX hbl hbA hS dL_law_26 ?_
  refine tq_i (w := 6) (by decide) ?_
  refine lv_bipush (v := 6) hx hb dL_law_27 (by decide) ?_
  refine lv_isub hx hb dL_law_29 ?_
  refine tq_i (w := 0) (by decide) ?_
  refine lv_icmp_gt (tgt := 1252) hx hb dL_law_30 (by decide) (fun c110 => ?_) (fun c110 => absurd (by decide) c110)
  refine lv_iconst (v := 1) hx hb dL_law_1252 (by decide) ?_
  refine va_forget (fun q hq => by have h9 := hS.2.2 q hq; rw [hAe] at h9; exact h9) ?_
  refine W.widen (k := 600002) (n := 7302232) (Nat.le_of_ble_eq_true rfl) (Nat.le_of_ble_eq_true rfl) ?_
  exact lw_ret hx hb hr hlocks dL_law_1253

set_option maxHeartbeats 4000000 in
set_option maxRecDepth 100000 in
theorem law_28 {p : Program} {e : Env} {s : State} {m : MethodId} {below : List Frame} {meth : Method} {c : Code} (l : Launch) (hst : l.stackTraces = false) {b : Nat} {xs : Nat → Int32} (C0 : lw_At p s m meth c b 6 xs) (G : va_G) (cA : Nat → ClassId) {A : Nat → Prop} (hAe : A = fun q : Nat => s.heap.size ≤ q) (hK : va_K G vwCl (tyL cA) s) (hN : tqN s) (sP : Nat) (hXx : tqX sP A s s.heap) (w0 : Int32) (w1 : Int32) (w2 : Int32) (w3 : Int32) (w4 : Int32) (w5 : Int32) (hw0 : xs 0 = w0) (hw1 : xs 1 = w1) (hw2 : xs 2 = w2) (hw3 : xs 3 = w3) (hw4 : xs 4 = w4) (hw5 : xs 5 = w5) (h0 : Nat) (mm : Nat) (oa : Nat) (fs : List Value) (pa : Nat) (ps : List Value) (mfs : List Value) {H : Heap} {locs : List Loc} {ls : Array Slot} (hf : fh fs 12 [(1, .ref pa)]) (hp : fh ps 19 [(2, .int 0)]) (hmf : fh mfs 91 [(14, .int 0)]) (hP : va_P G vwCl [(h0, .inr (7, fs)), (pa, .inr (2, ps)), (mm, .inr (8, mfs))] H) (hD : va_D A [(h0, .inr (7, fs)), (pa, .inr (2, ps)), (mm, .inr (8, mfs))]) (hS : va_S A s.heap H locs) (hl : lv_has ls 7 [(4, .int 0), (3, .ref oa), (2, .ref mm), (1, .ref h0), (0, .ref b)]) : W p l e room_1 s m #[Value.ref b] below meth c H locs 160 7660 (lw_Z below #[Value.ref b] s) (F0 m 1108 ls []) := by
  obtain ⟨hx, hb, hr, hml, hown, hts, hX, hbl, hlocks, hgv⟩ := id C0
  have hT : ∀ v ∈ T0, v.before #[Value.ref b] s = true := fun v h => hts v (tq_law_in v h)
  have hown : s.vm.findClass RL = some m.cls := hown
  have hA : ∀ q : Nat, s.heap.size ≤ q → A q := fun q h => by rw [hAe]; exact h
  have hbA : ¬ A b := by rw [hAe]; exact Nat.not_le.mpr hbl
  have hO := hN.2.2.2.2
  refine lv_aload_n hx hb dL_law_1108 rfl (lv_at hl 3 rfl) ?_
  refine lv_aload_n hx hb dL_law_1109 rfl (lv_at hl 4 rfl) ?_
  refine lv_iload hx hb dL_law_1110 (lv_at hl 0 rfl) ?_
  refine lv_iconst (v := 1) hx hb dL_law_1112 (by decide) ?_
  refine lv_iadd hx hb dL_law_1113 ?_
  refine tq_i (w := 1) (by decide) ?_
  refine va_sld (i := 1) hx hb hX hbl hbA hS (tq_in (by decide)) dL_law_1114 ?_
  refine tq_i (w := w1) hw1 ?_
  refine lv_aload_n hx hb dL_law_1115 rfl (lv_at hl 4 rfl) ?_
  refine lv_iload hx hb dL_law_1116 (lv_at hl 0 rfl) ?_
  refine lv_iconst (v := 2) hx hb dL_law_1118 (by decide) ?_
  refine lv_iadd hx hb dL_law_1119 ?_
  refine tq_i (w := 2) (by decide) ?_
  refine va_sld (i := 2) hx hb hX hbl hbA hS (tq_in (by decide)) dL_law_1120 ?_
  refine tq_i (w := w2) hw2 ?_
  refine tq_ci (wr := [(mm, .inr (8, mfs))]) hP hD hS hA [0, 1] [2] rfl rfl (by decide) (by decide) (va_runV (As := [.int w1, .int w2]) (rest := []) ⟨hx, hb, hml, hown, hT⟩ (c_X7_chance l G cA H.size h0 w1 w2 fs pa ps (fh_sub hf [0] rfl) (fh_sub hp [0] rfl)) (cwV 2 hT (tq_gV kw_57_2 kw_57_3 kw_57_4 kw_1_2 kw_57_5) rfl rfl rfl (by decide +kernel) ⟨Nat.le_of_ble_eq_true rfl, Nat.le_of_ble_eq_true rfl⟩) ⟨(tq_pre (isC := [0, 1]) hP hD hK hN rfl (by decide)).1, va_recv hK hP (ci := 7) (q0 := 0) rfl rfl, (tq_pre (isC := [0, 1]) hP hD hK hN rfl (by decide)).2⟩ rfl rfl hl.1 rfl (lv_room (Nat.le_of_ble_eq_true rfl)) dL_law_1121 ⟨Nat.le_of_ble_eq_true rfl, Nat.le_of_ble_eq_true rfl⟩) (fun r101 u102 H locs hw103 hP hD hS => ?_)
  refine W.widen (k := 160) (n := 7660) (Nat.le_of_ble_eq_true rfl) (Nat.le_of_ble_eq_true rfl) ?_
  have hr104 := hw103
  subst hr104
  have hP : va_P G vwCl [(mm, .inr (8, mfs))] H := hP
  have hD : va_D A [(mm, .inr (8, mfs))] := hD
  refine lv_aload_n hx hb dL_law_1124 rfl (lv_at hl 2 rfl) ?_
  refine lv_aload_n hx hb dL_law_1125 rfl (lv_at hl 4 rfl) ?_
  refine lv_iload hx hb dL_law_1126 (lv_at hl 0 rfl) ?_
  refine lv_iconst (v := 1) hx hb dL_law_1128 (by decide) ?_
  refine lv_iadd hx hb dL_law_1129 ?_
  refine tq_i (w := 1) (by decide) ?_
  refine va_sld (i := 1) hx hb hX hbl hbA hS (tq_in (by decide)) dL_law_1130 ?_
  refine tq_i (w := w1) hw1 ?_
  refine lv_aload_n hx hb dL_law_1131 rfl (lv_at hl 4 rfl) ?_
  refine lv_iload hx hb dL_law_1132 (lv_at hl 0 rfl) ?_
  refine lv_iconst (v := 2) hx hb dL_law_1134 (by decide) ?_
  refine lv_iadd hx hb dL_law_1135 ?_
  refine tq_i (w := 2) (by decide) ?_
  refine va_sld (i := 2) hx hb hX hbl hbA hS (tq_in (by decide)) dL_law_1136 ?_
  refine tq_i (w := w2) hw2 ?_
  refine tq_ci (wr := []) hP hD hS hA [0] [] rfl rfl (by decide) (by decide) (va_runV (As := [.int w1, .int w2]) (rest := [.int (-1)]) ⟨hx, hb, hml, hown, hT⟩ (c_X8_chance l G cA H.size mm w1 w2 mfs (fh_sub hmf [0] rfl)) (cwV 2 hT (tq_gV kw_57_7 kw_57_8 kw_57_9 kw_1_5 kw_57_10) rfl rfl rfl (by decide +kernel) ⟨Nat.le_of_ble_eq_true rfl, Nat.le_of_ble_eq_true rfl⟩) ⟨(tq_pre (isC := [0]) hP hD hK hN rfl (by decide)).1, va_recv hK hP (ci := 8) (q0 := 0) rfl rfl, (tq_pre (isC := [0]) hP hD hK hN rfl (by decide)).2⟩ rfl rfl hl.1 rfl (lv_room (Nat.le_of_ble_eq_true rfl)) dL_law_1137 ⟨Nat.le_of_ble_eq_true rfl, Nat.le_of_ble_eq_true rfl⟩) (fun r105 u106 H locs hw107 hP hD hS => ?_)
  refine W.widen (k := 160) (n := 7660) (Nat.le_of_ble_eq_true rfl) (Nat.le_of_ble_eq_true rfl) ?_
  have hr108 := hw107
  subst hr108
  have hP : va_P G vwCl [] H := hP
  have hD : va_D A [] := hD
  refine lv_icmp_eq (tgt := 1246) hx hb dL_law_1140 (by decide) (fun c109 => ?_) (fun c109 => absurd (by decide) c109)
  refine lv_iinc (v := 6) (lv' := [(4, .int 6), (3, .ref oa), (2, .ref mm), (1, .ref h0), (0, .ref b)]) hx hb dL_law_1246 hl (k := 0) rfl (by decide) (by decide) rfl (fun ls hl => ?_)
  refine lv_goto (tgt := 23) hx hb dL_law_1249 (by decide) ?_
  refine lv_iload hx hb dL_law_23 (lv_at hl 0 rfl) ?_
  refine lv_aload_n hx hb dL_law_25 rfl (lv_at hl 4 rfl) ?_
  refine va_slen hx hb hX hbl hbA hS dL_law_26 ?_
  refine tq_i (w := 6) (by decide) ?_
  refine lv_bipush (v := 6) hx hb dL_law_27 (by decide) ?_
  refine lv_isub hx hb dL_law_29 ?_
  refine tq_i (w := 0) (by decide) ?_
  refine lv_icmp_gt (tgt := 1252) hx hb dL_law_30 (by decide) (fun c110 => ?_) (fun c110 => absurd (by decide) c110)
  refine lv_iconst (v := 1) hx hb dL_law_1252 (by decide) ?_
  refine va_forget (fun q hq => by have h9 := hS.2.2 q hq; rw [hAe] at h9; exact h9) ?_
  refine W.widen (k := 600002) (n := 7302232) (Nat.le_of_ble_eq_true rfl) (Nat.le_of_ble_eq_true rfl) ?_
  exact lw_ret hx hb hr hlocks dL_law_1253

set_option maxHeartbeats 4000000 in
set_option maxRecDepth 100000 in
theorem law_29 {p : Program} {e : Env} {s : State} {m : MethodId} {below : List Frame} {meth : Method} {c : Code} (l : Launch) (hst : l.stackTraces = false) {b : Nat} {xs : Nat → Int32} (C0 : lw_At p s m meth c b 6 xs) (G : va_G) (cA : Nat → ClassId) {A : Nat → Prop} (hAe : A = fun q : Nat => s.heap.size ≤ q) (hK : va_K G vwCl (tyL cA) s) (hN : tqN s) (sP : Nat) (hXx : tqX sP A s s.heap) (w0 : Int32) (w1 : Int32) (w2 : Int32) (w3 : Int32) (w4 : Int32) (w5 : Int32) (hw0 : xs 0 = w0) (hw1 : xs 1 = w1) (hw2 : xs 2 = w2) (hw3 : xs 3 = w3) (hw4 : xs 4 = w4) (hw5 : xs 5 = w5) (h0 : Nat) (mm : Nat) (oa : Nat) (fs : List Value) (pa : Nat) (t0 : Nat) (t2 : Nat) (ps : List Value) (ts0 : List Value) (a8 : Nat) (a9 : Nat) (a10 : Nat) (a11 : Nat) (a12 : Nat) (a13 : Nat) (a14 : Nat) (a15 : Nat) (a16 : Nat) (a17 : Nat) (af8 : Nat → Int32) (af9 : Nat → Int32) (af10 : Nat → Int32) (af11 : Nat → Int32) (af12 : Nat → Int32) (af13 : Nat → Int32) (af14 : Nat → Int32) (af15 : Nat → Int32) (af16 : Nat → Int32) (af17 : Nat → Int32) (ts2 : List Value) (c8 : Nat) (c9 : Nat) (c10 : Nat) (c11 : Nat) (c12 : Nat) (c13 : Nat) (c14 : Nat) (c15 : Nat) (c16 : Nat) (c17 : Nat) (cf8 : Nat → Int32) (cf9 : Nat → Int32) (cf10 : Nat → Int32) (cf11 : Nat → Int32) (cf12 : Nat → Int32) (cf13 : Nat → Int32) (cf14 : Nat → Int32) (cf15 : Nat → Int32) (cf16 : Nat → Int32) (cf17 : Nat → Int32) (mfs : List Value) (m52 : Nat) (m53 : Nat) (m54 : Nat) (m55 : Nat) (m56 : Nat) (m57 : Nat) (m58 : Nat) (m59 : Nat) (m22 : Nat) (m60 : Nat) (m61 : Nat) (m62 : Nat) (m71 : Nat) (mf52 : Nat → Int32) (mf53 : Nat → Int32) (mf54 : Nat → Int32) (mf55 : Nat → Int32) (mf56 : Nat → Int32) (mf57 : Nat → Int32) (mf58 : Nat → Int32) (mf59 : Nat → Int32) (mf22 : Nat → Int32) (mf60 : Nat → Int32) (mf61 : Nat → Int32) (mf62 : Nat → Int32) (mf71 : Nat → Int32) {H : Heap} {locs : List Loc} {ls : Array Slot} (hf : fh fs 12 [(1, .ref pa), (2, .ref t0), (5, .ref t2)]) (hp : fh ps 19 [(0, .int 0), (1, .int 0), (2, .int 0)]) (ht0 : fh ts0 20 [(0, .int 0), (1, .int 0), (2, .int 0), (3, .int 0), (4, .int 0), (19, .ref pa), (8, .ref a8), (9, .ref a9), (10, .ref a10), (11, .ref a11), (12, .ref a12), (13, .ref a13), (14, .ref a14), (15, .ref a15), (16, .ref a16), (17, .ref a17)]) (ht2 : fh ts2 20 [(8, .ref c8), (9, .ref c9), (10, .ref c10), (11, .ref c11), (12, .ref c12), (13, .ref c13), (14, .ref c14), (15, .ref c15), (16, .ref c16), (17, .ref c17)]) (hmf : fh mfs 91 [(52, .ref m52), (53, .ref m53), (54, .ref m54), (55, .ref m55), (56, .ref m56), (57, .ref m57), (58, .ref m58), (59, .ref m59), (22, .ref m22), (60, .ref m60), (61, .ref m61), (62, .ref m62), (71, .ref m71), (12, .int 0), (13, .int 0), (14, .int 0)]) (he60_0 : mf60 0 = 0) (he61_0 : mf61 0 = 0) (hP : va_P G vwCl [(h0, .inr (7, fs)), (pa, .inr (2, ps)), (t0, .inr (6, ts0)), (a8, .inl (cA 0, 6, .inl af8)), (a9, .inl (cA 0, 6, .inl af9)), (a10, .inl (cA 0, 6, .inl af10)), (a11, .inl (cA 0, 6, .inl af11)), (a12, .inl (cA 0, 10, .inl af12)), (a13, .inl (cA 0, 10, .inl af13)), (a14, .inl (cA 0, 10, .inl af14)), (a15, .inl (cA 0, 50, .inl af15)), (a16, .inl (cA 0, 5, .inl af16)), (a17, .inl (cA 0, 5, .inl af17)), (t2, .inr (6, ts2)), (c8, .inl (cA 0, 6, .inl cf8)), (c9, .inl (cA 0, 6, .inl cf9)), (c10, .inl (cA 0, 6, .inl cf10)), (c11, .inl (cA 0, 6, .inl cf11)), (c12, .inl (cA 0, 10, .inl cf12)), (c13, .inl (cA 0, 10, .inl cf13)), (c14, .inl (cA 0, 10, .inl cf14)), (c15, .inl (cA 0, 50, .inl cf15)), (c16, .inl (cA 0, 5, .inl cf16)), (c17, .inl (cA 0, 5, .inl cf17)), (mm, .inr (8, mfs)), (m52, .inl (cA 0, 20, .inl mf52)), (m53, .inl (cA 0, 20, .inl mf53)), (m54, .inl (cA 0, 100, .inl mf54)), (m55, .inl (cA 0, 10, .inl mf55)), (m56, .inl (cA 0, 12, .inl mf56)), (m57, .inl (cA 0, 12, .inl mf57)), (m58, .inl (cA 0, 12, .inl mf58)), (m59, .inl (cA 0, 12, .inl mf59)), (m22, .inl (cA 0, 6, .inl mf22)), (m60, .inl (cA 0, 2, .inl mf60)), (m61, .inl (cA 0, 2, .inl mf61)), (m62, .inl (cA 0, 2, .inl mf62)), (m71, .inl (cA 0, 10, .inl mf71))] H) (hD : va_D A [(h0, .inr (7, fs)), (pa, .inr (2, ps)), (t0, .inr (6, ts0)), (a8, .inl (cA 0, 6, .inl af8)), (a9, .inl (cA 0, 6, .inl af9)), (a10, .inl (cA 0, 6, .inl af10)), (a11, .inl (cA 0, 6, .inl af11)), (a12, .inl (cA 0, 10, .inl af12)), (a13, .inl (cA 0, 10, .inl af13)), (a14, .inl (cA 0, 10, .inl af14)), (a15, .inl (cA 0, 50, .inl af15)), (a16, .inl (cA 0, 5, .inl af16)), (a17, .inl (cA 0, 5, .inl af17)), (t2, .inr (6, ts2)), (c8, .inl (cA 0, 6, .inl cf8)), (c9, .inl (cA 0, 6, .inl cf9)), (c10, .inl (cA 0, 6, .inl cf10)), (c11, .inl (cA 0, 6, .inl cf11)), (c12, .inl (cA 0, 10, .inl cf12)), (c13, .inl (cA 0, 10, .inl cf13)), (c14, .inl (cA 0, 10, .inl cf14)), (c15, .inl (cA 0, 50, .inl cf15)), (c16, .inl (cA 0, 5, .inl cf16)), (c17, .inl (cA 0, 5, .inl cf17)), (mm, .inr (8, mfs)), (m52, .inl (cA 0, 20, .inl mf52)), (m53, .inl (cA 0, 20, .inl mf53)), (m54, .inl (cA 0, 100, .inl mf54)), (m55, .inl (cA 0, 10, .inl mf55)), (m56, .inl (cA 0, 12, .inl mf56)), (m57, .inl (cA 0, 12, .inl mf57)), (m58, .inl (cA 0, 12, .inl mf58)), (m59, .inl (cA 0, 12, .inl mf59)), (m22, .inl (cA 0, 6, .inl mf22)), (m60, .inl (cA 0, 2, .inl mf60)), (m61, .inl (cA 0, 2, .inl mf61)), (m62, .inl (cA 0, 2, .inl mf62)), (m71, .inl (cA 0, 10, .inl mf71))]) (hS : va_S A s.heap H locs) (hl : lv_has ls 7 [(4, .int 0), (3, .ref oa), (2, .ref mm), (1, .ref h0), (0, .ref b)]) : W p l e room_1 s m #[Value.ref b] below meth c H locs 160 7660 (lw_Z below #[Value.ref b] s) (F0 m 1145 ls []) := by
  obtain ⟨hx, hb, hr, hml, hown, hts, hX, hbl, hlocks, hgv⟩ := id C0
  have hT : ∀ v ∈ T0, v.before #[Value.ref b] s = true := fun v h => hts v (tq_law_in v h)
  have hown : s.vm.findClass RL = some m.cls := hown
  have hA : ∀ q : Nat, s.heap.size ≤ q → A q := fun q h => by rw [hAe]; exact h
  have hbA : ¬ A b := by rw [hAe]; exact Nat.not_le.mpr hbl
  have hO := hN.2.2.2.2
  refine lv_aload_n hx hb dL_law_1145 rfl (lv_at hl 3 rfl) ?_
  refine lv_aload_n hx hb dL_law_1146 rfl (lv_at hl 4 rfl) ?_
  refine lv_iload hx hb dL_law_1147 (lv_at hl 0 rfl) ?_
  refine lv_iconst (v := 1) hx hb dL_law_1149 (by decide) ?_
  refine lv_iadd hx hb dL_law_1150 ?_
  refine tq_i (w := 1) (by decide) ?_
  refine va_sld (i := 1) hx hb hX hbl hbA hS (tq_in (by decide)) dL_law_1151 ?_
  refine tq_i (w := w1) hw1 ?_
  refine lv_aload_n hx hb dL_law_1152 rfl (lv_at hl 4 rfl) ?_
  refine lv_iload hx hb dL_law_1153 (lv_at hl 0 rfl) ?_
  refine lv_iconst (v := 2) hx hb dL_law_1155 (by decide) ?_
  refine lv_iadd hx hb dL_law_1156 ?_
  refine tq_i (w := 2) (by decide) ?_
  refine va_sld (i := 2) hx hb hX hbl hbA hS (tq_in (by decide)) dL_law_1157 ?_
  refine tq_i (w := w2) hw2 ?_
  refine tq_ci (wr := [(mm, .inr (8, mfs)), (m52, .inl (cA 0, 20, .inl mf52)), (m53, .inl (cA 0, 20, .inl mf53)), (m54, .inl (cA 0, 100, .inl mf54)), (m55, .inl (cA 0, 10, .inl mf55)), (m56, .inl (cA 0, 12, .inl mf56)), (m57, .inl (cA 0, 12, .inl mf57)), (m58, .inl (cA 0, 12, .inl mf58)), (m59, .inl (cA 0, 12, .inl mf59)), (m22, .inl (cA 0, 6, .inl mf22)), (m60, .inl (cA 0, 2, .inl mf60)), (m61, .inl (cA 0, 2, .inl mf61)), (m62, .inl (cA 0, 2, .inl mf62)), (m71, .inl (cA 0, 10, .inl mf71))]) hP hD hS hA [0, 1, 2, 3, 4, 5, 6, 7, 8, 9, 10, 11, 12, 13, 14, 15, 16, 17, 18, 19, 20, 21, 22, 23] [24, 25, 26, 27, 28, 29, 30, 31, 32, 33, 34, 35, 36, 37] rfl rfl (by decide) (by decide) (va_runV (As := [.int w1, .int w2]) (rest := []) ⟨hx, hb, hml, hown, hT⟩ (c_X7_tried l G cA H.size h0 w1 w2 fs pa t0 t2 ps ts0 a8 a9 a10 a11 a12 a13 a14 a15 a16 a17 af8 af9 af10 af11 af12 af13 af14 af15 af16 af17 ts2 c8 c9 c10 c11 c12 c13 c14 c15 c16 c17 cf8 cf9 cf10 cf11 cf12 cf13 cf14 cf15 cf16 cf17 (fh_sub hf [0, 1, 2] rfl) (fh_sub hp [0, 1, 2] rfl) (fh_sub ht0 [0, 1, 2, 3, 4, 5, 6, 7, 8, 9, 10, 11, 12, 13, 14, 15] rfl) (fh_sub ht2 [0, 1, 2, 3, 4, 5, 6, 7, 8, 9] rfl)) (cwV 2 hT (tq_gV kw_57_11 kw_57_12 kw_57_13 kw_1_2 kw_57_14) rfl rfl rfl (by decide +kernel) ⟨Nat.le_of_ble_eq_true rfl, Nat.le_of_ble_eq_true rfl⟩) ⟨(tq_pre (isC := [0, 1, 2, 3, 4, 5, 6, 7, 8, 9, 10, 11, 12, 13, 14, 15, 16, 17, 18, 19, 20, 21, 22, 23]) hP hD hK hN rfl (by decide)).1, va_recv hK hP (ci := 7) (q0 := 0) rfl rfl, (tq_pre (isC := [0, 1, 2, 3, 4, 5, 6, 7, 8, 9, 10, 11, 12, 13, 14, 15, 16, 17, 18, 19, 20, 21, 22, 23]) hP hD hK hN rfl (by decide)).2⟩ rfl rfl hl.1 rfl (lv_room (Nat.le_of_ble_eq_true rfl)) dL_law_1158 ⟨Nat.le_of_ble_eq_true rfl, Nat.le_of_ble_eq_true rfl⟩) (fun r101 u102 H locs hw103 hP hD hS => ?_)
  refine W.widen (k := 160) (n := 7660) (Nat.le_of_ble_eq_true rfl) (Nat.le_of_ble_eq_true rfl) ?_
  have hr104 := hw103
  subst hr104
  have hP : va_P G vwCl [(mm, .inr (8, mfs)), (m52, .inl (cA 0, 20, .inl mf52)), (m53, .inl (cA 0, 20, .inl mf53)), (m54, .inl (cA 0, 100, .inl mf54)), (m55, .inl (cA 0, 10, .inl mf55)), (m56, .inl (cA 0, 12, .inl mf56)), (m57, .inl (cA 0, 12, .inl mf57)), (m58, .inl (cA 0, 12, .inl mf58)), (m59, .inl (cA 0, 12, .inl mf59)), (m22, .inl (cA 0, 6, .inl mf22)), (m60, .inl (cA 0, 2, .inl mf60)), (m61, .inl (cA 0, 2, .inl mf61)), (m62, .inl (cA 0, 2, .inl mf62)), (m71, .inl (cA 0, 10, .inl mf71))] H := hP
  have hD : va_D A [(mm, .inr (8, mfs)), (m52, .inl (cA 0, 20, .inl mf52)), (m53, .inl (cA 0, 20, .inl mf53)), (m54, .inl (cA 0, 100, .inl mf54)), (m55, .inl (cA 0, 10, .inl mf55)), (m56, .inl (cA 0, 12, .inl mf56)), (m57, .inl (cA 0, 12, .inl mf57)), (m58, .inl (cA 0, 12, .inl mf58)), (m59, .inl (cA 0, 12, .inl mf59)), (m22, .inl (cA 0, 6, .inl mf22)), (m60, .inl (cA 0, 2, .inl mf60)), (m61, .inl (cA 0, 2, .inl mf61)), (m62, .inl (cA 0, 2, .inl mf62)), (m71, .inl (cA 0, 10, .inl mf71))] := hD
  refine lv_aload_n hx hb dL_law_1161 rfl (lv_at hl 2 rfl) ?_
  refine lv_aload_n hx hb dL_law_1162 rfl (lv_at hl 4 rfl) ?_
  refine lv_iload hx hb dL_law_1163 (lv_at hl 0 rfl) ?_
  refine lv_iconst (v := 1) hx hb dL_law_1165 (by decide) ?_
  refine lv_iadd hx hb dL_law_1166 ?_
  refine tq_i (w := 1) (by decide) ?_
  refine va_sld (i := 1) hx hb hX hbl hbA hS (tq_in (by decide)) dL_law_1167 ?_
  refine tq_i (w := w1) hw1 ?_
  refine lv_aload_n hx hb dL_law_1168 rfl (lv_at hl 4 rfl) ?_
  refine lv_iload hx hb dL_law_1169 (lv_at hl 0 rfl) ?_
  refine lv_iconst (v := 2) hx hb dL_law_1171 (by decide) ?_
  refine lv_iadd hx hb dL_law_1172 ?_
  refine tq_i (w := 2) (by decide) ?_
  refine va_sld (i := 2) hx hb hX hbl hbA hS (tq_in (by decide)) dL_law_1173 ?_
  refine tq_i (w := w2) hw2 ?_
  refine tq_ci (wr := []) hP hD hS hA [0, 1, 2, 3, 4, 5, 6, 7, 8, 9, 10, 11, 12, 13] [] rfl rfl (by decide) (by decide) (va_runV (As := [.int w1, .int w2]) (rest := [.int ((sp_tried w1 w2))]) ⟨hx, hb, hml, hown, hT⟩ (c_X8_tried l G cA H.size mm w1 w2 mfs m52 m53 m54 m55 m56 m57 m58 m59 m22 m60 m61 m62 m71 mf52 mf53 mf54 mf55 mf56 mf57 mf58 mf59 mf22 mf60 mf61 mf62 mf71 (fh_sub hmf [0, 1, 2, 3, 4, 5, 6, 7, 8, 9, 10, 11, 12, 13, 14, 15] rfl) he60_0 he61_0) (cwV 2 hT (tq_gV kw_58_0 kw_58_1 kw_58_2 kw_1_5 kw_58_3) rfl rfl rfl (by decide +kernel) ⟨Nat.le_of_ble_eq_true rfl, Nat.le_of_ble_eq_true rfl⟩) ⟨(tq_pre (isC := [0, 1, 2, 3, 4, 5, 6, 7, 8, 9, 10, 11, 12, 13]) hP hD hK hN rfl (by decide)).1, va_recv hK hP (ci := 8) (q0 := 0) rfl rfl, (tq_pre (isC := [0, 1, 2, 3, 4, 5, 6, 7, 8, 9, 10, 11, 12, 13]) hP hD hK hN rfl (by decide)).2⟩ rfl rfl hl.1 rfl (lv_room (Nat.le_of_ble_eq_true rfl)) dL_law_1174 ⟨Nat.le_of_ble_eq_true rfl, Nat.le_of_ble_eq_true rfl⟩) (fun r105 u106 H locs hw107 hP hD hS => ?_)
  refine W.widen (k := 160) (n := 7660) (Nat.le_of_ble_eq_true rfl) (Nat.le_of_ble_eq_true rfl) ?_
  have hr108 := hw107
  subst hr108
  have hP : va_P G vwCl [] H := hP
  have hD : va_D A [] := hD
  refine lv_icmp_eq (tgt := 1246) hx hb dL_law_1177 (by decide) (fun c109 => ?_) (fun c109 => absurd rfl c109)
  refine lv_iinc (v := 6) (lv' := [(4, .int 6), (3, .ref oa), (2, .ref mm), (1, .ref h0), (0, .ref b)]) hx hb dL_law_1246 hl (k := 0) rfl (by decide) (by decide) rfl (fun ls hl => ?_)
  refine lv_goto (tgt := 23) hx hb dL_law_1249 (by decide) ?_
  refine lv_iload hx hb dL_law_23 (lv_at hl 0 rfl) ?_
  refine lv_aload_n hx hb dL_law_25 rfl (lv_at hl 4 rfl) ?_
  refine va_slen hx hb hX hbl hbA hS dL_law_26 ?_
  refine tq_i (w := 6) (by decide) ?_
  refine lv_bipush (v := 6) hx hb dL_law_27 (by decide) ?_
  refine lv_isub hx hb dL_law_29 ?_
  refine tq_i (w := 0) (by decide) ?_
  refine lv_icmp_gt (tgt := 1252) hx hb dL_law_30 (by decide) (fun c110 => ?_) (fun c110 => absurd (by decide) c110)
  refine lv_iconst (v := 1) hx hb dL_law_1252 (by decide) ?_
  refine va_forget (fun q hq => by have h9 := hS.2.2 q hq; rw [hAe] at h9; exact h9) ?_
  refine W.widen (k := 600002) (n := 7302232) (Nat.le_of_ble_eq_true rfl) (Nat.le_of_ble_eq_true rfl) ?_
  exact lw_ret hx hb hr hlocks dL_law_1253

set_option maxHeartbeats 4000000 in
set_option maxRecDepth 100000 in
theorem law_30 {p : Program} {e : Env} {s : State} {m : MethodId} {below : List Frame} {meth : Method} {c : Code} (l : Launch) (hst : l.stackTraces = false) {b : Nat} {xs : Nat → Int32} (C0 : lw_At p s m meth c b 6 xs) (G : va_G) (cA : Nat → ClassId) {A : Nat → Prop} (hAe : A = fun q : Nat => s.heap.size ≤ q) (hK : va_K G vwCl (tyL cA) s) (hN : tqN s) (sP : Nat) (hXx : tqX sP A s s.heap) (w0 : Int32) (w1 : Int32) (w2 : Int32) (w3 : Int32) (w4 : Int32) (w5 : Int32) (hw0 : xs 0 = w0) (hw1 : xs 1 = w1) (hw2 : xs 2 = w2) (hw3 : xs 3 = w3) (hw4 : xs 4 = w4) (hw5 : xs 5 = w5) (h0 : Nat) (mm : Nat) (oa : Nat) (fs : List Value) (ch : Nat) (cs : List Value) (mfs : List Value) {H : Heap} {locs : List Loc} {ls : Array Slot} (hf : fh fs 12 [(7, .ref ch)]) (hch : fh cs 3 [(0, .int 0)]) (hmf : fh mfs 91 [(82, .int 0)]) (hP : va_P G vwCl [(h0, .inr (7, fs)), (ch, .inr (0, cs)), (mm, .inr (8, mfs))] H) (hD : va_D A [(h0, .inr (7, fs)), (ch, .inr (0, cs)), (mm, .inr (8, mfs))]) (hS : va_S A s.heap H locs) (hl : lv_has ls 7 [(4, .int 0), (3, .ref oa), (2, .ref mm), (1, .ref h0), (0, .ref b)]) : W p l e room_1 s m #[Value.ref b] below meth c H locs 160 7660 (lw_Z below #[Value.ref b] s) (F0 m 1182 ls []) := by
  obtain ⟨hx, hb, hr, hml, hown, hts, hX, hbl, hlocks, hgv⟩ := id C0
  have hT : ∀ v ∈ T0, v.before #[Value.ref b] s = true := fun v h => hts v (tq_law_in v h)
  have hown : s.vm.findClass RL = some m.cls := hown
  have hA : ∀ q : Nat, s.heap.size ≤ q → A q := fun q h => by rw [hAe]; exact h
  have hbA : ¬ A b := by rw [hAe]; exact Nat.not_le.mpr hbl
  have hO := hN.2.2.2.2
  refine lv_aload_n hx hb dL_law_1182 rfl (lv_at hl 3 rfl) ?_
  refine tq_ci (wr := [(mm, .inr (8, mfs))]) hP hD hS hA [0, 1] [2] rfl rfl (by decide) (by decide) (va_runV (As := []) (rest := []) ⟨hx, hb, hml, hown, hT⟩ (c_X7_undo l G cA H.size h0 fs ch cs (fh_sub hf [0] rfl) (fh_sub hch [0] rfl)) (cwV 0 hT (tq_gV kw_58_4 kw_58_5 kw_58_6 kw_1_2 kw_58_7) rfl rfl rfl (by decide +kernel) ⟨Nat.le_of_ble_eq_true rfl, Nat.le_of_ble_eq_true rfl⟩) ⟨(tq_pre (isC := [0, 1]) hP hD hK hN rfl (by decide)).1, va_recv hK hP (ci := 7) (q0 := 0) rfl rfl, (tq_pre (isC := [0, 1]) hP hD hK hN rfl (by decide)).2⟩ rfl rfl hl.1 rfl (lv_room (Nat.le_of_ble_eq_true rfl)) dL_law_1183 ⟨Nat.le_of_ble_eq_true rfl, Nat.le_of_ble_eq_true rfl⟩) (fun r101 u102 H locs hw103 hP hD hS => ?_)
  refine W.widen (k := 160) (n := 7660) (Nat.le_of_ble_eq_true rfl) (Nat.le_of_ble_eq_true rfl) ?_
  have hr104 := hw103
  subst hr104
  have hP : va_P G vwCl [(mm, .inr (8, mfs))] H := hP
  have hD : va_D A [(mm, .inr (8, mfs))] := hD
  refine lv_aload_n hx hb dL_law_1186 rfl (lv_at hl 2 rfl) ?_
  refine tq_ci (wr := []) hP hD hS hA [0] [] rfl rfl (by decide) (by decide) (va_runV (As := []) (rest := [.int (-1)]) ⟨hx, hb, hml, hown, hT⟩ (c_X8_undo l G cA H.size mm mfs (fh_sub hmf [0] rfl)) (cwV 0 hT (tq_gV kw_58_16 kw_58_17 kw_58_18 kw_1_5 kw_58_19) rfl rfl rfl (by decide +kernel) ⟨Nat.le_of_ble_eq_true rfl, Nat.le_of_ble_eq_true rfl⟩) ⟨(tq_pre (isC := [0]) hP hD hK hN rfl (by decide)).1, va_recv hK hP (ci := 8) (q0 := 0) rfl rfl, (tq_pre (isC := [0]) hP hD hK hN rfl (by decide)).2⟩ rfl rfl hl.1 rfl (lv_room (Nat.le_of_ble_eq_true rfl)) dL_law_1187 ⟨Nat.le_of_ble_eq_true rfl, Nat.le_of_ble_eq_true rfl⟩) (fun r105 u106 H locs hw107 hP hD hS => ?_)
  refine W.widen (k := 160) (n := 7660) (Nat.le_of_ble_eq_true rfl) (Nat.le_of_ble_eq_true rfl) ?_
  have hr108 := hw107
  subst hr108
  have hP : va_P G vwCl [] H := hP
  have hD : va_D A [] := hD
  refine lv_icmp_eq (tgt := 1246) hx hb dL_law_1190 (by decide) (fun c109 => ?_) (fun c109 => absurd (by decide) c109)
  refine lv_iinc (v := 6) (lv' := [(4, .int 6), (3, .ref oa), (2, .ref mm), (1, .ref h0), (0, .ref b)]) hx hb dL_law_1246 hl (k := 0) rfl (by decide) (by decide) rfl (fun ls hl => ?_)
  refine lv_goto (tgt := 23) hx hb dL_law_1249 (by decide) ?_
  refine lv_iload hx hb dL_law_23 (lv_at hl 0 rfl) ?_
  refine lv_aload_n hx hb dL_law_25 rfl (lv_at hl 4 rfl) ?_
  refine va_slen hx hb hX hbl hbA hS dL_law_26 ?_
  refine tq_i (w := 6) (by decide) ?_
  refine lv_bipush (v := 6) hx hb dL_law_27 (by decide) ?_
  refine lv_isub hx hb dL_law_29 ?_
  refine tq_i (w := 0) (by decide) ?_
  refine lv_icmp_gt (tgt := 1252) hx hb dL_law_30 (by decide) (fun c110 => ?_) (fun c110 => absurd (by decide) c110)
  refine lv_iconst (v := 1) hx hb dL_law_1252 (by decide) ?_
  refine va_forget (fun q hq => by have h9 := hS.2.2 q hq; rw [hAe] at h9; exact h9) ?_
  refine W.widen (k := 600002) (n := 7302232) (Nat.le_of_ble_eq_true rfl) (Nat.le_of_ble_eq_true rfl) ?_
  exact lw_ret hx hb hr hlocks dL_law_1253

set_option maxHeartbeats 4000000 in
set_option maxRecDepth 100000 in
theorem law_31 {p : Program} {e : Env} {s : State} {m : MethodId} {below : List Frame} {meth : Method} {c : Code} (l : Launch) (hst : l.stackTraces = false) {b : Nat} {xs : Nat → Int32} (C0 : lw_At p s m meth c b 6 xs) (G : va_G) (cA : Nat → ClassId) {A : Nat → Prop} (hAe : A = fun q : Nat => s.heap.size ≤ q) (hK : va_K G vwCl (tyL cA) s) (hN : tqN s) (sP : Nat) (hXx : tqX sP A s s.heap) (w0 : Int32) (w1 : Int32) (w2 : Int32) (w3 : Int32) (w4 : Int32) (w5 : Int32) (hw0 : xs 0 = w0) (hw1 : xs 1 = w1) (hw2 : xs 2 = w2) (hw3 : xs 3 = w3) (hw4 : xs 4 = w4) (hw5 : xs 5 = w5) (h0 : Nat) (mm : Nat) (oa : Nat) (fs : List Value) (t1 : Nat) (t0 : Nat) (ts1 : List Value) (b8 : Nat) (b9 : Nat) (b10 : Nat) (b11 : Nat) (b12 : Nat) (b13 : Nat) (b14 : Nat) (b15 : Nat) (b16 : Nat) (b17 : Nat) (bf8 : Nat → Int32) (bf9 : Nat → Int32) (bf10 : Nat → Int32) (bf11 : Nat → Int32) (bf12 : Nat → Int32) (bf13 : Nat → Int32) (bf14 : Nat → Int32) (bf15 : Nat → Int32) (bf16 : Nat → Int32) (bf17 : Nat → Int32) (ts0 : List Value) (pa : Nat) (a8 : Nat) (a9 : Nat) (a10 : Nat) (a11 : Nat) (a12 : Nat) (a13 : Nat) (a14 : Nat) (a15 : Nat) (a16 : Nat) (a17 : Nat) (af8 : Nat → Int32) (af9 : Nat → Int32) (af10 : Nat → Int32) (af11 : Nat → Int32) (af12 : Nat → Int32) (af13 : Nat → Int32) (af14 : Nat → Int32) (af15 : Nat → Int32) (af16 : Nat → Int32) (af17 : Nat → Int32) (mfs : List Value) (m54 : Nat) (m55 : Nat) (m57 : Nat) (m85 : Nat) (m52 : Nat) (m86 : Nat) (m58 : Nat) (m59 : Nat) (m87 : Nat) (m60 : Nat) (m61 : Nat) (dr : Int64) (mf54 : Nat → Int32) (mf55 : Nat → Int32) (mf57 : Nat → Int32) (mf85 : Nat → Int32) (mf52 : Nat → Int32) (mf86 : Nat → Int32) (mf58 : Nat → Int32) (mf59 : Nat → Int32) (mf87 : Nat → Int32) (mf60 : Nat → Int32) (mf61 : Nat → Int32) {H : Heap} {locs : List Loc} {ls : Array Slot} (hf : fh fs 12 [(3, .ref t1), (2, .ref t0)]) (ht1 : fh ts1 20 [(8, .ref b8), (9, .ref b9), (10, .ref b10), (11, .ref b11), (12, .ref b12), (13, .ref b13), (14, .ref b14), (15, .ref b15), (16, .ref b16), (17, .ref b17)]) (ht0 : fh ts0 20 [(0, .int 0), (1, .int 0), (2, .int 0), (3, .int 0), (4, .int 0), (19, .ref pa), (8, .ref a8), (9, .ref a9), (10, .ref a10), (11, .ref a11), (12, .ref a12), (13, .ref a13), (14, .ref a14), (15, .ref a15), (16, .ref a16), (17, .ref a17)]) (hmf : fh mfs 91 [(54, .ref m54), (55, .ref m55), (57, .ref m57), (85, .ref m85), (52, .ref m52), (86, .ref m86), (58, .ref m58), (59, .ref m59), (87, .ref m87), (60, .ref m60), (61, .ref m61), (63, .long dr)]) (he60_0 : mf60 0 = 0) (he61_0 : mf61 0 = 0) (hP : va_P G vwCl [(h0, .inr (7, fs)), (t1, .inr (6, ts1)), (b8, .inl (cA 0, 6, .inl bf8)), (b9, .inl (cA 0, 6, .inl bf9)), (b10, .inl (cA 0, 6, .inl bf10)), (b11, .inl (cA 0, 6, .inl bf11)), (b12, .inl (cA 0, 10, .inl bf12)), (b13, .inl (cA 0, 10, .inl bf13)), (b14, .inl (cA 0, 10, .inl bf14)), (b15, .inl (cA 0, 50, .inl bf15)), (b16, .inl (cA 0, 5, .inl bf16)), (b17, .inl (cA 0, 5, .inl bf17)), (t0, .inr (6, ts0)), (a8, .inl (cA 0, 6, .inl af8)), (a9, .inl (cA 0, 6, .inl af9)), (a10, .inl (cA 0, 6, .inl af10)), (a11, .inl (cA 0, 6, .inl af11)), (a12, .inl (cA 0, 10, .inl af12)), (a13, .inl (cA 0, 10, .inl af13)), (a14, .inl (cA 0, 10, .inl af14)), (a15, .inl (cA 0, 50, .inl af15)), (a16, .inl (cA 0, 5, .inl af16)), (a17, .inl (cA 0, 5, .inl af17)), (mm, .inr (8, mfs)), (m54, .inl (cA 0, 100, .inl mf54)), (m55, .inl (cA 0, 10, .inl mf55)), (m57, .inl (cA 0, 12, .inl mf57)), (m85, .inl (cA 0, 61, .inl mf85)), (m52, .inl (cA 0, 20, .inl mf52)), (m86, .inl (cA 0, 10, .inl mf86)), (m58, .inl (cA 0, 12, .inl mf58)), (m59, .inl (cA 0, 12, .inl mf59)), (m87, .inl (cA 0, 12, .inl mf87)), (m60, .inl (cA 0, 2, .inl mf60)), (m61, .inl (cA 0, 2, .inl mf61))] H) (hD : va_D A [(h0, .inr (7, fs)), (t1, .inr (6, ts1)), (b8, .inl (cA 0, 6, .inl bf8)), (b9, .inl (cA 0, 6, .inl bf9)), (b10, .inl (cA 0, 6, .inl bf10)), (b11, .inl (cA 0, 6, .inl bf11)), (b12, .inl (cA 0, 10, .inl bf12)), (b13, .inl (cA 0, 10, .inl bf13)), (b14, .inl (cA 0, 10, .inl bf14)), (b15, .inl (cA 0, 50, .inl bf15)), (b16, .inl (cA 0, 5, .inl bf16)), (b17, .inl (cA 0, 5, .inl bf17)), (t0, .inr (6, ts0)), (a8, .inl (cA 0, 6, .inl af8)), (a9, .inl (cA 0, 6, .inl af9)), (a10, .inl (cA 0, 6, .inl af10)), (a11, .inl (cA 0, 6, .inl af11)), (a12, .inl (cA 0, 10, .inl af12)), (a13, .inl (cA 0, 10, .inl af13)), (a14, .inl (cA 0, 10, .inl af14)), (a15, .inl (cA 0, 50, .inl af15)), (a16, .inl (cA 0, 5, .inl af16)), (a17, .inl (cA 0, 5, .inl af17)), (mm, .inr (8, mfs)), (m54, .inl (cA 0, 100, .inl mf54)), (m55, .inl (cA 0, 10, .inl mf55)), (m57, .inl (cA 0, 12, .inl mf57)), (m85, .inl (cA 0, 61, .inl mf85)), (m52, .inl (cA 0, 20, .inl mf52)), (m86, .inl (cA 0, 10, .inl mf86)), (m58, .inl (cA 0, 12, .inl mf58)), (m59, .inl (cA 0, 12, .inl mf59)), (m87, .inl (cA 0, 12, .inl mf87)), (m60, .inl (cA 0, 2, .inl mf60)), (m61, .inl (cA 0, 2, .inl mf61))]) (hS : va_S A s.heap H locs) (hl : lv_has ls 7 [(4, .int 0), (3, .ref oa), (2, .ref mm), (1, .ref h0), (0, .ref b)]) : W p l e room_1 s m #[Value.ref b] below meth c H locs 160 7660 (lw_Z below #[Value.ref b] s) (F0 m 1195 ls []) := by
  obtain ⟨hx, hb, hr, hml, hown, hts, hX, hbl, hlocks, hgv⟩ := id C0
  have hT : ∀ v ∈ T0, v.before #[Value.ref b] s = true := fun v h => hts v (tq_law_in v h)
  have hown : s.vm.findClass RL = some m.cls := hown
  have hA : ∀ q : Nat, s.heap.size ≤ q → A q := fun q h => by rw [hAe]; exact h
  have hbA : ¬ A b := by rw [hAe]; exact Nat.not_le.mpr hbl
  have hO := hN.2.2.2.2
  refine lv_aload_n hx hb dL_law_1195 rfl (lv_at hl 3 rfl) ?_
  refine tq_ci (wr := [(mm, .inr (8, mfs)), (m54, .inl (cA 0, 100, .inl mf54)), (m55, .inl (cA 0, 10, .inl mf55)), (m57, .inl (cA 0, 12, .inl mf57)), (m85, .inl (cA 0, 61, .inl mf85)), (m52, .inl (cA 0, 20, .inl mf52)), (m86, .inl (cA 0, 10, .inl mf86)), (m58, .inl (cA 0, 12, .inl mf58)), (m59, .inl (cA 0, 12, .inl mf59)), (m87, .inl (cA 0, 12, .inl mf87)), (m60, .inl (cA 0, 2, .inl mf60)), (m61, .inl (cA 0, 2, .inl mf61))]) hP hD hS hA [0, 1, 2, 3, 4, 5, 6, 7, 8, 9, 10, 11, 12, 13, 14, 15, 16, 17, 18, 19, 20, 21, 22] [23, 24, 25, 26, 27, 28, 29, 30, 31, 32, 33, 34] rfl rfl (by decide) (by decide) (va_runV (As := []) (rest := []) ⟨hx, hb, hml, hown, hT⟩ (c_X7_keep l G cA H.size h0 fs t1 t0 ts1 b8 b9 b10 b11 b12 b13 b14 b15 b16 b17 bf8 bf9 bf10 bf11 bf12 bf13 bf14 bf15 bf16 bf17 ts0 pa a8 a9 a10 a11 a12 a13 a14 a15 a16 a17 af8 af9 af10 af11 af12 af13 af14 af15 af16 af17 (fh_sub hf [0, 1] rfl) (fh_sub ht1 [0, 1, 2, 3, 4, 5, 6, 7, 8, 9] rfl) (fh_sub ht0 [0, 1, 2, 3, 4, 5, 6, 7, 8, 9, 10, 11, 12, 13, 14, 15] rfl)) (cwV 0 hT (tq_gV kw_59_0 kw_59_1 kw_59_2 kw_1_2 kw_59_3) rfl rfl rfl (by decide +kernel) ⟨Nat.le_of_ble_eq_true rfl, Nat.le_of_ble_eq_true rfl⟩) ⟨(tq_pre (isC := [0, 1, 2, 3, 4, 5, 6, 7, 8, 9, 10, 11, 12, 13, 14, 15, 16, 17, 18, 19, 20, 21, 22]) hP hD hK hN rfl (by decide)).1, va_recv hK hP (ci := 7) (q0 := 0) rfl rfl, (tq_pre (isC := [0, 1, 2, 3, 4, 5, 6, 7, 8, 9, 10, 11, 12, 13, 14, 15, 16, 17, 18, 19, 20, 21, 22]) hP hD hK hN rfl (by decide)).2⟩ rfl rfl hl.1 rfl (lv_room (Nat.le_of_ble_eq_true rfl)) dL_law_1196 ⟨Nat.le_of_ble_eq_true rfl, Nat.le_of_ble_eq_true rfl⟩) (fun r101 u102 H locs hw103 hP hD hS => ?_)
  refine W.widen (k := 160) (n := 7660) (Nat.le_of_ble_eq_true rfl) (Nat.le_of_ble_eq_true rfl) ?_
  have hr104 := hw103
  subst hr104
  have hP : va_P G vwCl [(mm, .inr (8, mfs)), (m54, .inl (cA 0, 100, .inl mf54)), (m55, .inl (cA 0, 10, .inl mf55)), (m57, .inl (cA 0, 12, .inl mf57)), (m85, .inl (cA 0, 61, .inl mf85)), (m52, .inl (cA 0, 20, .inl mf52)), (m86, .inl (cA 0, 10, .inl mf86)), (m58, .inl (cA 0, 12, .inl mf58)), (m59, .inl (cA 0, 12, .inl mf59)), (m87, .inl (cA 0, 12, .inl mf87)), (m60, .inl (cA 0, 2, .inl mf60)), (m61, .inl (cA 0, 2, .inl mf61))] H := hP
  have hD : va_D A [(mm, .inr (8, mfs)), (m54, .inl (cA 0, 100, .inl mf54)), (m55, .inl (cA 0, 10, .inl mf55)), (m57, .inl (cA 0, 12, .inl mf57)), (m85, .inl (cA 0, 61, .inl mf85)), (m52, .inl (cA 0, 20, .inl mf52)), (m86, .inl (cA 0, 10, .inl mf86)), (m58, .inl (cA 0, 12, .inl mf58)), (m59, .inl (cA 0, 12, .inl mf59)), (m87, .inl (cA 0, 12, .inl mf87)), (m60, .inl (cA 0, 2, .inl mf60)), (m61, .inl (cA 0, 2, .inl mf61))] := hD
  refine lv_aload_n hx hb dL_law_1199 rfl (lv_at hl 2 rfl) ?_
  refine tq_ci (wr := []) hP hD hS hA [0, 1, 2, 3, 4, 5, 6, 7, 8, 9, 10, 11] [] rfl rfl (by decide) (by decide) (va_runV (As := []) (rest := [.int 0]) ⟨hx, hb, hml, hown, hT⟩ (c_X8_keep l G cA H.size mm mfs m54 m55 m57 m85 m52 m86 m58 m59 m87 m60 m61 dr mf54 mf55 mf57 mf85 mf52 mf86 mf58 mf59 mf87 mf60 mf61 (fh_sub hmf [0, 1, 2, 3, 4, 5, 6, 7, 8, 9, 10, 11] rfl) he60_0 he61_0) (cwV 0 hT (tq_gV kw_59_4 kw_59_5 kw_59_6 kw_1_5 kw_59_7) rfl rfl rfl (by decide +kernel) ⟨Nat.le_of_ble_eq_true rfl, Nat.le_of_ble_eq_true rfl⟩) ⟨(tq_pre (isC := [0, 1, 2, 3, 4, 5, 6, 7, 8, 9, 10, 11]) hP hD hK hN rfl (by decide)).1, va_recv hK hP (ci := 8) (q0 := 0) rfl rfl, (tq_pre (isC := [0, 1, 2, 3, 4, 5, 6, 7, 8, 9, 10, 11]) hP hD hK hN rfl (by decide)).2⟩ rfl rfl hl.1 rfl (lv_room (Nat.le_of_ble_eq_true rfl)) dL_law_1200 ⟨Nat.le_of_ble_eq_true rfl, Nat.le_of_ble_eq_true rfl⟩) (fun r105 u106 H locs hw107 hP hD hS => ?_)
  refine W.widen (k := 160) (n := 7660) (Nat.le_of_ble_eq_true rfl) (Nat.le_of_ble_eq_true rfl) ?_
  have hr108 := hw107
  subst hr108
  have hP : va_P G vwCl [] H := hP
  have hD : va_D A [] := hD
  refine lv_icmp_eq (tgt := 1246) hx hb dL_law_1203 (by decide) (fun c109 => ?_) (fun c109 => absurd (by decide) c109)
  refine lv_iinc (v := 6) (lv' := [(4, .int 6), (3, .ref oa), (2, .ref mm), (1, .ref h0), (0, .ref b)]) hx hb dL_law_1246 hl (k := 0) rfl (by decide) (by decide) rfl (fun ls hl => ?_)
  refine lv_goto (tgt := 23) hx hb dL_law_1249 (by decide) ?_
  refine lv_iload hx hb dL_law_23 (lv_at hl 0 rfl) ?_
  refine lv_aload_n hx hb dL_law_25 rfl (lv_at hl 4 rfl) ?_
  refine va_slen hx hb hX hbl hbA hS dL_law_26 ?_
  refine tq_i (w := 6) (by decide) ?_
  refine lv_bipush (v := 6) hx hb dL_law_27 (by decide) ?_
  refine lv_isub hx hb dL_law_29 ?_
  refine tq_i (w := 0) (by decide) ?_
  refine lv_icmp_gt (tgt := 1252) hx hb dL_law_30 (by decide) (fun c110 => ?_) (fun c110 => absurd (by decide) c110)
  refine lv_iconst (v := 1) hx hb dL_law_1252 (by decide) ?_
  refine va_forget (fun q hq => by have h9 := hS.2.2 q hq; rw [hAe] at h9; exact h9) ?_
  refine W.widen (k := 600002) (n := 7302232) (Nat.le_of_ble_eq_true rfl) (Nat.le_of_ble_eq_true rfl) ?_
  exact lw_ret hx hb hr hlocks dL_law_1253

set_option maxHeartbeats 4000000 in
set_option maxRecDepth 100000 in
theorem law_32 {p : Program} {e : Env} {s : State} {m : MethodId} {below : List Frame} {meth : Method} {c : Code} (l : Launch) (hst : l.stackTraces = false) {b : Nat} {xs : Nat → Int32} (C0 : lw_At p s m meth c b 6 xs) (G : va_G) (cA : Nat → ClassId) {A : Nat → Prop} (hAe : A = fun q : Nat => s.heap.size ≤ q) (hK : va_K G vwCl (tyL cA) s) (hN : tqN s) (sP : Nat) (hXx : tqX sP A s s.heap) (w0 : Int32) (w1 : Int32) (w2 : Int32) (w3 : Int32) (w4 : Int32) (w5 : Int32) (hw0 : xs 0 = w0) (hw1 : xs 1 = w1) (hw2 : xs 2 = w2) (hw3 : xs 3 = w3) (hw4 : xs 4 = w4) (hw5 : xs 5 = w5) (h0 : Nat) (mm : Nat) (oa : Nat) (fs : List Value) (mfs : List Value) {H : Heap} {locs : List Loc} {ls : Array Slot} (hf : fh fs 12 [(4, .int 0)]) (hmf : fh mfs 91 [(84, .int 0)]) (hP : va_P G vwCl [(h0, .inr (7, fs)), (mm, .inr (8, mfs))] H) (hD : va_D A [(h0, .inr (7, fs)), (mm, .inr (8, mfs))]) (hS : va_S A s.heap H locs) (hl : lv_has ls 7 [(4, .int 0), (3, .ref oa), (2, .ref mm), (1, .ref h0), (0, .ref b)]) : W p l e room_1 s m #[Value.ref b] below meth c H locs 160 7660 (lw_Z below #[Value.ref b] s) (F0 m 1208 ls []) := by
  obtain ⟨hx, hb, hr, hml, hown, hts, hX, hbl, hlocks, hgv⟩ := id C0
  have hT : ∀ v ∈ T0, v.before #[Value.ref b] s = true := fun v h => hts v (tq_law_in v h)
  have hown : s.vm.findClass RL = some m.cls := hown
  have hA : ∀ q : Nat, s.heap.size ≤ q → A q := fun q h => by rw [hAe]; exact h
  have hbA : ¬ A b := by rw [hAe]; exact Nat.not_le.mpr hbl
  have hO := hN.2.2.2.2
  refine lv_aload_n hx hb dL_law_1208 rfl (lv_at hl 3 rfl) ?_
  refine tq_ci (wr := [(mm, .inr (8, mfs))]) hP hD hS hA [0] [1] rfl rfl (by decide) (by decide) (va_runV (As := []) (rest := []) ⟨hx, hb, hml, hown, hT⟩ (c_X7_back l G cA H.size h0 fs (fh_sub hf [0] rfl)) (cwV 0 hT (tq_gV kw_59_11 kw_59_12 kw_59_13 kw_1_2 kw_59_14) rfl rfl rfl (by decide +kernel) ⟨Nat.le_of_ble_eq_true rfl, Nat.le_of_ble_eq_true rfl⟩) ⟨(tq_pre (isC := [0]) hP hD hK hN rfl (by decide)).1, va_recv hK hP (ci := 7) (q0 := 0) rfl rfl, (tq_pre (isC := [0]) hP hD hK hN rfl (by decide)).2⟩ rfl rfl hl.1 rfl (lv_room (Nat.le_of_ble_eq_true rfl)) dL_law_1209 ⟨Nat.le_of_ble_eq_true rfl, Nat.le_of_ble_eq_true rfl⟩) (fun r101 u102 H locs hw103 hP hD hS => ?_)
  refine W.widen (k := 160) (n := 7660) (Nat.le_of_ble_eq_true rfl) (Nat.le_of_ble_eq_true rfl) ?_
  have hr104 := hw103
  subst hr104
  have hP : va_P G vwCl [(mm, .inr (8, mfs))] H := hP
  have hD : va_D A [(mm, .inr (8, mfs))] := hD
  refine lv_aload_n hx hb dL_law_1212 rfl (lv_at hl 2 rfl) ?_
  refine tq_ci (wr := []) hP hD hS hA [0] [] rfl rfl (by decide) (by decide) (va_runV (As := []) (rest := [.int (-1)]) ⟨hx, hb, hml, hown, hT⟩ (c_X8_back l G cA H.size mm mfs (fh_sub hmf [0] rfl)) (cwV 0 hT (tq_gV kw_59_15 kw_59_16 kw_59_17 kw_1_5 kw_59_18) rfl rfl rfl (by decide +kernel) ⟨Nat.le_of_ble_eq_true rfl, Nat.le_of_ble_eq_true rfl⟩) ⟨(tq_pre (isC := [0]) hP hD hK hN rfl (by decide)).1, va_recv hK hP (ci := 8) (q0 := 0) rfl rfl, (tq_pre (isC := [0]) hP hD hK hN rfl (by decide)).2⟩ rfl rfl hl.1 rfl (lv_room (Nat.le_of_ble_eq_true rfl)) dL_law_1213 ⟨Nat.le_of_ble_eq_true rfl, Nat.le_of_ble_eq_true rfl⟩) (fun r105 u106 H locs hw107 hP hD hS => ?_)
  refine W.widen (k := 160) (n := 7660) (Nat.le_of_ble_eq_true rfl) (Nat.le_of_ble_eq_true rfl) ?_
  have hr108 := hw107
  subst hr108
  have hP : va_P G vwCl [] H := hP
  have hD : va_D A [] := hD
  refine lv_icmp_eq (tgt := 1246) hx hb dL_law_1216 (by decide) (fun c109 => ?_) (fun c109 => absurd (by decide) c109)
  refine lv_iinc (v := 6) (lv' := [(4, .int 6), (3, .ref oa), (2, .ref mm), (1, .ref h0), (0, .ref b)]) hx hb dL_law_1246 hl (k := 0) rfl (by decide) (by decide) rfl (fun ls hl => ?_)
  refine lv_goto (tgt := 23) hx hb dL_law_1249 (by decide) ?_
  refine lv_iload hx hb dL_law_23 (lv_at hl 0 rfl) ?_
  refine lv_aload_n hx hb dL_law_25 rfl (lv_at hl 4 rfl) ?_
  refine va_slen hx hb hX hbl hbA hS dL_law_26 ?_
  refine tq_i (w := 6) (by decide) ?_
  refine lv_bipush (v := 6) hx hb dL_law_27 (by decide) ?_
  refine lv_isub hx hb dL_law_29 ?_
  refine tq_i (w := 0) (by decide) ?_
  refine lv_icmp_gt (tgt := 1252) hx hb dL_law_30 (by decide) (fun c110 => ?_) (fun c110 => absurd (by decide) c110)
  refine lv_iconst (v := 1) hx hb dL_law_1252 (by decide) ?_
  refine va_forget (fun q hq => by have h9 := hS.2.2 q hq; rw [hAe] at h9; exact h9) ?_
  refine W.widen (k := 600002) (n := 7302232) (Nat.le_of_ble_eq_true rfl) (Nat.le_of_ble_eq_true rfl) ?_
  exact lw_ret hx hb hr hlocks dL_law_1253

set_option maxHeartbeats 4000000 in
set_option maxRecDepth 100000 in
theorem law_33 {p : Program} {e : Env} {s : State} {m : MethodId} {below : List Frame} {meth : Method} {c : Code} (l : Launch) (hst : l.stackTraces = false) {b : Nat} {xs : Nat → Int32} (C0 : lw_At p s m meth c b 6 xs) (G : va_G) (cA : Nat → ClassId) {A : Nat → Prop} (hAe : A = fun q : Nat => s.heap.size ≤ q) (hK : va_K G vwCl (tyL cA) s) (hN : tqN s) (sP : Nat) (hXx : tqX sP A s s.heap) (w0 : Int32) (w1 : Int32) (w2 : Int32) (w3 : Int32) (w4 : Int32) (w5 : Int32) (hw0 : xs 0 = w0) (hw1 : xs 1 = w1) (hw2 : xs 2 = w2) (hw3 : xs 3 = w3) (hw4 : xs 4 = w4) (hw5 : xs 5 = w5) (h0 : Nat) (mm : Nat) (oa : Nat) (fs : List Value) (pa : Nat) (t0 : Nat) (sg : Nat) (ch : Nat) (ps : List Value) (ts0 : List Value) (gs : List Value) (cs : List Value) (mfs : List Value) (m60 : Nat) (m61 : Nat) (m22 : Nat) (mf60 : Nat → Int32) (mf61 : Nat → Int32) (mf22 : Nat → Int32) {H : Heap} {locs : List Loc} {ls : Array Slot} (hf : fh fs 12 [(1, .ref pa), (2, .ref t0), (8, .ref sg), (7, .ref ch)]) (hp : fh ps 19 [(0, .int 0), (1, .int 0), (2, .int 0), (3, .int 0), (4, .int 0)]) (ht0 : fh ts0 20 [(0, .int 0), (1, .int 0), (19, .ref pa)]) (hsg : fh gs 7 [(0, .int 0), (1, .int (-1))]) (hch : fh cs 3 [(0, .int 0)]) (hmf : fh mfs 91 [(60, .ref m60), (61, .ref m61), (22, .ref m22), (12, .int 0), (13, .int 0), (14, .int 0), (15, .int 0), (78, .int 0), (79, .int (-1)), (82, .int 0)]) (he60_0 : mf60 0 = 0) (he61_0 : mf61 0 = 0) (he22_0 : mf22 0 = 0) (hP : va_P G vwCl [(h0, .inr (7, fs)), (pa, .inr (2, ps)), (t0, .inr (6, ts0)), (sg, .inr (4, gs)), (ch, .inr (0, cs)), (mm, .inr (8, mfs)), (m60, .inl (cA 0, 2, .inl mf60)), (m61, .inl (cA 0, 2, .inl mf61)), (m22, .inl (cA 0, 6, .inl mf22))] H) (hD : va_D A [(h0, .inr (7, fs)), (pa, .inr (2, ps)), (t0, .inr (6, ts0)), (sg, .inr (4, gs)), (ch, .inr (0, cs)), (mm, .inr (8, mfs)), (m60, .inl (cA 0, 2, .inl mf60)), (m61, .inl (cA 0, 2, .inl mf61)), (m22, .inl (cA 0, 6, .inl mf22))]) (hS : va_S A s.heap H locs) (hl : lv_has ls 7 [(4, .int 0), (3, .ref oa), (2, .ref mm), (1, .ref h0), (0, .ref b)]) : W p l e room_1 s m #[Value.ref b] below meth c H locs 160 7660 (lw_Z below #[Value.ref b] s) (F0 m 1221 ls []) := by
  obtain ⟨hx, hb, hr, hml, hown, hts, hX, hbl, hlocks, hgv⟩ := id C0
  have hT : ∀ v ∈ T0, v.before #[Value.ref b] s = true := fun v h => hts v (tq_law_in v h)
  have hown : s.vm.findClass RL = some m.cls := hown
  have hA : ∀ q : Nat, s.heap.size ≤ q → A q := fun q h => by rw [hAe]; exact h
  have hbA : ¬ A b := by rw [hAe]; exact Nat.not_le.mpr hbl
  have hO := hN.2.2.2.2
  refine lv_aload_n hx hb dL_law_1221 rfl (lv_at hl 3 rfl) ?_
  refine lv_aload_n hx hb dL_law_1222 rfl (lv_at hl 4 rfl) ?_
  refine lv_iload hx hb dL_law_1223 (lv_at hl 0 rfl) ?_
  refine lv_iconst (v := 1) hx hb dL_law_1225 (by decide) ?_
  refine lv_iadd hx hb dL_law_1226 ?_
  refine tq_i (w := 1) (by decide) ?_
  refine va_sld (i := 1) hx hb hX hbl hbA hS (tq_in (by decide)) dL_law_1227 ?_
  refine tq_i (w := w1) hw1 ?_
  refine tq_ci (wr := [(mm, .inr (8, mfs)), (m60, .inl (cA 0, 2, .inl mf60)), (m61, .inl (cA 0, 2, .inl mf61)), (m22, .inl (cA 0, 6, .inl mf22))]) hP hD hS hA [0, 1, 2, 3, 4] [5, 6, 7, 8] rfl rfl (by decide) (by decide) (va_runV (As := [.int w1]) (rest := []) ⟨hx, hb, hml, hown, hT⟩ (c_X7_count l G cA H.size h0 w1 fs pa t0 sg ch ps ts0 gs cs (fh_sub hf [0, 1, 2, 3] rfl) (fh_sub hp [0, 1, 2, 3, 4] rfl) (fh_sub ht0 [0, 1, 2] rfl) (fh_sub hsg [0, 1] rfl) (fh_sub hch [0] rfl)) (cwV 1 hT (tq_gV kw_59_19 kw_59_20 kw_59_21 kw_1_2 kw_59_22) rfl rfl rfl (by decide +kernel) ⟨Nat.le_of_ble_eq_true rfl, Nat.le_of_ble_eq_true rfl⟩) ⟨(tq_pre (isC := [0, 1, 2, 3, 4]) hP hD hK hN rfl (by decide)).1, va_recv hK hP (ci := 7) (q0 := 0) rfl rfl, (tq_pre (isC := [0, 1, 2, 3, 4]) hP hD hK hN rfl (by decide)).2⟩ rfl rfl hl.1 rfl (lv_room (Nat.le_of_ble_eq_true rfl)) dL_law_1228 ⟨Nat.le_of_ble_eq_true rfl, Nat.le_of_ble_eq_true rfl⟩) (fun r101 u102 H locs hw103 hP hD hS => ?_)
  refine W.widen (k := 160) (n := 7660) (Nat.le_of_ble_eq_true rfl) (Nat.le_of_ble_eq_true rfl) ?_
  have hr104 := hw103
  subst hr104
  have hP : va_P G vwCl [(mm, .inr (8, mfs)), (m60, .inl (cA 0, 2, .inl mf60)), (m61, .inl (cA 0, 2, .inl mf61)), (m22, .inl (cA 0, 6, .inl mf22))] H := hP
  have hD : va_D A [(mm, .inr (8, mfs)), (m60, .inl (cA 0, 2, .inl mf60)), (m61, .inl (cA 0, 2, .inl mf61)), (m22, .inl (cA 0, 6, .inl mf22))] := hD
  refine lv_aload_n hx hb dL_law_1231 rfl (lv_at hl 2 rfl) ?_
  refine lv_aload_n hx hb dL_law_1232 rfl (lv_at hl 4 rfl) ?_
  refine lv_iload hx hb dL_law_1233 (lv_at hl 0 rfl) ?_
  refine lv_iconst (v := 1) hx hb dL_law_1235 (by decide) ?_
  refine lv_iadd hx hb dL_law_1236 ?_
  refine tq_i (w := 1) (by decide) ?_
  refine va_sld (i := 1) hx hb hX hbl hbA hS (tq_in (by decide)) dL_law_1237 ?_
  refine tq_i (w := w1) hw1 ?_
  refine tq_ci (wr := []) hP hD hS hA [0, 1, 2, 3] [] rfl rfl (by decide) (by decide) (va_runV (As := [.int w1]) (rest := [.int ((sp_count w1))]) ⟨hx, hb, hml, hown, hT⟩ (c_X8_count l G cA H.size mm w1 mfs m60 m61 m22 mf60 mf61 mf22 (fh_sub hmf [0, 1, 2, 3, 4, 5, 6, 7, 8, 9] rfl) he60_0 he61_0 he22_0) (cwV 1 hT (tq_gV kw_60_10 kw_60_11 kw_60_12 kw_1_5 kw_60_13) rfl rfl rfl (by decide +kernel) ⟨Nat.le_of_ble_eq_true rfl, Nat.le_of_ble_eq_true rfl⟩) ⟨(tq_pre (isC := [0, 1, 2, 3]) hP hD hK hN rfl (by decide)).1, va_recv hK hP (ci := 8) (q0 := 0) rfl rfl, (tq_pre (isC := [0, 1, 2, 3]) hP hD hK hN rfl (by decide)).2⟩ rfl rfl hl.1 rfl (lv_room (Nat.le_of_ble_eq_true rfl)) dL_law_1238 ⟨Nat.le_of_ble_eq_true rfl, Nat.le_of_ble_eq_true rfl⟩) (fun r105 u106 H locs hw107 hP hD hS => ?_)
  refine W.widen (k := 160) (n := 7660) (Nat.le_of_ble_eq_true rfl) (Nat.le_of_ble_eq_true rfl) ?_
  have hr108 := hw107
  subst hr108
  have hP : va_P G vwCl [] H := hP
  have hD : va_D A [] := hD
  refine lv_icmp_eq (tgt := 1246) hx hb dL_law_1241 (by decide) (fun c109 => ?_) (fun c109 => absurd rfl c109)
  refine lv_iinc (v := 6) (lv' := [(4, .int 6), (3, .ref oa), (2, .ref mm), (1, .ref h0), (0, .ref b)]) hx hb dL_law_1246 hl (k := 0) rfl (by decide) (by decide) rfl (fun ls hl => ?_)
  refine lv_goto (tgt := 23) hx hb dL_law_1249 (by decide) ?_
  refine lv_iload hx hb dL_law_23 (lv_at hl 0 rfl) ?_
  refine lv_aload_n hx hb dL_law_25 rfl (lv_at hl 4 rfl) ?_
  refine va_slen hx hb hX hbl hbA hS dL_law_26 ?_
  refine tq_i (w := 6) (by decide) ?_
  refine lv_bipush (v := 6) hx hb dL_law_27 (by decide) ?_
  refine lv_isub hx hb dL_law_29 ?_
  refine tq_i (w := 0) (by decide) ?_
  refine lv_icmp_gt (tgt := 1252) hx hb dL_law_30 (by decide) (fun c110 => ?_) (fun c110 => absurd (by decide) c110)
  refine lv_iconst (v := 1) hx hb dL_law_1252 (by decide) ?_
  refine va_forget (fun q hq => by have h9 := hS.2.2 q hq; rw [hAe] at h9; exact h9) ?_
  refine W.widen (k := 600002) (n := 7302232) (Nat.le_of_ble_eq_true rfl) (Nat.le_of_ble_eq_true rfl) ?_
  exact lw_ret hx hb hr hlocks dL_law_1253
