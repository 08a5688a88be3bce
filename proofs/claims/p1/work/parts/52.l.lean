set_option maxHeartbeats 4000000 in
set_option maxRecDepth 100000 in
theorem law_18 {p : Program} {e : Env} {s : State} {m : MethodId} {below : List Frame} {meth : Method} {c : Code} (l : Launch) (hst : l.stackTraces = false) {b : Nat} {xs : Nat → Int32} (C0 : lw_At p s m meth c b 6 xs) (G : va_G) (cA : Nat → ClassId) {A : Nat → Prop} (hAe : A = fun q : Nat => s.heap.size ≤ q) (hK : va_K G vwCl (tyL cA) s) (hN : tqN s) (sP : Nat) (hXx : tqX sP A s s.heap) (w0 : Int32) (w1 : Int32) (w2 : Int32) (w3 : Int32) (w4 : Int32) (w5 : Int32) (hw0 : xs 0 = w0) (hw1 : xs 1 = w1) (hw2 : xs 2 = w2) (hw3 : xs 3 = w3) (hw4 : xs 4 = w4) (hw5 : xs 5 = w5) (h0 : Nat) (mm : Nat) (oa : Nat) (fs : List Value) (pa : Nat) (t0 : Nat) (t2 : Nat) (ps : List Value) (ts0 : List Value) (a8 : Nat) (a9 : Nat) (a10 : Nat) (a11 : Nat) (a12 : Nat) (a13 : Nat) (a14 : Nat) (a15 : Nat) (a16 : Nat) (a17 : Nat) (af8 : Nat → Int32) (af9 : Nat → Int32) (af10 : Nat → Int32) (af11 : Nat → Int32) (af12 : Nat → Int32) (af13 : Nat → Int32) (af14 : Nat → Int32) (af15 : Nat → Int32) (af16 : Nat → Int32) (af17 : Nat → Int32) (ts2 : List Value) (c8 : Nat) (c9 : Nat) (c10 : Nat) (c11 : Nat) (c12 : Nat) (c13 : Nat) (c14 : Nat) (c15 : Nat) (c16 : Nat) (c17 : Nat) (cf8 : Nat → Int32) (cf9 : Nat → Int32) (cf10 : Nat → Int32) (cf11 : Nat → Int32) (cf12 : Nat → Int32) (cf13 : Nat → Int32) (cf14 : Nat → Int32) (cf15 : Nat → Int32) (cf16 : Nat → Int32) (cf17 : Nat → Int32) (mfs : List Value) (m52 : Nat) (m53 : Nat) (m54 : Nat) (m55 : Nat) (m56 : Nat) (m57 : Nat) (m58 : Nat) (m59 : Nat) (m22 : Nat) (m60 : Nat) (m61 : Nat) (m62 : Nat) (m71 : Nat) (mf52 : Nat → Int32) (mf53 : Nat → Int32) (mf54 : Nat → Int32) (mf55 : Nat → Int32) (mf56 : Nat → Int32) (mf57 : Nat → Int32) (mf58 : Nat → Int32) (mf59 : Nat → Int32) (mf22 : Nat → Int32) (mf60 : Nat → Int32) (mf61 : Nat → Int32) (mf62 : Nat → Int32) (mf71 : Nat → Int32) {H : Heap} {locs : List Loc} {ls : Array Slot} (hf : fh fs 12 [(1, .ref pa), (2, .ref t0), (5, .ref t2)]) (hp : fh ps 19 [(0, .int 0), (1, .int 0), (2, .int 0)]) (ht0 : fh ts0 20 [(0, .int 0), (1, .int 0), (2, .int 0), (3, .int 0), (4, .int 0), (19, .ref pa), (8, .ref a8), (9, .ref a9), (10, .ref a10), (11, .ref a11), (12, .ref a12), (13, .ref a13), (14, .ref a14), (15, .ref a15), (16, .ref a16), (17, .ref a17)]) (ht2 : fh ts2 20 [(8, .ref c8), (9, .ref c9), (10, .ref c10), (11, .ref c11), (12, .ref c12), (13, .ref c13), (14, .ref c14), (15, .ref c15), (16, .ref c16), (17, .ref c17)]) (hmf : fh mfs 91 [(52, .ref m52), (53, .ref m53), (54, .ref m54), (55, .ref m55), (56, .ref m56), (57, .ref m57), (58, .ref m58), (59, .ref m59), (22, .ref m22), (60, .ref m60), (61, .ref m61), (62, .ref m62), (71, .ref m71), (12, .int 0), (13, .int 0), (14, .int 0)]) (he60_0 : mf60 0 = 0) (he61_0 : mf61 0 = 0) (hP : va_P G vwCl [(h0, .inr (7, fs)), (pa, .inr (2, ps)), (t0, .inr (6, ts0)), (a8, .inl (cA 0, 6, .inl af8)), (a9, .inl (cA 0, 6, .inl af9)), (a10, .inl (cA 0, 6, .inl af10)), (a11, .inl (cA 0, 6, .inl af11)), (a12, .inl (cA 0, 10, .inl af12)), (a13, .inl (cA 0, 10, .inl af13)), (a14, .inl (cA 0, 10, .inl af14)), (a15, .inl (cA 0, 50, .inl af15)), (a16, .inl (cA 0, 5, .inl af16)), (a17, .inl (cA 0, 5, .inl af17)), (t2, .inr (6, ts2)), (c8, .inl (cA 0, 6, .inl cf8)), (c9, .inl (cA 0, 6, .inl cf9)), (c10, .inl (cA 0, 6, .inl cf10)), (c11, .inl (cA 0, 6, .inl cf11)), (c12, .inl (cA 0, 10, .inl cf12)), (c13, .inl (cA 0, 10, .inl cf13)), (c14, .inl (cA 0, 10, .inl cf14)), (c15, .inl (cA 0, 50, .inl cf15)), (c16, .inl (cA 0, 5, .inl cf16)), (c17, .inl (cA 0, 5, .inl cf17)), (mm, .inr (8, mfs)), (m52, .inl (cA 0, 20, .inl mf52)), (m53, .inl (cA 0, 20, .inl mf53)), (m54, .inl (cA 0, 100, .inl mf54)), (m55, .inl (cA 0, 10, .inl mf55)), (m56, .inl (cA 0, 12, .inl mf56)), (m57, .inl (cA 0, 12, .inl mf57)), (m58, .inl (cA 0, 12, .inl mf58)), (m59, .inl (cA 0, 12, .inl mf59)), (m22, .inl (cA 0, 6, .inl mf22)), (m60, .inl (cA 0, 2, .inl mf60)), (m61, .inl (cA 0, 2, .inl mf61)), (m62, .inl (cA 0, 2, .inl mf62)), (m71, .inl (cA 0, 10, .inl mf71))] H) (hD : va_D A [(h0, .inr (7, fs)), (pa, .inr (2, ps)), (t0, .inr (6, ts0)), (a8, .inl (cA 0, 6, .inl af8)), (a9, .inl (cA 0, 6, .inl af9)), (a10, .inl (cA 0, 6, .inl af10)), (a11, .inl (cA 0, 6, .inl af11)), (a12, .inl (cA 0, 10, .inl af12)), (a13, .inl (cA 0, 10, .inl af13)), (a14, .inl (cA 0, 10, .inl af14)), (a15, .inl (cA 0, 50, .inl af15)), (a16, .inl (cA 0, 5, .inl af16)), (a17, .inl (cA 0, 5, .inl af17)), (t2, .inr (6, ts2)), (c8, .inl (cA 0, 6, .inl cf8)), (c9, .inl (cA 0, 6, .inl cf9)), (c10, .inl (cA 0, 6, .inl cf10)), (c11, .inl (cA 0, 6, .inl cf11)), (c12, .inl (cA 0, 10, .inl cf12)), (c13, .inl (cA 0, 10, .inl cf13)), (c14, .inl (cA 0, 10, .inl cf14)), (c15, .inl (cA 0, 50, .inl cf15)), (c16, .inl (cA 0, 5, .inl cf16)), (c17, .inl (cA 0, 5, .inl cf17)), (mm, .inr (8, mfs)), (m52, .inl (cA 0, 20, .inl mf52)), (m53, .inl (cA 0, 20, .inl mf53)), (m54, .inl (cA 0, 100, .inl mf54)), (m55, .inl (cA 0, 10, .inl mf55)), (m56, .inl (cA 0, 12, .inl mf56)), (m57, .inl (cA 0, 12, .inl mf57)), (m58, .inl (cA 0, 12, .inl mf58)), (m59, .inl (cA 0, 12, .inl mf59)), (m22, .inl (cA 0, 6, .inl mf22)), (m60, .inl (cA 0, 2, .inl mf60)), (m61, .inl (cA 0, 2, .inl mf61)), (m62, .inl (cA 0, 2, .inl mf62)), (m71, .inl (cA 0, 10, .inl mf71))]) (hS : va_S A s.heap H locs) (hl : lv_has ls 7 [(4, .int 0), (3, .ref oa), (2, .ref mm), (1, .ref h0), (0, .ref b)]) : W p l e room_1 s m #[Value.ref b] below meth c H locs 160 7660 (lw_Z below #[Value.ref b] s) (F0 m 854 ls []) := by
  obtain ⟨hx, hb, hr, hml, hown, hts, hX, hbl, hlocks, hgv⟩ := id C0
  have hT : ∀ v ∈ T0, v.before #[Value.ref b] s = true := fun v h => hts v (tq_law_in v h)
  have hown : s.vm.findClass RL = some m.cls := hown
  have hA : ∀ q : Nat, s.heap.size ≤ q → A q := fun q h => by rw [hAe]; exact h
  have hbA : ¬ A b := by rw [hAe]; exact Nat.not_le.mpr hbl
  have hO := hN.2.2.2.2
  refine lv_aload_n hx hb dL_law_854 rfl (lv_at hl 3 rfl) ?_
  refine lv_aload_n hx hb dL_law_855 rfl (lv_at hl 4 rfl) ?_
  refine lv_iload hx hb dL_law_856 (lv_at hl 0 rfl) ?_
  refine lv_iconst (v := 1) hx hb dL_law_858 (by decide) ?_
  refine lv_iadd hx hb dL_law_859 ?_
  refine tq_i (w := 1) (by decide) ?_
  refine va_sld (i := 1) hx hb hX hbl hbA hS (tq_in (by decide)) dL_law_860 ?_
  refine tq_i (w := w1) hw1 ?_
  refine tq_ci (wr := [(mm, .inr (8, mfs)), (m52, .inl (cA 0, 20, .inl mf52)), (m53, .inl (cA 0, 20, .inl mf53)), (m54, .inl (cA 0, 100, .inl mf54)), (m55, .inl (cA 0, 10, .inl mf55)), (m56, .inl (cA 0, 12, .inl mf56)), (m57, .inl (cA 0, 12, .inl mf57)), (m58, .inl (cA 0, 12, .inl mf58)), (m59, .inl (cA 0, 12, .inl mf59)), (m22, .inl (cA 0, 6, .inl mf22)), (m60, .inl (cA 0, 2, .inl mf60)), (m61, .inl (cA 0, 2, .inl mf61)), (m62, .inl (cA 0, 2, .inl mf62)), (m71, .inl (cA 0, 10, .inl mf71))]) hP hD hS hA [0, 1, 2, 3, 4, 5, 6, 7, 8, 9, 10, 11, 12, 13, 14, 15, 16, 17, 18, 19, 20, 21, 22, 23] [24, 25, 26, 27, 28, 29, 30, 31, 32, 33, 34, 35, 36, 37] rfl rfl (by decide) (by decide) (va_runV (As := [.int w1]) (rest := []) ⟨hx, hb, hml, hown, hT⟩ (c_X7_byRule l G cA H.size h0 w1 fs pa t0 t2 ps ts0 a8 a9 a10 a11 a12 a13 a14 a15 a16 a17 af8 af9 af10 af11 af12 af13 af14 af15 af16 af17 ts2 c8 c9 c10 c11 c12 c13 c14 c15 c16 c17 cf8 cf9 cf10 cf11 cf12 cf13 cf14 cf15 cf16 cf17 (fh_sub hf [0, 1, 2] rfl) (fh_sub hp [0, 1, 2] rfl) (fh_sub ht0 [0, 1, 2, 3, 4, 5, 6, 7, 8, 9, 10, 11, 12, 13, 14, 15] rfl) (fh_sub ht2 [0, 1, 2, 3, 4, 5, 6, 7, 8, 9] rfl)) (cwV 1 hT (tq_gV kw_51_13 kw_51_14 kw_51_15 kw_1_2 kw_51_16) rfl rfl rfl (by decide +kernel) ⟨Nat.le_of_ble_eq_true rfl, Nat.le_of_ble_eq_true rfl⟩) ⟨(tq_pre (isC := [0, 1, 2, 3, 4, 5, 6, 7, 8, 9, 10, 11, 12, 13, 14, 15, 16, 17, 18, 19, 20, 21, 22, 23]) hP hD hK hN rfl (by decide)).1, va_recv hK hP (ci := 7) (q0 := 0) rfl rfl, (tq_pre (isC := [0, 1, 2, 3, 4, 5, 6, 7, 8, 9, 10, 11, 12, 13, 14, 15, 16, 17, 18, 19, 20, 21, 22, 23]) hP hD hK hN rfl (by decide)).2⟩ rfl rfl hl.1 rfl (lv_room (Nat.le_of_ble_eq_true rfl)) dL_law_861 ⟨Nat.le_of_ble_eq_true rfl, Nat.le_of_ble_eq_true rfl⟩) (fun r101 u102 H locs hw103 hP hD hS => ?_)
  refine W.widen (k := 160) (n := 7660) (Nat.le_of_ble_eq_true rfl) (Nat.le_of_ble_eq_true rfl) ?_
  have hr104 := hw103
  subst hr104
  have hP : va_P G vwCl [(mm, .inr (8, mfs)), (m52, .inl (cA 0, 20, .inl mf52)), (m53, .inl (cA 0, 20, .inl mf53)), (m54, .inl (cA 0, 100, .inl mf54)), (m55, .inl (cA 0, 10, .inl mf55)), (m56, .inl (cA 0, 12, .inl mf56)), (m57, .inl (cA 0, 12, .inl mf57)), (m58, .inl (cA 0, 12, .inl mf58)), (m59, .inl (cA 0, 12, .inl mf59)), (m22, .inl (cA 0, 6, .inl mf22)), (m60, .inl (cA 0, 2, .inl mf60)), (m61, .inl (cA 0, 2, .inl mf61)), (m62, .inl (cA 0, 2, .inl mf62)), (m71, .inl (cA 0, 10, .inl mf71))] H := hP
  have hD : va_D A [(mm, .inr (8, mfs)), (m52, .inl (cA 0, 20, .inl mf52)), (m53, .inl (cA 0, 20, .inl mf53)), (m54, .inl (cA 0, 100, .inl mf54)), (m55, .inl (cA 0, 10, .inl mf55)), (m56, .inl (cA 0, 12, .inl mf56)), (m57, .inl (cA 0, 12, .inl mf57)), (m58, .inl (cA 0, 12, .inl mf58)), (m59, .inl (cA 0, 12, .inl mf59)), (m22, .inl (cA 0, 6, .inl mf22)), (m60, .inl (cA 0, 2, .inl mf60)), (m61, .inl (cA 0, 2, .inl mf61)), (m62, .inl (cA 0, 2, .inl mf62)), (m71, .inl (cA 0, 10, .inl mf71))] := hD
  refine lv_aload_n hx hb dL_law_864 rfl (lv_at hl 2 rfl) ?_
  refine lv_aload_n hx hb dL_law_865 rfl (lv_at hl 4 rfl) ?_
  refine lv_iload hx hb dL_law_866 (lv_at hl 0 rfl) ?_
  refine lv_iconst (v := 1) hx hb dL_law_868 (by decide) ?_
  refine lv_iadd hx hb dL_law_869 ?_
  refine tq_i (w := 1) (by decide) ?_
  refine va_sld (i := 1) hx hb hX hbl hbA hS (tq_in (by decide)) dL_law_870 ?_
  refine tq_i (w := w1) hw1 ?_
  refine tq_ci (wr := []) hP hD hS hA [0, 1, 2, 3, 4, 5, 6, 7, 8, 9, 10, 11, 12, 13] [] rfl rfl (by decide) (by decide) (va_runV (As := [.int w1]) (rest := [.int ((sp_rule w1))]) ⟨hx, hb, hml, hown, hT⟩ (c_X8_byRule l G cA H.size mm w1 mfs m52 m53 m54 m55 m56 m57 m58 m59 m22 m60 m61 m62 m71 mf52 mf53 mf54 mf55 mf56 mf57 mf58 mf59 mf22 mf60 mf61 mf62 mf71 (fh_sub hmf [0, 1, 2, 3, 4, 5, 6, 7, 8, 9, 10, 11, 12, 13, 14, 15] rfl) he60_0 he61_0) (cwV 1 hT (tq_gV kw_51_18 kw_51_19 kw_51_20 kw_1_5 kw_51_21) rfl rfl rfl (by decide +kernel) ⟨Nat.le_of_ble_eq_true rfl, Nat.le_of_ble_eq_true rfl⟩) ⟨(tq_pre (isC := [0, 1, 2, 3, 4, 5, 6, 7, 8, 9, 10, 11, 12, 13]) hP hD hK hN rfl (by decide)).1, va_recv hK hP (ci := 8) (q0 := 0) rfl rfl, (tq_pre (isC := [0, 1, 2, 3, 4, 5, 6, 7, 8, 9, 10, 11, 12, 13]) hP hD hK hN rfl (by decide)).2⟩ rfl rfl hl.1 rfl (lv_room (Nat.le_of_ble_eq_true rfl)) dL_law_871 ⟨Nat.le_of_ble_eq_true rfl, Nat.le_of_ble_eq_true rfl⟩) (fun r105 u106 H locs hw107 hP hD hS => ?_)
  refine W.widen (k := 160) (n := 7660) (Nat.le_of_ble_eq_true rfl) (Nat.le_of_ble_eq_true rfl) ?_
  have hr108 := hw107
  subst hr108
  have hP : va_P G vwCl [] H := hP
  have hD : va_D A [] := hD
  refine lv_icmp_eq (tgt := 1246) hx hb dL_law_874 (by decide) (fun c109 => ?_) (fun c109 => absurd rfl c109)
  refine lv_iinc (v := 6) (lv' := [(4, .int 6), (3, .ref oa), (2, .ref mm), (1, .ref h0), (0, .ref b)]) hx hb dL_law_1246 hl (k := 0) rfl (by decide) (by decide) rfl (fun ls hl => ?_)
  refine lv_goto (tgt := 23) hx hb dL_law_1249 (by decide) ?_
  refine lv_iload hx hb dL_law_23 (lv_at hl 0 rfl) ?_
  refine lv_aload_n hx hb dL_law_25 rfl (lv_at hl 4 rfl) ?_
  refine va_slen hx hb hX hbl hbA hS dL_law_26 ?_
  refine tq_i (w := 6) (by decide) ?_
  refine lv_bipush (v := 6) hx hb dL_law_27 (by decide) ?_
  refine lv_isub hx hb dL_law_29 ?_
  refine tq_i (w := 0) (by decide) ?_
  refine lv_icmp_gt (tgt := 1252) hx hb dL_law_30 (by decide) (fun c110 => ?_) (fun c110 => absurd (by decide) c110)
  refine lv_iconst (v := 1) hx hb dL_law_1252 (by decide) ?_
  refine va_forget (fun q hq => by have h9 := hS.2.2 q hq; rw [hAe] at h9; exact h9) ?_
  refine W.widen (k := 600002) (n := 7302232) (Nat.le_of_ble_eq_true rfl) (Nat.le_of_ble_eq_true rfl) ?_
  exact lw_ret hx hb hr hlocks dL_law_1253

set_option maxHeartbeats 4000000 in
set_option maxRecDepth 100000 in
theorem law_19 {p : Program} {e : Env} {s : State} {m : MethodId} {below : List Frame} {meth : Method} {c : Code} (l : Launch) (hst : l.stackTraces = false) {b : Nat} {xs : Nat → Int32} (C0 : lw_At p s m meth c b 6 xs) (G : va_G) (cA : Nat → ClassId) {A : Nat → Prop} (hAe : A = fun q : Nat => s.heap.size ≤ q) (hK : va_K G vwCl (tyL cA) s) (hN : tqN s) (sP : Nat) (hXx : tqX sP A s s.heap) (w0 : Int32) (w1 : Int32) (w2 : Int32) (w3 : Int32) (w4 : Int32) (w5 : Int32) (hw0 : xs 0 = w0) (hw1 : xs 1 = w1) (hw2 : xs 2 = w2) (hw3 : xs 3 = w3) (hw4 : xs 4 = w4) (hw5 : xs 5 = w5) (h0 : Nat) (mm : Nat) (oa : Nat) (fs : List Value) (pa : Nat) (t0 : Nat) (t2 : Nat) (ps : List Value) (ts0 : List Value) (a8 : Nat) (a9 : Nat) (a10 : Nat) (a11 : Nat) (a12 : Nat) (a13 : Nat) (a14 : Nat) (a15 : Nat) (a16 : Nat) (a17 : Nat) (af8 : Nat → Int32) (af9 : Nat → Int32) (af10 : Nat → Int32) (af11 : Nat → Int32) (af12 : Nat → Int32) (af13 : Nat → Int32) (af14 : Nat → Int32) (af15 : Nat → Int32) (af16 : Nat → Int32) (af17 : Nat → Int32) (ts2 : List Value) (c8 : Nat) (c9 : Nat) (c10 : Nat) (c11 : Nat) (c12 : Nat) (c13 : Nat) (c14 : Nat) (c15 : Nat) (c16 : Nat) (c17 : Nat) (cf8 : Nat → Int32) (cf9 : Nat → Int32) (cf10 : Nat → Int32) (cf11 : Nat → Int32) (cf12 : Nat → Int32) (cf13 : Nat → Int32) (cf14 : Nat → Int32) (cf15 : Nat → Int32) (cf16 : Nat → Int32) (cf17 : Nat → Int32) (mfs : List Value) (m52 : Nat) (m53 : Nat) (m54 : Nat) (m55 : Nat) (m56 : Nat) (m57 : Nat) (m58 : Nat) (m59 : Nat) (m22 : Nat) (m60 : Nat) (m61 : Nat) (m62 : Nat) (m71 : Nat) (mf52 : Nat → Int32) (mf53 : Nat → Int32) (mf54 : Nat → Int32) (mf55 : Nat → Int32) (mf56 : Nat → Int32) (mf57 : Nat → Int32) (mf58 : Nat → Int32) (mf59 : Nat → Int32) (mf22 : Nat → Int32) (mf60 : Nat → Int32) (mf61 : Nat → Int32) (mf62 : Nat → Int32) (mf71 : Nat → Int32) {H : Heap} {locs : List Loc} {ls : Array Slot} (hf : fh fs 12 [(1, .ref pa), (2, .ref t0), (5, .ref t2)]) (hp : fh ps 19 [(0, .int 0), (1, .int 0), (2, .int 0)]) (ht0 : fh ts0 20 [(0, .int 0), (1, .int 0), (2, .int 0), (3, .int 0), (4, .int 0), (19, .ref pa), (8, .ref a8), (9, .ref a9), (10, .ref a10), (11, .ref a11), (12, .ref a12), (13, .ref a13), (14, .ref a14), (15, .ref a15), (16, .ref a16), (17, .ref a17)]) (ht2 : fh ts2 20 [(8, .ref c8), (9, .ref c9), (10, .ref c10), (11, .ref c11), (12, .ref c12), (13, .ref c13), (14, .ref c14), (15, .ref c15), (16, .ref c16), (17, .ref c17)]) (hmf : fh mfs 91 [(52, .ref m52), (53, .ref m53), (54, .ref m54), (55, .ref m55), (56, .ref m56), (57, .ref m57), (58, .ref m58), (59, .ref m59), (22, .ref m22), (60, .ref m60), (61, .ref m61), (62, .ref m62), (71, .ref m71), (12, .int 0), (13, .int 0), (14, .int 0)]) (he60_0 : mf60 0 = 0) (he61_0 : mf61 0 = 0) (hP : va_P G vwCl [(h0, .inr (7, fs)), (pa, .inr (2, ps)), (t0, .inr (6, ts0)), (a8, .inl (cA 0, 6, .inl af8)), (a9, .inl (cA 0, 6, .inl af9)), (a10, .inl (cA 0, 6, .inl af10)), (a11, .inl (cA 0, 6, .inl af11)), (a12, .inl (cA 0, 10, .inl af12)), (a13, .inl (cA 0, 10, .inl af13)), (a14, .inl (cA 0, 10, .inl af14)), (a15, .inl (cA 0, 50, .inl af15)), (a16, .inl (cA 0, 5, .inl af16)), (a17, .inl (cA 0, 5, .inl af17)), (t2, .inr (6, ts2)), (c8, .inl (cA 0, 6, .inl cf8)), (c9, .inl (cA 0, 6, .inl cf9)), (c10, .inl (cA 0, 6, .inl cf10)), (c11, .inl (cA 0, 6, .inl cf11)), (c12, .inl (cA 0, 10, .inl cf12)), (c13, .inl (cA 0, 10, .inl cf13)), (c14, .inl (cA 0, 10, .inl cf14)), (c15, .inl (cA 0, 50, .inl cf15)), (c16, .inl (cA 0, 5, .inl cf16)), (c17, .inl (cA 0, 5, .inl cf17)), (mm, .inr (8, mfs)), (m52, .inl (cA 0, 20, .inl mf52)), (m53, .inl (cA 0, 20, .inl mf53)), (m54, .inl (cA 0, 100, .inl mf54)), (m55, .inl (cA 0, 10, .inl mf55)), (m56, .inl (cA 0, 12, .inl mf56)), (m57, .inl (cA 0, 12, .inl mf57)), (m58, .inl (cA 0, 12, .inl mf58)), (m59, .inl (cA 0, 12, .inl mf59)), (m22, .inl (cA 0, 6, .inl mf22)), (m60, .inl (cA 0, 2, .inl mf60)), (m61, .inl (cA 0, 2, .inl mf61)), (m62, .inl (cA 0, 2, .inl mf62)), (m71, .inl (cA 0, 10, .inl mf71))] H) (hD : va_D A [(h0, .inr (7, fs)), (pa, .inr (2, ps)), (t0, .inr (6, ts0)), (a8, .inl (cA 0, 6, .inl af8)), (a9, .inl (cA 0, 6, .inl af9)), (a10, .inl (cA 0, 6, .inl af10)), (a11, .inl (cA 0, 6, .inl af11)), (a12, .inl (cA 0, 10, .inl af12)), (a13, .inl (cA 0, 10, .inl af13)), (a14, .inl (cA 0, 10, .inl af14)), (a15, .inl (cA 0, 50, .inl af15)), (a16, .inl (cA 0, 5, .inl af16)), (a17, .inl (cA 0, 5, .inl af17)), (t2, .inr (6, ts2)), (c8, .inl (cA 0, 6, .inl cf8)), (c9, .inl (cA 0, 6, .inl cf9)), (c10, .inl (cA 0, 6, .inl cf10)), (c11, .inl (cA 0, 6, .inl cf11)), (c12, .inl (cA 0, 10, .inl cf12)), (c13, .inl (cA 0, 10, .inl cf13)), (c14, .inl (cA 0, 10, .inl cf14)), (c15, .inl (cA 0, 50, .inl cf15)), (c16, .inl (cA 0, 5, .inl cf16)), (c17, .inl (cA 0, 5, .inl cf17)), (mm, .inr (8, mfs)), (m52, .inl (cA 0, 20, .inl mf52)), (m53, .inl (cA 0, 20, .inl mf53)), (m54, .inl (cA 0, 100, .inl mf54)), (m55, .inl (cA 0, 10, .inl mf55)), (m56, .inl (cA 0, 12, .inl mf56)), (m57, .inl (cA 0, 12, .inl mf57)), (m58, .inl (cA 0, 12, .inl mf58)), (m59, .inl (cA 0, 12, .inl mf59)), (m22, .inl (cA 0, 6, .inl mf22)), (m60, .inl (cA 0, 2, .inl mf60)), (m61, .inl (cA 0, 2, .inl mf61)), (m62, .inl (cA 0, 2, .inl mf62)), (m71, .inl (cA 0, 10, .inl mf71))]) (hS : va_S A s.heap H locs) (hl : lv_has ls 7 [(4, .int 0), (3, .ref oa), (2, .ref mm), (1, .ref h0), (0, .ref b)]) : W p l e room_1 s m #[Value.ref b] below meth c H locs 160 7660 (lw_Z below #[Value.ref b] s) (F0 m 879 ls []) := by
  obtain ⟨hx, hb, hr, hml, hown, hts, hX, hbl, hlocks, hgv⟩ := id C0
  have hT : ∀ v ∈ T0, v.before #[Value.ref b] s = true := fun v h => hts v (tq_law_in v h)
  have hown : s.vm.findClass RL = some m.cls := hown
  have hA : ∀ q : Nat, s.heap.size ≤ q → A q := fun q h => by rw [hAe]; exact h
  have hbA : ¬ A b := by rw [hAe]; exact Nat.not_le.mpr hbl
  have hO := hN.2.2.2.2
  refine lv_aload_n hx hb dL_law_879 rfl (lv_at hl 3 rfl) ?_
  refine tq_ci (wr := [(mm, .inr (8, mfs)), (m52, .inl (cA 0, 20, .inl mf52)), (m53, .inl (cA 0, 20, .inl mf53)), (m54, .inl (cA 0, 100, .inl mf54)), (m55, .inl (cA 0, 10, .inl mf55)), (m56, .inl (cA 0, 12, .inl mf56)), (m57, .inl (cA 0, 12, .inl mf57)), (m58, .inl (cA 0, 12, .inl mf58)), (m59, .inl (cA 0, 12, .inl mf59)), (m22, .inl (cA 0, 6, .inl mf22)), (m60, .inl (cA 0, 2, .inl mf60)), (m61, .inl (cA 0, 2, .inl mf61)), (m62, .inl (cA 0, 2, .inl mf62)), (m71, .inl (cA 0, 10, .inl mf71))]) hP hD hS hA [0, 1, 2, 3, 4, 5, 6, 7, 8, 9, 10, 11, 12, 13, 14, 15, 16, 17, 18, 19, 20, 21, 22, 23] [24, 25, 26, 27, 28, 29, 30, 31, 32, 33, 34, 35, 36, 37] rfl rfl (by decide) (by decide) (va_runV (As := []) (rest := []) ⟨hx, hb, hml, hown, hT⟩ (c_X7_bestRule l G cA H.size h0 fs pa t0 t2 ps ts0 a8 a9 a10 a11 a12 a13 a14 a15 a16 a17 af8 af9 af10 af11 af12 af13 af14 af15 af16 af17 ts2 c8 c9 c10 c11 c12 c13 c14 c15 c16 c17 cf8 cf9 cf10 cf11 cf12 cf13 cf14 cf15 cf16 cf17 (fh_sub hf [0, 1, 2] rfl) (fh_sub hp [0, 1, 2] rfl) (fh_sub ht0 [0, 1, 2, 3, 4, 5, 6, 7, 8, 9, 10, 11, 12, 13, 14, 15] rfl) (fh_sub ht2 [0, 1, 2, 3, 4, 5, 6, 7, 8, 9] rfl)) (cwV 0 hT (tq_gV kw_52_2 kw_52_3 kw_52_4 kw_1_2 kw_52_5) rfl rfl rfl (by decide +kernel) ⟨Nat.le_of_ble_eq_true rfl, Nat.le_of_ble_eq_true rfl⟩) ⟨(tq_pre (isC := [0, 1, 2, 3, 4, 5, 6, 7, 8, 9, 10, 11, 12, 13, 14, 15, 16, 17, 18, 19, 20, 21, 22, 23]) hP hD hK hN rfl (by decide)).1, va_recv hK hP (ci := 7) (q0 := 0) rfl rfl, (tq_pre (isC := [0, 1, 2, 3, 4, 5, 6, 7, 8, 9, 10, 11, 12, 13, 14, 15, 16, 17, 18, 19, 20, 21, 22, 23]) hP hD hK hN rfl (by decide)).2⟩ rfl rfl hl.1 rfl (lv_room (Nat.le_of_ble_eq_true rfl)) dL_law_880 ⟨Nat.le_of_ble_eq_true rfl, Nat.le_of_ble_eq_true rfl⟩) (fun r101 u102 H locs hw103 hP hD hS => ?_)
  refine W.widen (k := 160) (n := 7660) (Nat.le_of_ble_eq_true rfl) (Nat.le_of_ble_eq_true rfl) ?_
  have hr104 := hw103
  subst hr104
  have hP : va_P G vwCl [(mm, .inr (8, mfs)), (m52, .inl (cA 0, 20, .inl mf52)), (m53, .inl (cA 0, 20, .inl mf53)), (m54, .inl (cA 0, 100, .inl mf54)), (m55, .inl (cA 0, 10, .inl mf55)), (m56, .inl (cA 0, 12, .inl mf56)), (m57, .inl (cA 0, 12, .inl mf57)), (m58, .inl (cA 0, 12, .inl mf58)), (m59, .inl (cA 0, 12, .inl mf59)), (m22, .inl (cA 0, 6, .inl mf22)), (m60, .inl (cA 0, 2, .inl mf60)), (m61, .inl (cA 0, 2, .inl mf61)), (m62, .inl (cA 0, 2, .inl mf62)), (m71, .inl (cA 0, 10, .inl mf71))] H := hP
  have hD : va_D A [(mm, .inr (8, mfs)), (m52, .inl (cA 0, 20, .inl mf52)), (m53, .inl (cA 0, 20, .inl mf53)), (m54, .inl (cA 0, 100, .inl mf54)), (m55, .inl (cA 0, 10, .inl mf55)), (m56, .inl (cA 0, 12, .inl mf56)), (m57, .inl (cA 0, 12, .inl mf57)), (m58, .inl (cA 0, 12, .inl mf58)), (m59, .inl (cA 0, 12, .inl mf59)), (m22, .inl (cA 0, 6, .inl mf22)), (m60, .inl (cA 0, 2, .inl mf60)), (m61, .inl (cA 0, 2, .inl mf61)), (m62, .inl (cA 0, 2, .inl mf62)), (m71, .inl (cA 0, 10, .inl mf71))] := hD
  refine lv_aload_n hx hb dL_law_883 rfl (lv_at hl 2 rfl) ?_
  refine tq_ci (wr := []) hP hD hS hA [0, 1, 2, 3, 4, 5, 6, 7, 8, 9, 10, 11, 12, 13] [] rfl rfl (by decide) (by decide) (va_runV (As := []) (rest := [.int 0]) ⟨hx, hb, hml, hown, hT⟩ (c_X8_bestRule l G cA H.size mm mfs m52 m53 m54 m55 m56 m57 m58 m59 m22 m60 m61 m62 m71 mf52 mf53 mf54 mf55 mf56 mf57 mf58 mf59 mf22 mf60 mf61 mf62 mf71 (fh_sub hmf [0, 1, 2, 3, 4, 5, 6, 7, 8, 9, 10, 11, 12, 13, 14, 15] rfl) he60_0 he61_0) (cwV 0 hT (tq_gV kw_52_7 kw_52_8 kw_52_9 kw_1_5 kw_52_10) rfl rfl rfl (by decide +kernel) ⟨Nat.le_of_ble_eq_true rfl, Nat.le_of_ble_eq_true rfl⟩) ⟨(tq_pre (isC := [0, 1, 2, 3, 4, 5, 6, 7, 8, 9, 10, 11, 12, 13]) hP hD hK hN rfl (by decide)).1, va_recv hK hP (ci := 8) (q0 := 0) rfl rfl, (tq_pre (isC := [0, 1, 2, 3, 4, 5, 6, 7, 8, 9, 10, 11, 12, 13]) hP hD hK hN rfl (by decide)).2⟩ rfl rfl hl.1 rfl (lv_room (Nat.le_of_ble_eq_true rfl)) dL_law_884 ⟨Nat.le_of_ble_eq_true rfl, Nat.le_of_ble_eq_true rfl⟩) (fun r105 u106 H locs hw107 hP hD hS => ?_)
  refine W.widen (k := 160) (n := 7660) (Nat.le_of_ble_eq_true rfl) (Nat.le_of_ble_eq_true rfl) ?_
  have hr108 := hw107
  subst hr108
  have hP : va_P G vwCl [] H := hP
  have hD : va_D A [] := hD
  refine lv_icmp_eq (tgt := 1246) hx hb dL_law_887 (by decide) (fun c109 => ?_) (fun c109 => absurd (by decide) c109)
  refine lv_iinc (v := 6) (lv' := [(4, .int 6), (3, .ref oa), (2, .ref mm), (1, .ref h0), (0, .ref b)]) hx hb dL_law_1246 hl (k := 0) rfl (by decide) (by decide) rfl (fun ls hl => ?_)
  refine lv_goto (tgt := 23) hx hb dL_law_1249 (by decide) ?_
  refine lv_iload hx hb dL_law_23 (lv_at hl 0 rfl) ?_
  refine lv_aload_n hx hb dL_law_25 rfl (lv_at hl 4 rfl) ?_
  refine va_slen hx hb hX hbl hbA hS dL_law_26 ?_
  refine tq_i (w := 6) (by decide) ?_
  refine lv_bipush (v := 6) hx hb dL_law_27 (by decide) ?_
  refine lv_isub hx hb dL_law_29 ?_
  refine tq_i (w := 0) (by decide) ?_
  refine lv_icmp_gt (tgt := 1252) hx hb dL_law_30 (by decide) (fun c110 => ?_) (fun c110 => absurd (by decide) c110)
  refine lv_iconst (v := 1) hx hb dL_law_1252 (by decide) ?_
  refine va_forget (fun q hq => by have h9 := hS.2.2 q hq; rw [hAe] at h9; exact h9) ?_
  refine W.widen (k := 600002) (n := 7302232) (Nat.le_of_ble_eq_true rfl) (Nat.le_of_ble_eq_true rfl) ?_
  exact lw_ret hx hb hr hlocks dL_law_1253

set_option maxHeartbeats 4000000 in
set_option maxRecDepth 100000 in
theorem law_20 {p : Program} {e : Env} {s : State} {m : MethodId} {below : List Frame} {meth : Method} {c : Code} (l : Launch) (hst : l.stackTraces = false) {b : Nat} {xs : Nat → Int32} (C0 : lw_At p s m meth c b 6 xs) (G : va_G) (cA : Nat → ClassId) {A : Nat → Prop} (hAe : A = fun q : Nat => s.heap.size ≤ q) (hK : va_K G vwCl (tyL cA) s) (hN : tqN s) (sP : Nat) (hXx : tqX sP A s s.heap) (w0 : Int32) (w1 : Int32) (w2 : Int32) (w3 : Int32) (w4 : Int32) (w5 : Int32) (hw0 : xs 0 = w0) (hw1 : xs 1 = w1) (hw2 : xs 2 = w2) (hw3 : xs 3 = w3) (hw4 : xs 4 = w4) (hw5 : xs 5 = w5) (h0 : Nat) (mm : Nat) (oa : Nat) (fs : List Value) (pa : Nat) (t0 : Nat) (t2 : Nat) (t3 : Nat) (ps : List Value) (sa : Nat) (fsec : Nat → Int32) (ts0 : List Value) (a8 : Nat) (a9 : Nat) (a10 : Nat) (a11 : Nat) (a12 : Nat) (a13 : Nat) (a14 : Nat) (a15 : Nat) (a16 : Nat) (a17 : Nat) (af8 : Nat → Int32) (af9 : Nat → Int32) (af10 : Nat → Int32) (af11 : Nat → Int32) (af12 : Nat → Int32) (af13 : Nat → Int32) (af14 : Nat → Int32) (af15 : Nat → Int32) (af16 : Nat → Int32) (af17 : Nat → Int32) (ts2 : List Value) (c8 : Nat) (c9 : Nat) (c10 : Nat) (c11 : Nat) (c12 : Nat) (c13 : Nat) (c14 : Nat) (c15 : Nat) (c16 : Nat) (c17 : Nat) (cf8 : Nat → Int32) (cf9 : Nat → Int32) (cf10 : Nat → Int32) (cf11 : Nat → Int32) (cf12 : Nat → Int32) (cf13 : Nat → Int32) (cf14 : Nat → Int32) (cf15 : Nat → Int32) (cf16 : Nat → Int32) (cf17 : Nat → Int32) (ts3 : List Value) (d8 : Nat) (d9 : Nat) (d10 : Nat) (d11 : Nat) (d12 : Nat) (d13 : Nat) (d14 : Nat) (d15 : Nat) (d16 : Nat) (d17 : Nat) (df8 : Nat → Int32) (df9 : Nat → Int32) (df10 : Nat → Int32) (df11 : Nat → Int32) (df12 : Nat → Int32) (df13 : Nat → Int32) (df14 : Nat → Int32) (df15 : Nat → Int32) (df16 : Nat → Int32) (df17 : Nat → Int32) (mfs : List Value) (m52 : Nat) (m53 : Nat) (m54 : Nat) (m55 : Nat) (m56 : Nat) (m57 : Nat) (m58 : Nat) (m59 : Nat) (m22 : Nat) (m60 : Nat) (m61 : Nat) (m62 : Nat) (m71 : Nat) (mf52 : Nat → Int32) (mf53 : Nat → Int32) (mf54 : Nat → Int32) (mf55 : Nat → Int32) (mf56 : Nat → Int32) (mf57 : Nat → Int32) (mf58 : Nat → Int32) (mf59 : Nat → Int32) (mf22 : Nat → Int32) (mf60 : Nat → Int32) (mf61 : Nat → Int32) (mf62 : Nat → Int32) (mf71 : Nat → Int32) {H : Heap} {locs : List Loc} {ls : Array Slot} (hf : fh fs 12 [(1, .ref pa), (2, .ref t0), (5, .ref t2), (6, .ref t3)]) (hp : fh ps 19 [(0, .int 0), (1, .int 0), (2, .int 0), (17, .ref sa)]) (hsec : ∀ j, j < 21 → fsec j = 60) (ht0 : fh ts0 20 [(0, .int 0), (1, .int 0), (2, .int 0), (3, .int 0), (4, .int 0), (19, .ref pa), (8, .ref a8), (9, .ref a9), (10, .ref a10), (11, .ref a11), (12, .ref a12), (13, .ref a13), (14, .ref a14), (15, .ref a15), (16, .ref a16), (17, .ref a17)]) (ht2 : fh ts2 20 [(8, .ref c8), (9, .ref c9), (10, .ref c10), (11, .ref c11), (12, .ref c12), (13, .ref c13), (14, .ref c14), (15, .ref c15), (16, .ref c16), (17, .ref c17)]) (ht3 : fh ts3 20 [(8, .ref d8), (9, .ref d9), (10, .ref d10), (11, .ref d11), (12, .ref d12), (13, .ref d13), (14, .ref d14), (15, .ref d15), (16, .ref d16), (17, .ref d17)]) (hmf : fh mfs 91 [(52, .ref m52), (53, .ref m53), (54, .ref m54), (55, .ref m55), (56, .ref m56), (57, .ref m57), (58, .ref m58), (59, .ref m59), (22, .ref m22), (60, .ref m60), (61, .ref m61), (62, .ref m62), (71, .ref m71), (12, .int 0), (13, .int 0), (14, .int 0)]) (he60_0 : mf60 0 = 0) (he61_0 : mf61 0 = 0) (hP : va_P G vwCl [(h0, .inr (7, fs)), (pa, .inr (2, ps)), (sa, .inl (cA 0, 21, .inl fsec)), (t0, .inr (6, ts0)), (a8, .inl (cA 0, 6, .inl af8)), (a9, .inl (cA 0, 6, .inl af9)), (a10, .inl (cA 0, 6, .inl af10)), (a11, .inl (cA 0, 6, .inl af11)), (a12, .inl (cA 0, 10, .inl af12)), (a13, .inl (cA 0, 10, .inl af13)), (a14, .inl (cA 0, 10, .inl af14)), (a15, .inl (cA 0, 50, .inl af15)), (a16, .inl (cA 0, 5, .inl af16)), (a17, .inl (cA 0, 5, .inl af17)), (t2, .inr (6, ts2)), (c8, .inl (cA 0, 6, .inl cf8)), (c9, .inl (cA 0, 6, .inl cf9)), (c10, .inl (cA 0, 6, .inl cf10)), (c11, .inl (cA 0, 6, .inl cf11)), (c12, .inl (cA 0, 10, .inl cf12)), (c13, .inl (cA 0, 10, .inl cf13)), (c14, .inl (cA 0, 10, .inl cf14)), (c15, .inl (cA 0, 50, .inl cf15)), (c16, .inl (cA 0, 5, .inl cf16)), (c17, .inl (cA 0, 5, .inl cf17)), (t3, .inr (6, ts3)), (d8, .inl (cA 0, 6, .inl df8)), (d9, .inl (cA 0, 6, .inl df9)), (d10, .inl (cA 0, 6, .inl df10)), (d11, .inl (cA 0, 6, .inl df11)), (d12, .inl (cA 0, 10, .inl df12)), (d13, .inl (cA 0, 10, .inl df13)), (d14, .inl (cA 0, 10, .inl df14)), (d15, .inl (cA 0, 50, .inl df15)), (d16, .inl (cA 0, 5, .inl df16)), (d17, .inl (cA 0, 5, .inl df17)), (mm, .inr (8, mfs)), (m52, .inl (cA 0, 20, .inl mf52)), (m53, .inl (cA 0, 20, .inl mf53)), (m54, .inl (cA 0, 100, .inl mf54)), (m55, .inl (cA 0, 10, .inl mf55)), (m56, .inl (cA 0, 12, .inl mf56)), (m57, .inl (cA 0, 12, .inl mf57)), (m58, .inl (cA 0, 12, .inl mf58)), (m59, .inl (cA 0, 12, .inl mf59)), (m22, .inl (cA 0, 6, .inl mf22)), (m60, .inl (cA 0, 2, .inl mf60)), (m61, .inl (cA 0, 2, .inl mf61)), (m62, .inl (cA 0, 2, .inl mf62)), (m71, .inl (cA 0, 10, .inl mf71))] H) (hD : va_D A [(h0, .inr (7, fs)), (pa, .inr (2, ps)), (sa, .inl (cA 0, 21, .inl fsec)), (t0, .inr (6, ts0)), (a8, .inl (cA 0, 6, .inl af8)), (a9, .inl (cA 0, 6, .inl af9)), (a10, .inl (cA 0, 6, .inl af10)), (a11, .inl (cA 0, 6, .inl af11)), (a12, .inl (cA 0, 10, .inl af12)), (a13, .inl (cA 0, 10, .inl af13)), (a14, .inl (cA 0, 10, .inl af14)), (a15, .inl (cA 0, 50, .inl af15)), (a16, .inl (cA 0, 5, .inl af16)), (a17, .inl (cA 0, 5, .inl af17)), (t2, .inr (6, ts2)), (c8, .inl (cA 0, 6, .inl cf8)), (c9, .inl (cA 0, 6, .inl cf9)), (c10, .inl (cA 0, 6, .inl cf10)), (c11, .inl (cA 0, 6, .inl cf11)), (c12, .inl (cA 0, 10, .inl cf12)), (c13, .inl (cA 0, 10, .inl cf13)), (c14, .inl (cA 0, 10, .inl cf14)), (c15, .inl (cA 0, 50, .inl cf15)), (c16, .inl (cA 0, 5, .inl cf16)), (c17, .inl (cA 0, 5, .inl cf17)), (t3, .inr (6, ts3)), (d8, .inl (cA 0, 6, .inl df8)), (d9, .inl (cA 0, 6, .inl df9)), (d10, .inl (cA 0, 6, .inl df10)), (d11, .inl (cA 0, 6, .inl df11)), (d12, .inl (cA 0, 10, .inl df12)), (d13, .inl (cA 0, 10, .inl df13)), (d14, .inl (cA 0, 10, .inl df14)), (d15, .inl (cA 0, 50, .inl df15)), (d16, .inl (cA 0, 5, .inl df16)), (d17, .inl (cA 0, 5, .inl df17)), (mm, .inr (8, mfs)), (m52, .inl (cA 0, 20, .inl mf52)), (m53, .inl (cA 0, 20, .inl mf53)), (m54, .inl (cA 0, 100, .inl mf54)), (m55, .inl (cA 0, 10, .inl mf55)), (m56, .inl (cA 0, 12, .inl mf56)), (m57, .inl (cA 0, 12, .inl mf57)), (m58, .inl (cA 0, 12, .inl mf58)), (m59, .inl (cA 0, 12, .inl mf59)), (m22, .inl (cA 0, 6, .inl mf22)), (m60, .inl (cA 0, 2, .inl mf60)), (m61, .inl (cA 0, 2, .inl mf61)), (m62, .inl (cA 0, 2, .inl mf62)), (m71, .inl (cA 0, 10, .inl mf71))]) (hS : va_S A s.heap H locs) (hl : lv_has ls 7 [(4, .int 0), (3, .ref oa), (2, .ref mm), (1, .ref h0), (0, .ref b)]) : W p l e room_1 s m #[Value.ref b] below meth c H locs 160 7660 (lw_Z below #[Value.ref b] s) (F0 m 892 ls []) := by
  obtain ⟨hx, hb, hr, hml, hown, hts, hX, hbl, hlocks, hgv⟩ := id C0
  have hT : ∀ v ∈ T0, v.before #[Value.ref b] s = true := fun v h => hts v (tq_law_in v h)
  have hown : s.vm.findClass RL = some m.cls := hown
  have hA : ∀ q : Nat, s.heap.size ≤ q → A q := fun q h => by rw [hAe]; exact h
  have hbA : ¬ A b := by rw [hAe]; exact Nat.not_le.mpr hbl
  have hO := hN.2.2.2.2
  refine lv_aload_n hx hb dL_law_892 rfl (lv_at hl 3 rfl) ?_
  refine lv_aload_n hx hb dL_law_893 rfl (lv_at hl 4 rfl) ?_
  refine lv_iload hx hb dL_law_894 (lv_at hl 0 rfl) ?_
  refine lv_iconst (v := 1) hx hb dL_law_896 (by decide) ?_
  refine lv_iadd hx hb dL_law_897 ?_
  refine tq_i (w := 1) (by decide) ?_
  refine va_sld (i := 1) hx hb hX hbl hbA hS (tq_in (by decide)) dL_law_898 ?_
  refine tq_i (w := w1) hw1 ?_
  refine tq_ci (wr := [(mm, .inr (8, mfs)), (m52, .inl (cA 0, 20, .inl mf52)), (m53, .inl (cA 0, 20, .inl mf53)), (m54, .inl (cA 0, 100, .inl mf54)), (m55, .inl (cA 0, 10, .inl mf55)), (m56, .inl (cA 0, 12, .inl mf56)), (m57, .inl (cA 0, 12, .inl mf57)), (m58, .inl (cA 0, 12, .inl mf58)), (m59, .inl (cA 0, 12, .inl mf59)), (m22, .inl (cA 0, 6, .inl mf22)), (m60, .inl (cA 0, 2, .inl mf60)), (m61, .inl (cA 0, 2, .inl mf61)), (m62, .inl (cA 0, 2, .inl mf62)), (m71, .inl (cA 0, 10, .inl mf71))]) hP hD hS hA [0, 1, 2, 3, 4, 5, 6, 7, 8, 9, 10, 11, 12, 13, 14, 15, 16, 17, 18, 19, 20, 21, 22, 23, 24, 25, 26, 27, 28, 29, 30, 31, 32, 33, 34, 35] [36, 37, 38, 39, 40, 41, 42, 43, 44, 45, 46, 47, 48, 49] rfl rfl (by decide) (by decide) (va_runV (As := [.int w1]) (rest := []) ⟨hx, hb, hml, hown, hT⟩ (c_X7_missed l G cA H.size h0 w1 fs pa t0 t2 t3 ps sa fsec ts0 a8 a9 a10 a11 a12 a13 a14 a15 a16 a17 af8 af9 af10 af11 af12 af13 af14 af15 af16 af17 ts2 c8 c9 c10 c11 c12 c13 c14 c15 c16 c17 cf8 cf9 cf10 cf11 cf12 cf13 cf14 cf15 cf16 cf17 ts3 d8 d9 d10 d11 d12 d13 d14 d15 d16 d17 df8 df9 df10 df11 df12 df13 df14 df15 df16 df17 (fh_sub hf [0, 1, 2, 3] rfl) (fh_sub hp [0, 1, 2, 3] rfl) hsec (fh_sub ht0 [0, 1, 2, 3, 4, 5, 6, 7, 8, 9, 10, 11, 12, 13, 14, 15] rfl) (fh_sub ht2 [0, 1, 2, 3, 4, 5, 6, 7, 8, 9] rfl) (fh_sub ht3 [0, 1, 2, 3, 4, 5, 6, 7, 8, 9] rfl)) (cwV 1 hT (tq_gV kw_52_11 kw_52_12 kw_52_13 kw_1_2 kw_52_14) rfl rfl rfl (by decide +kernel) ⟨Nat.le_of_ble_eq_true rfl, Nat.le_of_ble_eq_true rfl⟩) ⟨(tq_pre (isC := [0, 1, 2, 3, 4, 5, 6, 7, 8, 9, 10, 11, 12, 13, 14, 15, 16, 17, 18, 19, 20, 21, 22, 23, 24, 25, 26, 27, 28, 29, 30, 31, 32, 33, 34, 35]) hP hD hK hN rfl (by decide)).1, va_recv hK hP (ci := 7) (q0 := 0) rfl rfl, (tq_pre (isC := [0, 1, 2, 3, 4, 5, 6, 7, 8, 9, 10, 11, 12, 13, 14, 15, 16, 17, 18, 19, 20, 21, 22, 23, 24, 25, 26, 27, 28, 29, 30, 31, 32, 33, 34, 35]) hP hD hK hN rfl (by decide)).2⟩ rfl rfl hl.1 rfl (lv_room (Nat.le_of_ble_eq_true rfl)) dL_law_899 ⟨Nat.le_of_ble_eq_true rfl, Nat.le_of_ble_eq_true rfl⟩) (fun r101 u102 H locs hw103 hP hD hS => ?_)
  refine W.widen (k := 160) (n := 7660) (Nat.le_of_ble_eq_true rfl) (Nat.le_of_ble_eq_true rfl) ?_
  have hr104 := hw103
  subst hr104
  have hP : va_P G vwCl [(mm, .inr (8, mfs)), (m52, .inl (cA 0, 20, .inl mf52)), (m53, .inl (cA 0, 20, .inl mf53)), (m54, .inl (cA 0, 100, .inl mf54)), (m55, .inl (cA 0, 10, .inl mf55)), (m56, .inl (cA 0, 12, .inl mf56)), (m57, .inl (cA 0, 12, .inl mf57)), (m58, .inl (cA 0, 12, .inl mf58)), (m59, .inl (cA 0, 12, .inl mf59)), (m22, .inl (cA 0, 6, .inl mf22)), (m60, .inl (cA 0, 2, .inl mf60)), (m61, .inl (cA 0, 2, .inl mf61)), (m62, .inl (cA 0, 2, .inl mf62)), (m71, .inl (cA 0, 10, .inl mf71))] H := hP
  have hD : va_D A [(mm, .inr (8, mfs)), (m52, .inl (cA 0, 20, .inl mf52)), (m53, .inl (cA 0, 20, .inl mf53)), (m54, .inl (cA 0, 100, .inl mf54)), (m55, .inl (cA 0, 10, .inl mf55)), (m56, .inl (cA 0, 12, .inl mf56)), (m57, .inl (cA 0, 12, .inl mf57)), (m58, .inl (cA 0, 12, .inl mf58)), (m59, .inl (cA 0, 12, .inl mf59)), (m22, .inl (cA 0, 6, .inl mf22)), (m60, .inl (cA 0, 2, .inl mf60)), (m61, .inl (cA 0, 2, .inl mf61)), (m62, .inl (cA 0, 2, .inl mf62)), (m71, .inl (cA 0, 10, .inl mf71))] := hD
  refine lv_aload_n hx hb dL_law_902 rfl (lv_at hl 2 rfl) ?_
  refine lv_aload_n hx hb dL_law_903 rfl (lv_at hl 4 rfl) ?_
  refine lv_iload hx hb dL_law_904 (lv_at hl 0 rfl) ?_
  refine lv_iconst (v := 1) hx hb dL_law_906 (by decide) ?_
  refine lv_iadd hx hb dL_law_907 ?_
  refine tq_i (w := 1) (by decide) ?_
  refine va_sld (i := 1) hx hb hX hbl hbA hS (tq_in (by decide)) dL_law_908 ?_
  refine tq_i (w := w1) hw1 ?_
  refine tq_ci (wr := []) hP hD hS hA [0, 1, 2, 3, 4, 5, 6, 7, 8, 9, 10, 11, 12, 13] [] rfl rfl (by decide) (by decide) (va_runV (As := [.int w1]) (rest := [.int ((sp_missed w1))]) ⟨hx, hb, hml, hown, hT⟩ (c_X8_missed l G cA H.size mm w1 mfs m52 m53 m54 m55 m56 m57 m58 m59 m22 m60 m61 m62 m71 mf52 mf53 mf54 mf55 mf56 mf57 mf58 mf59 mf22 mf60 mf61 mf62 mf71 (fh_sub hmf [0, 1, 2, 3, 4, 5, 6, 7, 8, 9, 10, 11, 12, 13, 14, 15] rfl) he60_0 he61_0) (cwV 1 hT (tq_gV kw_52_19 kw_52_20 kw_52_21 kw_1_5 kw_52_22) rfl rfl rfl (by decide +kernel) ⟨Nat.le_of_ble_eq_true rfl, Nat.le_of_ble_eq_true rfl⟩) ⟨(tq_pre (isC := [0, 1, 2, 3, 4, 5, 6, 7, 8, 9, 10, 11, 12, 13]) hP hD hK hN rfl (by decide)).1, va_recv hK hP (ci := 8) (q0 := 0) rfl rfl, (tq_pre (isC := [0, 1, 2, 3, 4, 5, 6, 7, 8, 9, 10, 11, 12, 13]) hP hD hK hN rfl (by decide)).2⟩ rfl rfl hl.1 rfl (lv_room (Nat.le_of_ble_eq_true rfl)) dL_law_909 ⟨Nat.le_of_ble_eq_true rfl, Nat.le_of_ble_eq_true rfl⟩) (fun r105 u106 H locs hw107 hP hD hS => ?_)
  refine W.widen (k := 160) (n := 7660) (Nat.le_of_ble_eq_true rfl) (Nat.le_of_ble_eq_true rfl) ?_
  have hr108 := hw107
  subst hr108
  have hP : va_P G vwCl [] H := hP
  have hD : va_D A [] := hD
  refine lv_icmp_eq (tgt := 1246) hx hb dL_law_912 (by decide) (fun c109 => ?_) (fun c109 => absurd rfl c109)
  refine lv_iinc (v := 6) (lv' := [(4, .int 6), (3, .ref oa), (2, .ref mm), (1, .ref h0), (0, .ref b)]) hx hb dL_law_1246 hl (k := 0) rfl (by decide) (by decide) rfl (fun ls hl => ?_)
  refine lv_goto (tgt := 23) hx hb dL_law_1249 (by decide) ?_
  refine lv_iload hx hb dL_law_23 (lv_at hl 0 rfl) ?_
  refine lv_aload_n hx hb dL_law_25 rfl (lv_at hl 4 rfl) ?_
  refine va_slen hx hb hX hbl hbA hS dL_law_26 ?_
  refine tq_i (w := 6) (by decide) ?_
  refine lv_bipush (v := 6) hx hb dL_law_27 (by decide) ?_
  refine lv_isub hx hb dL_law_29 ?_
  refine tq_i (w := 0) (by decide) ?_
  refine lv_icmp_gt (tgt := 1252) hx hb dL_law_30 (by decide) (fun c110 => ?_) (fun c110 => absurd (by decide) c110)
  refine lv_iconst (v := 1) hx hb dL_law_1252 (by decide) ?_
  refine va_forget (fun q hq => by have h9 := hS.2.2 q hq; rw [hAe] at h9; exact h9) ?_
  refine W.widen (k := 600002) (n := 7302232) (Nat.le_of_ble_eq_true rfl) (Nat.le_of_ble_eq_true rfl) ?_
  exact lw_ret hx hb hr hlocks dL_law_1253

set_option maxHeartbeats 4000000 in
set_option maxRecDepth 100000 in
theorem law_21 {p : Program} {e : Env} {s : State} {m : MethodId} {below : List Frame} {meth : Method} {c : Code} (l : Launch) (hst : l.stackTraces = false) {b : Nat} {xs : Nat → Int32} (C0 : lw_At p s m meth c b 6 xs) (G : va_G) (cA : Nat → ClassId) {A : Nat → Prop} (hAe : A = fun q : Nat => s.heap.size ≤ q) (hK : va_K G vwCl (tyL cA) s) (hN : tqN s) (sP : Nat) (hXx : tqX sP A s s.heap) (w0 : Int32) (w1 : Int32) (w2 : Int32) (w3 : Int32) (w4 : Int32) (w5 : Int32) (hw0 : xs 0 = w0) (hw1 : xs 1 = w1) (hw2 : xs 2 = w2) (hw3 : xs 3 = w3) (hw4 : xs 4 = w4) (hw5 : xs 5 = w5) (h0 : Nat) (mm : Nat) (oa : Nat) (fs : List Value) (pa : Nat) (t0 : Nat) (t2 : Nat) (ps : List Value) (sa : Nat) (fsec : Nat → Int32) (ts0 : List Value) (a8 : Nat) (a9 : Nat) (a10 : Nat) (a11 : Nat) (a12 : Nat) (a13 : Nat) (a14 : Nat) (a15 : Nat) (a16 : Nat) (a17 : Nat) (af8 : Nat → Int32) (af9 : Nat → Int32) (af10 : Nat → Int32) (af11 : Nat → Int32) (af12 : Nat → Int32) (af13 : Nat → Int32) (af14 : Nat → Int32) (af15 : Nat → Int32) (af16 : Nat → Int32) (af17 : Nat → Int32) (ts2 : List Value) (c8 : Nat) (c9 : Nat) (c10 : Nat) (c11 : Nat) (c12 : Nat) (c13 : Nat) (c14 : Nat) (c15 : Nat) (c16 : Nat) (c17 : Nat) (cf8 : Nat → Int32) (cf9 : Nat → Int32) (cf10 : Nat → Int32) (cf11 : Nat → Int32) (cf12 : Nat → Int32) (cf13 : Nat → Int32) (cf14 : Nat → Int32) (cf15 : Nat → Int32) (cf16 : Nat → Int32) (cf17 : Nat → Int32) (mfs : List Value) (m52 : Nat) (m53 : Nat) (m54 : Nat) (m55 : Nat) (m56 : Nat) (m57 : Nat) (m58 : Nat) (m59 : Nat) (m22 : Nat) (m60 : Nat) (m61 : Nat) (m62 : Nat) (m71 : Nat) (mf52 : Nat → Int32) (mf53 : Nat → Int32) (mf54 : Nat → Int32) (mf55 : Nat → Int32) (mf56 : Nat → Int32) (mf57 : Nat → Int32) (mf58 : Nat → Int32) (mf59 : Nat → Int32) (mf22 : Nat → Int32) (mf60 : Nat → Int32) (mf61 : Nat → Int32) (mf62 : Nat → Int32) (mf71 : Nat → Int32) {H : Heap} {locs : List Loc} {ls : Array Slot} (hf : fh fs 12 [(1, .ref pa), (2, .ref t0), (5, .ref t2)]) (hp : fh ps 19 [(0, .int 0), (1, .int 0), (2, .int 0), (17, .ref sa)]) (hsec : ∀ j, j < 21 → fsec j = 60) (ht0 : fh ts0 20 [(0, .int 0), (1, .int 0), (2, .int 0), (3, .int 0), (4, .int 0), (19, .ref pa), (8, .ref a8), (9, .ref a9), (10, .ref a10), (11, .ref a11), (12, .ref a12), (13, .ref a13), (14, .ref a14), (15, .ref a15), (16, .ref a16), (17, .ref a17)]) (ht2 : fh ts2 20 [(8, .ref c8), (9, .ref c9), (10, .ref c10), (11, .ref c11), (12, .ref c12), (13, .ref c13), (14, .ref c14), (15, .ref c15), (16, .ref c16), (17, .ref c17)]) (hmf : fh mfs 91 [(52, .ref m52), (53, .ref m53), (54, .ref m54), (55, .ref m55), (56, .ref m56), (57, .ref m57), (58, .ref m58), (59, .ref m59), (22, .ref m22), (60, .ref m60), (61, .ref m61), (62, .ref m62), (71, .ref m71), (12, .int 0), (13, .int 0), (14, .int 0)]) (he60_0 : mf60 0 = 0) (he61_0 : mf61 0 = 0) (hP : va_P G vwCl [(h0, .inr (7, fs)), (pa, .inr (2, ps)), (sa, .inl (cA 0, 21, .inl fsec)), (t0, .inr (6, ts0)), (a8, .inl (cA 0, 6, .inl af8)), (a9, .inl (cA 0, 6, .inl af9)), (a10, .inl (cA 0, 6, .inl af10)), (a11, .inl (cA 0, 6, .inl af11)), (a12, .inl (cA 0, 10, .inl af12)), (a13, .inl (cA 0, 10, .inl af13)), (a14, .inl (cA 0, 10, .inl af14)), (a15, .inl (cA 0, 50, .inl af15)), (a16, .inl (cA 0, 5, .inl af16)), (a17, .inl (cA 0, 5, .inl af17)), (t2, .inr (6, ts2)), (c8, .inl (cA 0, 6, .inl cf8)), (c9, .inl (cA 0, 6, .inl cf9)), (c10, .inl (cA 0, 6, .inl cf10)), (c11, .inl (cA 0, 6, .inl cf11)), (c12, .inl (cA 0, 10, .inl cf12)), (c13, .inl (cA 0, 10, .inl cf13)), (c14, .inl (cA 0, 10, .inl cf14)), (c15, .inl (cA 0, 50, .inl cf15)), (c16, .inl (cA 0, 5, .inl cf16)), (c17, .inl (cA 0, 5, .inl cf17)), (mm, .inr (8, mfs)), (m52, .inl (cA 0, 20, .inl mf52)), (m53, .inl (cA 0, 20, .inl mf53)), (m54, .inl (cA 0, 100, .inl mf54)), (m55, .inl (cA 0, 10, .inl mf55)), (m56, .inl (cA 0, 12, .inl mf56)), (m57, .inl (cA 0, 12, .inl mf57)), (m58, .inl (cA 0, 12, .inl mf58)), (m59, .inl (cA 0, 12, .inl mf59)), (m22, .inl (cA 0, 6, .inl mf22)), (m60, .inl (cA 0, 2, .inl mf60)), (m61, .inl (cA 0, 2, .inl mf61)), (m62, .inl (cA 0, 2, .inl mf62)), (m71, .inl (cA 0, 10, .inl mf71))] H) (hD : va_D A [(h0, .inr (7, fs)), (pa, .inr (2, ps)), (sa, .inl (cA 0, 21, .inl fsec)), (t0, .inr (6, ts0)), (a8, .inl (cA 0, 6, .inl af8)), (a9, .inl (cA 0, 6, .inl af9)), (a10, .inl (cA 0, 6, .inl af10)), (a11, .inl (cA 0, 6, .inl af11)), (a12, .inl (cA 0, 10, .inl af12)), (a13, .inl (cA 0, 10, .inl af13)), (a14, .inl (cA 0, 10, .inl af14)), (a15, .inl (cA 0, 50, .inl af15)), (a16, .inl (cA 0, 5, .inl af16)), (a17, .inl (cA 0, 5, .inl af17)), (t2, .inr (6, ts2)), (c8, .inl (cA 0, 6, .inl cf8)), (c9, .inl (cA 0, 6, .inl cf9)), (c10, .inl (cA 0, 6, .inl cf10)), (c11, .inl (cA 0, 6, .inl cf11)), (c12, .inl (cA 0, 10, .inl cf12)), (c13, .inl (cA 0, 10, .inl cf13)), (c14, .inl (cA 0, 10, .inl cf14)), (c15, .inl (cA 0, 50, .inl cf15)), (c16, .inl (cA 0, 5, .inl cf16)), (c17, .inl (cA 0, 5, .inl cf17)), (mm, .inr (8, mfs)), (m52, .inl (cA 0, 20, .inl mf52)), (m53, .inl (cA 0, 20, .inl mf53)), (m54, .inl (cA 0, 100, .inl mf54)), (m55, .inl (cA 0, 10, .inl mf55)), (m56, .inl (cA 0, 12, .inl mf56)), (m57, .inl (cA 0, 12, .inl mf57)), (m58, .inl (cA 0, 12, .inl mf58)), (m59, .inl (cA 0, 12, .inl mf59)), (m22, .inl (cA 0, 6, .inl mf22)), (m60, .inl (cA 0, 2, .inl mf60)), (m61, .inl (cA 0, 2, .inl mf61)), (m62, .inl (cA 0, 2, .inl mf62)), (m71, .inl (cA 0, 10, .inl mf71))]) (hS : va_S A s.heap H locs) (hl : lv_has ls 7 [(4, .int 0), (3, .ref oa), (2, .ref mm), (1, .ref h0), (0, .ref b)]) : W p l e room_1 s m #[Value.ref b] below meth c H locs 160 7660 (lw_Z below #[Value.ref b] s) (F0 m 917 ls []) := by
  obtain ⟨hx, hb, hr, hml, hown, hts, hX, hbl, hlocks, hgv⟩ := id C0
  have hT : ∀ v ∈ T0, v.before #[Value.ref b] s = true := fun v h => hts v (tq_law_in v h)
  have hown : s.vm.findClass RL = some m.cls := hown
  have hA : ∀ q : Nat, s.heap.size ≤ q → A q := fun q h => by rw [hAe]; exact h
  have hbA : ¬ A b := by rw [hAe]; exact Nat.not_le.mpr hbl
  have hO := hN.2.2.2.2
  refine lv_aload_n hx hb dL_law_917 rfl (lv_at hl 3 rfl) ?_
  refine tq_ci (wr := [(mm, .inr (8, mfs)), (m52, .inl (cA 0, 20, .inl mf52)), (m53, .inl (cA 0, 20, .inl mf53)), (m54, .inl (cA 0, 100, .inl mf54)), (m55, .inl (cA 0, 10, .inl mf55)), (m56, .inl (cA 0, 12, .inl mf56)), (m57, .inl (cA 0, 12, .inl mf57)), (m58, .inl (cA 0, 12, .inl mf58)), (m59, .inl (cA 0, 12, .inl mf59)), (m22, .inl (cA 0, 6, .inl mf22)), (m60, .inl (cA 0, 2, .inl mf60)), (m61, .inl (cA 0, 2, .inl mf61)), (m62, .inl (cA 0, 2, .inl mf62)), (m71, .inl (cA 0, 10, .inl mf71))]) hP hD hS hA [0, 1, 2, 3, 4, 5, 6, 7, 8, 9, 10, 11, 12, 13, 14, 15, 16, 17, 18, 19, 20, 21, 22, 23, 24] [25, 26, 27, 28, 29, 30, 31, 32, 33, 34, 35, 36, 37, 38] rfl rfl (by decide) (by decide) (va_runV (As := []) (rest := []) ⟨hx, hb, hml, hown, hT⟩ (c_X7_falls l G cA H.size h0 fs pa t0 t2 ps sa fsec ts0 a8 a9 a10 a11 a12 a13 a14 a15 a16 a17 af8 af9 af10 af11 af12 af13 af14 af15 af16 af17 ts2 c8 c9 c10 c11 c12 c13 c14 c15 c16 c17 cf8 cf9 cf10 cf11 cf12 cf13 cf14 cf15 cf16 cf17 (fh_sub hf [0, 1, 2] rfl) (fh_sub hp [0, 1, 2, 3] rfl) hsec (fh_sub ht0 [0, 1, 2, 3, 4, 5, 6, 7, 8, 9, 10, 11, 12, 13, 14, 15] rfl) (fh_sub ht2 [0, 1, 2, 3, 4, 5, 6, 7, 8, 9] rfl)) (cwV 0 hT (tq_gV kw_52_23 kw_53_0 kw_53_1 kw_1_2 kw_53_2) rfl rfl rfl (by decide +kernel) ⟨Nat.le_of_ble_eq_true rfl, Nat.le_of_ble_eq_true rfl⟩) ⟨(tq_pre (isC := [0, 1, 2, 3, 4, 5, 6, 7, 8, 9, 10, 11, 12, 13, 14, 15, 16, 17, 18, 19, 20, 21, 22, 23, 24]) hP hD hK hN rfl (by decide)).1, va_recv hK hP (ci := 7) (q0 := 0) rfl rfl, (tq_pre (isC := [0, 1, 2, 3, 4, 5, 6, 7, 8, 9, 10, 11, 12, 13, 14, 15, 16, 17, 18, 19, 20, 21, 22, 23, 24]) hP hD hK hN rfl (by decide)).2⟩ rfl rfl hl.1 rfl (lv_room (Nat.le_of_ble_eq_true rfl)) dL_law_918 ⟨Nat.le_of_ble_eq_true rfl, Nat.le_of_ble_eq_true rfl⟩) (fun r101 u102 H locs hw103 hP hD hS => ?_)
  refine W.widen (k := 160) (n := 7660) (Nat.le_of_ble_eq_true rfl) (Nat.le_of_ble_eq_true rfl) ?_
  have hr104 := hw103
  subst hr104
  have hP : va_P G vwCl [(mm, .inr (8, mfs)), (m52, .inl (cA 0, 20, .inl mf52)), (m53, .inl (cA 0, 20, .inl mf53)), (m54, .inl (cA 0, 100, .inl mf54)), (m55, .inl (cA 0, 10, .inl mf55)), (m56, .inl (cA 0, 12, .inl mf56)), (m57, .inl (cA 0, 12, .inl mf57)), (m58, .inl (cA 0, 12, .inl mf58)), (m59, .inl (cA 0, 12, .inl mf59)), (m22, .inl (cA 0, 6, .inl mf22)), (m60, .inl (cA 0, 2, .inl mf60)), (m61, .inl (cA 0, 2, .inl mf61)), (m62, .inl (cA 0, 2, .inl mf62)), (m71, .inl (cA 0, 10, .inl mf71))] H := hP
  have hD : va_D A [(mm, .inr (8, mfs)), (m52, .inl (cA 0, 20, .inl mf52)), (m53, .inl (cA 0, 20, .inl mf53)), (m54, .inl (cA 0, 100, .inl mf54)), (m55, .inl (cA 0, 10, .inl mf55)), (m56, .inl (cA 0, 12, .inl mf56)), (m57, .inl (cA 0, 12, .inl mf57)), (m58, .inl (cA 0, 12, .inl mf58)), (m59, .inl (cA 0, 12, .inl mf59)), (m22, .inl (cA 0, 6, .inl mf22)), (m60, .inl (cA 0, 2, .inl mf60)), (m61, .inl (cA 0, 2, .inl mf61)), (m62, .inl (cA 0, 2, .inl mf62)), (m71, .inl (cA 0, 10, .inl mf71))] := hD
  refine lv_aload_n hx hb dL_law_921 rfl (lv_at hl 2 rfl) ?_
  refine tq_ci (wr := []) hP hD hS hA [0, 1, 2, 3, 4, 5, 6, 7, 8, 9, 10, 11, 12, 13] [] rfl rfl (by decide) (by decide) (va_runV (As := []) (rest := [.int 0]) ⟨hx, hb, hml, hown, hT⟩ (c_X8_falls l G cA H.size mm mfs m52 m53 m54 m55 m56 m57 m58 m59 m22 m60 m61 m62 m71 mf52 mf53 mf54 mf55 mf56 mf57 mf58 mf59 mf22 mf60 mf61 mf62 mf71 (fh_sub hmf [0, 1, 2, 3, 4, 5, 6, 7, 8, 9, 10, 11, 12, 13, 14, 15] rfl) he60_0 he61_0) (cwV 0 hT (tq_gV kw_53_4 kw_53_5 kw_53_6 kw_1_5 kw_53_7) rfl rfl rfl (by decide +kernel) ⟨Nat.le_of_ble_eq_true rfl, Nat.le_of_ble_eq_true rfl⟩) ⟨(tq_pre (isC := [0, 1, 2, 3, 4, 5, 6, 7, 8, 9, 10, 11, 12, 13]) hP hD hK hN rfl (by decide)).1, va_recv hK hP (ci := 8) (q0 := 0) rfl rfl, (tq_pre (isC := [0, 1, 2, 3, 4, 5, 6, 7, 8, 9, 10, 11, 12, 13]) hP hD hK hN rfl (by decide)).2⟩ rfl rfl hl.1 rfl (lv_room (Nat.le_of_ble_eq_true rfl)) dL_law_922 ⟨Nat.le_of_ble_eq_true rfl, Nat.le_of_ble_eq_true rfl⟩) (fun r105 u106 H locs hw107 hP hD hS => ?_)
  refine W.widen (k := 160) (n := 7660) (Nat.le_of_ble_eq_true rfl) (Nat.le_of_ble_eq_true rfl) ?_
  have hr108 := hw107
  subst hr108
  have hP : va_P G vwCl [] H := hP
  have hD : va_D A [] := hD
  refine lv_icmp_eq (tgt := 1246) hx hb dL_law_925 (by decide) (fun c109 => ?_) (fun c109 => absurd (by decide) c109)
  refine lv_iinc (v := 6) (lv' := [(4, .int 6), (3, .ref oa), (2, .ref mm), (1, .ref h0), (0, .ref b)]) hx hb dL_law_1246 hl (k := 0) rfl (by decide) (by decide) rfl (fun ls hl => ?_)
  refine lv_goto (tgt := 23) hx hb dL_law_1249 (by decide) ?_
  refine lv_iload hx hb dL_law_23 (lv_at hl 0 rfl) ?_
  refine lv_aload_n hx hb dL_law_25 rfl (lv_at hl 4 rfl) ?_
  refine va_slen hx hb hX hbl hbA hS dL_law_26 ?_
  refine tq_i (w := 6) (by decide) ?_
  refine lv_bipush (v := 6) hx hb dL_law_27 (by decide) ?_
  refine lv_isub hx hb dL_law_29 ?_
  refine tq_i (w := 0) (by decide) ?_
  refine lv_icmp_gt (tgt := 1252) hx hb dL_law_30 (by decide) (fun c110 => ?_) (fun c110 => absurd (by decide) c110)
  refine lv_iconst (v := 1) hx hb dL_law_1252 (by decide) ?_
  refine va_forget (fun q hq => by have h9 := hS.2.2 q hq; rw [hAe] at h9; exact h9) ?_
  refine W.widen (k := 600002) (n := 7302232) (Nat.le_of_ble_eq_true rfl) (Nat.le_of_ble_eq_true rfl) ?_
  exact lw_ret hx hb hr hlocks dL_law_1253

set_option maxHeartbeats 4000000 in
set_option maxRecDepth 100000 in
theorem law_22 {p : Program} {e : Env} {s : State} {m : MethodId} {below : List Frame} {meth : Method} {c : Code} (l : Launch) (hst : l.stackTraces = false) {b : Nat} {xs : Nat → Int32} (C0 : lw_At p s m meth c b 6 xs) (G : va_G) (cA : Nat → ClassId) {A : Nat → Prop} (hAe : A = fun q : Nat => s.heap.size ≤ q) (hK : va_K G vwCl (tyL cA) s) (hN : tqN s) (sP : Nat) (hXx : tqX sP A s s.heap) (w0 : Int32) (w1 : Int32) (w2 : Int32) (w3 : Int32) (w4 : Int32) (w5 : Int32) (hw0 : xs 0 = w0) (hw1 : xs 1 = w1) (hw2 : xs 2 = w2) (hw3 : xs 3 = w3) (hw4 : xs 4 = w4) (hw5 : xs 5 = w5) (h0 : Nat) (mm : Nat) (oa : Nat) (fs : List Value) (pa : Nat) (t0 : Nat) (t2 : Nat) (ps : List Value) (sa : Nat) (fsec : Nat → Int32) (ts0 : List Value) (a8 : Nat) (a9 : Nat) (a10 : Nat) (a11 : Nat) (a12 : Nat) (a13 : Nat) (a14 : Nat) (a15 : Nat) (a16 : Nat) (a17 : Nat) (af8 : Nat → Int32) (af9 : Nat → Int32) (af10 : Nat → Int32) (af11 : Nat → Int32) (af12 : Nat → Int32) (af13 : Nat → Int32) (af14 : Nat → Int32) (af15 : Nat → Int32) (af16 : Nat → Int32) (af17 : Nat → Int32) (ts2 : List Value) (c8 : Nat) (c9 : Nat) (c10 : Nat) (c11 : Nat) (c12 : Nat) (c13 : Nat) (c14 : Nat) (c15 : Nat) (c16 : Nat) (c17 : Nat) (cf8 : Nat → Int32) (cf9 : Nat → Int32) (cf10 : Nat → Int32) (cf11 : Nat → Int32) (cf12 : Nat → Int32) (cf13 : Nat → Int32) (cf14 : Nat → Int32) (cf15 : Nat → Int32) (cf16 : Nat → Int32) (cf17 : Nat → Int32) (mfs : List Value) (m52 : Nat) (m53 : Nat) (m54 : Nat) (m55 : Nat) (m56 : Nat) (m57 : Nat) (m58 : Nat) (m59 : Nat) (m22 : Nat) (m60 : Nat) (m61 : Nat) (m62 : Nat) (m71 : Nat) (mf52 : Nat → Int32) (mf53 : Nat → Int32) (mf54 : Nat → Int32) (mf55 : Nat → Int32) (mf56 : Nat → Int32) (mf57 : Nat → Int32) (mf58 : Nat → Int32) (mf59 : Nat → Int32) (mf22 : Nat → Int32) (mf60 : Nat → Int32) (mf61 : Nat → Int32) (mf62 : Nat → Int32) (mf71 : Nat → Int32) {H : Heap} {locs : List Loc} {ls : Array Slot} (hf : fh fs 12 [(1, .ref pa), (2, .ref t0), (5, .ref t2)]) (hp : fh ps 19 [(0, .int 0), (1, .int 0), (2, .int 0), (17, .ref sa)]) (hsec : ∀ j, j < 21 → fsec j = 60) (ht0 : fh ts0 20 [(0, .int 0), (1, .int 0), (2, .int 0), (3, .int 0), (4, .int 0), (19, .ref pa), (8, .ref a8), (9, .ref a9), (10, .ref a10), (11, .ref a11), (12, .ref a12), (13, .ref a13), (14, .ref a14), (15, .ref a15), (16, .ref a16), (17, .ref a17)]) (ht2 : fh ts2 20 [(8, .ref c8), (9, .ref c9), (10, .ref c10), (11, .ref c11), (12, .ref c12), (13, .ref c13), (14, .ref c14), (15, .ref c15), (16, .ref c16), (17, .ref c17)]) (hmf : fh mfs 91 [(52, .ref m52), (53, .ref m53), (54, .ref m54), (55, .ref m55), (56, .ref m56), (57, .ref m57), (58, .ref m58), (59, .ref m59), (22, .ref m22), (60, .ref m60), (61, .ref m61), (62, .ref m62), (71, .ref m71), (12, .int 0), (13, .int 0), (14, .int 0)]) (he60_0 : mf60 0 = 0) (he61_0 : mf61 0 = 0) (hP : va_P G vwCl [(h0, .inr (7, fs)), (pa, .inr (2, ps)), (sa, .inl (cA 0, 21, .inl fsec)), (t0, .inr (6, ts0)), (a8, .inl (cA 0, 6, .inl af8)), (a9, .inl (cA 0, 6, .inl af9)), (a10, .inl (cA 0, 6, .inl af10)), (a11, .inl (cA 0, 6, .inl af11)), (a12, .inl (cA 0, 10, .inl af12)), (a13, .inl (cA 0, 10, .inl af13)), (a14, .inl (cA 0, 10, .inl af14)), (a15, .inl (cA 0, 50, .inl af15)), (a16, .inl (cA 0, 5, .inl af16)), (a17, .inl (cA 0, 5, .inl af17)), (t2, .inr (6, ts2)), (c8, .inl (cA 0, 6, .inl cf8)), (c9, .inl (cA 0, 6, .inl cf9)), (c10, .inl (cA 0, 6, .inl cf10)), (c11, .inl (cA 0, 6, .inl cf11)), (c12, .inl (cA 0, 10, .inl cf12)), (c13, .inl (cA 0, 10, .inl cf13)), (c14, .inl (cA 0, 10, .inl cf14)), (c15, .inl (cA 0, 50, .inl cf15)), (c16, .inl (cA 0, 5, .inl cf16)), (c17, .inl (cA 0, 5, .inl cf17)), (mm, .inr (8, mfs)), (m52, .inl (cA 0, 20, .inl mf52)), (m53, .inl (cA 0, 20, .inl mf53)), (m54, .inl (cA 0, 100, .inl mf54)), (m55, .inl (cA 0, 10, .inl mf55)), (m56, .inl (cA 0, 12, .inl mf56)), (m57, .inl (cA 0, 12, .inl mf57)), (m58, .inl (cA 0, 12, .inl mf58)), (m59, .inl (cA 0, 12, .inl mf59)), (m22, .inl (cA 0, 6, .inl mf22)), (m60, .inl (cA 0, 2, .inl mf60)), (m61, .inl (cA 0, 2, .inl mf61)), (m62, .inl (cA 0, 2, .inl mf62)), (m71, .inl (cA 0, 10, .inl mf71))] H) (hD : va_D A [(h0, .inr (7, fs)), (pa, .inr (2, ps)), (sa, .inl (cA 0, 21, .inl fsec)), (t0, .inr (6, ts0)), (a8, .inl (cA 0, 6, .inl af8)), (a9, .inl (cA 0, 6, .inl af9)), (a10, .inl (cA 0, 6, .inl af10)), (a11, .inl (cA 0, 6, .inl af11)), (a12, .inl (cA 0, 10, .inl af12)), (a13, .inl (cA 0, 10, .inl af13)), (a14, .inl (cA 0, 10, .inl af14)), (a15, .inl (cA 0, 50, .inl af15)), (a16, .inl (cA 0, 5, .inl af16)), (a17, .inl (cA 0, 5, .inl af17)), (t2, .inr (6, ts2)), (c8, .inl (cA 0, 6, .inl cf8)), (c9, .inl (cA 0, 6, .inl cf9)), (c10, .inl (cA 0, 6, .inl cf10)), (c11, .inl (cA 0, 6, .inl cf11)), (c12, .inl (cA 0, 10, .inl cf12)), (c13, .inl (cA 0, 10, .inl cf13)), (c14, .inl (cA 0, 10, .inl cf14)), (c15, .inl (cA 0, 50, .inl cf15)), (c16, .inl (cA 0, 5, .inl cf16)), (c17, .inl (cA 0, 5, .inl cf17)), (mm, .inr (8, mfs)), (m52, .inl (cA 0, 20, .inl mf52)), (m53, .inl (cA 0, 20, .inl mf53)), (m54, .inl (cA 0, 100, .inl mf54)), (m55, .inl (cA 0, 10, .inl mf55)), (m56, .inl (cA 0, 12, .inl mf56)), (m57, .inl (cA 0, 12, .inl mf57)), (m58, .inl (cA 0, 12, .inl mf58)), (m59, .inl (cA 0, 12, .inl mf59)), (m22, .inl (cA 0, 6, .inl mf22)), (m60, .inl (cA 0, 2, .inl mf60)), (m61, .inl (cA 0, 2, .inl mf61)), (m62, .inl (cA 0, 2, .inl mf62)), (m71, .inl (cA 0, 10, .inl mf71))]) (hS : va_S A s.heap H locs) (hl : lv_has ls 7 [(4, .int 0), (3, .ref oa), (2, .ref mm), (1, .ref h0), (0, .ref b)]) : W p l e room_1 s m #[Value.ref b] below meth c H locs 160 7660 (lw_Z below #[Value.ref b] s) (F0 m 930 ls []) := by
  obtain ⟨hx, hb, hr, hml, hown, hts, hX, hbl, hlocks, hgv⟩ := id C0
  have hT : ∀ v ∈ T0, v.before #[Value.ref b] s = true := fun v h => hts v (tq_law_in v h)
  have hown : s.vm.findClass RL = some m.cls := hown
  have hA : ∀ q : Nat, s.heap.size ≤ q → A q := fun q h => by rw [hAe]; exact h
  have hbA : ¬ A b := by rw [hAe]; exact Nat.not_le.mpr hbl
  have hO := hN.2.2.2.2
  refine lv_aload_n hx hb dL_law_930 rfl (lv_at hl 3 rfl) ?_
  refine tq_ci (wr := [(mm, .inr (8, mfs)), (m52, .inl (cA 0, 20, .inl mf52)), (m53, .inl (cA 0, 20, .inl mf53)), (m54, .inl (cA 0, 100, .inl mf54)), (m55, .inl (cA 0, 10, .inl mf55)), (m56, .inl (cA 0, 12, .inl mf56)), (m57, .inl (cA 0, 12, .inl mf57)), (m58, .inl (cA 0, 12, .inl mf58)), (m59, .inl (cA 0, 12, .inl mf59)), (m22, .inl (cA 0, 6, .inl mf22)), (m60, .inl (cA 0, 2, .inl mf60)), (m61, .inl (cA 0, 2, .inl mf61)), (m62, .inl (cA 0, 2, .inl mf62)), (m71, .inl (cA 0, 10, .inl mf71))]) hP hD hS hA [0, 1, 2, 3, 4, 5, 6, 7, 8, 9, 10, 11, 12, 13, 14, 15, 16, 17, 18, 19, 20, 21, 22, 23, 24] [25, 26, 27, 28, 29, 30, 31, 32, 33, 34, 35, 36, 37, 38] rfl rfl (by decide) (by decide) (va_runV (As := []) (rest := []) ⟨hx, hb, hml, hown, hT⟩ (c_X7_asking l G cA H.size h0 fs pa t0 t2 ps sa fsec ts0 a8 a9 a10 a11 a12 a13 a14 a15 a16 a17 af8 af9 af10 af11 af12 af13 af14 af15 af16 af17 ts2 c8 c9 c10 c11 c12 c13 c14 c15 c16 c17 cf8 cf9 cf10 cf11 cf12 cf13 cf14 cf15 cf16 cf17 (fh_sub hf [0, 1, 2] rfl) (fh_sub hp [0, 1, 2, 3] rfl) hsec (fh_sub ht0 [0, 1, 2, 3, 4, 5, 6, 7, 8, 9, 10, 11, 12, 13, 14, 15] rfl) (fh_sub ht2 [0, 1, 2, 3, 4, 5, 6, 7, 8, 9] rfl)) (cwV 0 hT (tq_gV kw_53_8 kw_53_9 kw_53_10 kw_1_2 kw_53_11) rfl rfl rfl (by decide +kernel) ⟨Nat.le_of_ble_eq_true rfl, Nat.le_of_ble_eq_true rfl⟩) ⟨(tq_pre (isC := [0, 1, 2, 3, 4, 5, 6, 7, 8, 9, 10, 11, 12, 13, 14, 15, 16, 17, 18, 19, 20, 21, 22, 23, 24]) hP hD hK hN rfl (by decide)).1, va_recv hK hP (ci := 7) (q0 := 0) rfl rfl, (tq_pre (isC := [0, 1, 2, 3, 4, 5, 6, 7, 8, 9, 10, 11, 12, 13, 14, 15, 16, 17, 18, 19, 20, 21, 22, 23, 24]) hP hD hK hN rfl (by decide)).2⟩ rfl rfl hl.1 rfl (lv_room (Nat.le_of_ble_eq_true rfl)) dL_law_931 ⟨Nat.le_of_ble_eq_true rfl, Nat.le_of_ble_eq_true rfl⟩) (fun r101 u102 H locs hw103 hP hD hS => ?_)
  refine W.widen (k := 160) (n := 7660) (Nat.le_of_ble_eq_true rfl) (Nat.le_of_ble_eq_true rfl) ?_
  have hr104 := hw103
  subst hr104
  have hP : va_P G vwCl [(mm, .inr (8, mfs)), (m52, .inl (cA 0, 20, .inl mf52)), (m53, .inl (cA 0, 20, .inl mf53)), (m54, .inl (cA 0, 100, .inl mf54)), (m55, .inl (cA 0, 10, .inl mf55)), (m56, .inl (cA 0, 12, .inl mf56)), (m57, .inl (cA 0, 12, .inl mf57)), (m58, .inl (cA 0, 12, .inl mf58)), (m59, .inl (cA 0, 12, .inl mf59)), (m22, .inl (cA 0, 6, .inl mf22)), (m60, .inl (cA 0, 2, .inl mf60)), (m61, .inl (cA 0, 2, .inl mf61)), (m62, .inl (cA 0, 2, .inl mf62)), (m71, .inl (cA 0, 10, .inl mf71))] H := hP
  have hD : va_D A [(mm, .inr (8, mfs)), (m52, .inl (cA 0, 20, .inl mf52)), (m53, .inl (cA 0, 20, .inl mf53)), (m54, .inl (cA 0, 100, .inl mf54)), (m55, .inl (cA 0, 10, .inl mf55)), (m56, .inl (cA 0, 12, .inl mf56)), (m57, .inl (cA 0, 12, .inl mf57)), (m58, .inl (cA 0, 12, .inl mf58)), (m59, .inl (cA 0, 12, .inl mf59)), (m22, .inl (cA 0, 6, .inl mf22)), (m60, .inl (cA 0, 2, .inl mf60)), (m61, .inl (cA 0, 2, .inl mf61)), (m62, .inl (cA 0, 2, .inl mf62)), (m71, .inl (cA 0, 10, .inl mf71))] := hD
  refine lv_aload_n hx hb dL_law_934 rfl (lv_at hl 2 rfl) ?_
  refine tq_ci (wr := []) hP hD hS hA [0, 1, 2, 3, 4, 5, 6, 7, 8, 9, 10, 11, 12, 13] [] rfl rfl (by decide) (by decide) (va_runV (As := []) (rest := [.int 0]) ⟨hx, hb, hml, hown, hT⟩ (c_X8_asking l G cA H.size mm mfs m52 m53 m54 m55 m56 m57 m58 m59 m22 m60 m61 m62 m71 mf52 mf53 mf54 mf55 mf56 mf57 mf58 mf59 mf22 mf60 mf61 mf62 mf71 (fh_sub hmf [0, 1, 2, 3, 4, 5, 6, 7, 8, 9, 10, 11, 12, 13, 14, 15] rfl) he60_0 he61_0) (cwV 0 hT (tq_gV kw_53_13 kw_53_14 kw_53_15 kw_1_5 kw_53_16) rfl rfl rfl (by decide +kernel) ⟨Nat.le_of_ble_eq_true rfl, Nat.le_of_ble_eq_true rfl⟩) ⟨(tq_pre (isC := [0, 1, 2, 3, 4, 5, 6, 7, 8, 9, 10, 11, 12, 13]) hP hD hK hN rfl (by decide)).1, va_recv hK hP (ci := 8) (q0 := 0) rfl rfl, (tq_pre (isC := [0, 1, 2, 3, 4, 5, 6, 7, 8, 9, 10, 11, 12, 13]) hP hD hK hN rfl (by decide)).2⟩ rfl rfl hl.1 rfl (lv_room (Nat.le_of_ble_eq_true rfl)) dL_law_935 ⟨Nat.le_of_ble_eq_true rfl, Nat.le_of_ble_eq_true rfl⟩) (fun r105 u106 H locs hw107 hP hD hS => ?_)
  refine W.widen (k := 160) (n := 7660) (Nat.le_of_ble_eq_true rfl) (Nat.le_of_ble_eq_true rfl) ?_
  have hr108 := hw107
  subst hr108
  have hP : va_P G vwCl [] H := hP
  have hD : va_D A [] := hD
  refine lv_icmp_eq (tgt := 1246) hx hb dL_law_938 (by decide) (fun c109 => ?_) (fun c109 => absurd (by decide) c109)
  refine lv_iinc (v := 6) (lv' := [(4, .int 6), (3, .ref oa), (2, .ref mm), (1, .ref h0), (0, .ref b)]) hx hb dL_law_1246 hl (k := 0) rfl (by decide) (by decide) rfl (fun ls hl => ?_)
  refine lv_goto (tgt := 23) hx hb dL_law_1249 (by decide) ?_
  refine lv_iload hx hb dL_law_23 (lv_at hl 0 rfl) ?_
  refine lv_aload_n hx hb dL_law_25 rfl (lv_at hl 4 rfl) ?_
  refine va_slen hx hb hX hbl hbA hS dL_law_26 ?_
  refine tq_i (w := 6) (by decide) ?_
  refine lv_bipush (v := 6) hx hb dL_law_27 (by decide) ?_
  refine lv_isub hx hb dL_law_29 ?_
  refine tq_i (w := 0) (by decide) ?_
  refine lv_icmp_gt (tgt := 1252) hx hb dL_law_30 (by decide) (fun c110 => ?_) (fun c110 => absurd (by decide) c110)
  refine lv_iconst (v := 1) hx hb dL_law_1252 (by decide) ?_
  refine va_forget (fun q hq => by have h9 := hS.2.2 q hq; rw [hAe] at h9; exact h9) ?_
  refine W.widen (k := 600002) (n := 7302232) (Nat.le_of_ble_eq_true rfl) (Nat.le_of_ble_eq_true rfl) ?_
  exact lw_ret hx hb hr hlocks dL_law_1253

set_option maxHeartbeats 4000000 in
set_option maxRecDepth 100000 in
theorem law_23 {p : Program} {e : Env} {s : State} {m : MethodId} {below : List Frame} {meth : Method} {c : Code} (l : Launch) (hst : l.stackTraces = false) {b : Nat} {xs : Nat → Int32} (C0 : lw_At p s m meth c b 6 xs) (G : va_G) (cA : Nat → ClassId) {A : Nat → Prop} (hAe : A = fun q : Nat => s.heap.size ≤ q) (hK : va_K G vwCl (tyL cA) s) (hN : tqN s) (sP : Nat) (hXx : tqX sP A s s.heap) (w0 : Int32) (w1 : Int32) (w2 : Int32) (w3 : Int32) (w4 : Int32) (w5 : Int32) (hw0 : xs 0 = w0) (hw1 : xs 1 = w1) (hw2 : xs 2 = w2) (hw3 : xs 3 = w3) (hw4 : xs 4 = w4) (hw5 : xs 5 = w5) (h0 : Nat) (mm : Nat) (oa : Nat) (fs : List Value) (pa : Nat) (t0 : Nat) (t2 : Nat) (ps : List Value) (sa : Nat) (fsec : Nat → Int32) (ts0 : List Value) (a8 : Nat) (a9 : Nat) (a10 : Nat) (a11 : Nat) (a12 : Nat) (a13 : Nat) (a14 : Nat) (a15 : Nat) (a16 : Nat) (a17 : Nat) (af8 : Nat → Int32) (af9 : Nat → Int32) (af10 : Nat → Int32) (af11 : Nat → Int32) (af12 : Nat → Int32) (af13 : Nat → Int32) (af14 : Nat → Int32) (af15 : Nat → Int32) (af16 : Nat → Int32) (af17 : Nat → Int32) (ts2 : List Value) (c8 : Nat) (c9 : Nat) (c10 : Nat) (c11 : Nat) (c12 : Nat) (c13 : Nat) (c14 : Nat) (c15 : Nat) (c16 : Nat) (c17 : Nat) (cf8 : Nat → Int32) (cf9 : Nat → Int32) (cf10 : Nat → Int32) (cf11 : Nat → Int32) (cf12 : Nat → Int32) (cf13 : Nat → Int32) (cf14 : Nat → Int32) (cf15 : Nat → Int32) (cf16 : Nat → Int32) (cf17 : Nat → Int32) (mfs : List Value) (m52 : Nat) (m53 : Nat) (m54 : Nat) (m55 : Nat) (m56 : Nat) (m57 : Nat) (m58 : Nat) (m59 : Nat) (m22 : Nat) (m60 : Nat) (m61 : Nat) (m62 : Nat) (m71 : Nat) (mf52 : Nat → Int32) (mf53 : Nat → Int32) (mf54 : Nat → Int32) (mf55 : Nat → Int32) (mf56 : Nat → Int32) (mf57 : Nat → Int32) (mf58 : Nat → Int32) (mf59 : Nat → Int32) (mf22 : Nat → Int32) (mf60 : Nat → Int32) (mf61 : Nat → Int32) (mf62 : Nat → Int32) (mf71 : Nat → Int32) {H : Heap} {locs : List Loc} {ls : Array Slot} (hf : fh fs 12 [(1, .ref pa), (2, .ref t0), (5, .ref t2)]) (hp : fh ps 19 [(0, .int 0), (1, .int 0), (2, .int 0), (17, .ref sa)]) (hsec : ∀ j, j < 21 → fsec j = 60) (ht0 : fh ts0 20 [(0, .int 0), (1, .int 0), (2, .int 0), (3, .int 0), (4, .int 0), (19, .ref pa), (8, .ref a8), (9, .ref a9), (10, .ref a10), (11, .ref a11), (12, .ref a12), (13, .ref a13), (14, .ref a14), (15, .ref a15), (16, .ref a16), (17, .ref a17)]) (ht2 : fh ts2 20 [(8, .ref c8), (9, .ref c9), (10, .ref c10), (11, .ref c11), (12, .ref c12), (13, .ref c13), (14, .ref c14), (15, .ref c15), (16, .ref c16), (17, .ref c17)]) (hmf : fh mfs 91 [(52, .ref m52), (53, .ref m53), (54, .ref m54), (55, .ref m55), (56, .ref m56), (57, .ref m57), (58, .ref m58), (59, .ref m59), (22, .ref m22), (60, .ref m60), (61, .ref m61), (62, .ref m62), (71, .ref m71), (12, .int 0), (13, .int 0), (14, .int 0)]) (he60_0 : mf60 0 = 0) (he61_0 : mf61 0 = 0) (hP : va_P G vwCl [(h0, .inr (7, fs)), (pa, .inr (2, ps)), (sa, .inl (cA 0, 21, .inl fsec)), (t0, .inr (6, ts0)), (a8, .inl (cA 0, 6, .inl af8)), (a9, .inl (cA 0, 6, .inl af9)), (a10, .inl (cA 0, 6, .inl af10)), (a11, .inl (cA 0, 6, .inl af11)), (a12, .inl (cA 0, 10, .inl af12)), (a13, .inl (cA 0, 10, .inl af13)), (a14, .inl (cA 0, 10, .inl af14)), (a15, .inl (cA 0, 50, .inl af15)), (a16, .inl (cA 0, 5, .inl af16)), (a17, .inl (cA 0, 5, .inl af17)), (t2, .inr (6, ts2)), (c8, .inl (cA 0, 6, .inl cf8)), (c9, .inl (cA 0, 6, .inl cf9)), (c10, .inl (cA 0, 6, .inl cf10)), (c11, .inl (cA 0, 6, .inl cf11)), (c12, .inl (cA 0, 10, .inl cf12)), (c13, .inl (cA 0, 10, .inl cf13)), (c14, .inl (cA 0, 10, .inl cf14)), (c15, .inl (cA 0, 50, .inl cf15)), (c16, .inl (cA 0, 5, .inl cf16)), (c17, .inl (cA 0, 5, .inl cf17)), (mm, .inr (8, mfs)), (m52, .inl (cA 0, 20, .inl mf52)), (m53, .inl (cA 0, 20, .inl mf53)), (m54, .inl (cA 0, 100, .inl mf54)), (m55, .inl (cA 0, 10, .inl mf55)), (m56, .inl (cA 0, 12, .inl mf56)), (m57, .inl (cA 0, 12, .inl mf57)), (m58, .inl (cA 0, 12, .inl mf58)), (m59, .inl (cA 0, 12, .inl mf59)), (m22, .inl (cA 0, 6, .inl mf22)), (m60, .inl (cA 0, 2, .inl mf60)), (m61, .inl (cA 0, 2, .inl mf61)), (m62, .inl (cA 0, 2, .inl mf62)), (m71, .inl (cA 0, 10, .inl mf71))] H) (hD : va_D A [(h0, .inr (7, fs)), (pa, .inr (2, ps)), (sa, .inl (cA 0, 21, .inl fsec)), (t0, .inr (6, ts0)), (a8, .inl (cA 0, 6, .inl af8)), (a9, .inl (cA 0, 6, .inl af9)), (a10, .inl (cA 0, 6, .inl af10)), (a11, .inl (cA 0, 6, .inl af11)), (a12, .inl (cA 0, 10, .inl af12)), (a13, .inl (cA 0, 10, .inl af13)), (a14, .inl (cA 0, 10, .inl af14)), (a15, .inl (cA 0, 50, .inl af15)), (a16, .inl (cA 0, 5, .inl af16)), (a17, .inl (cA 0, 5, .inl af17)), (t2, .inr (6, ts2)), (c8, .inl (cA 0, 6, .inl cf8)), (c9, .inl (cA 0, 6, .inl cf9)), (c10, .inl (cA 0, 6, .inl cf10)), (c11, .inl (cA 0, 6, .inl cf11)), (c12, .inl (cA 0, 10, .inl cf12)), (c13, .inl (cA 0, 10, .inl cf13)), (c14, .inl (cA 0, 10, .inl cf14)), (c15, .inl (cA 0, 50, .inl cf15)), (c16, .inl (cA 0, 5, .inl cf16)), (c17, .inl (cA 0, 5, .inl cf17)), (mm, .inr (8, mfs)), (m52, .inl (cA 0, 20, .inl mf52)), (m53, .inl (cA 0, 20, .inl mf53)), (m54, .inl (cA 0, 100, .inl mf54)), (m55, .inl (cA 0, 10, .inl mf55)), (m56, .inl (cA 0, 12, .inl mf56)), (m57, .inl (cA 0, 12, .inl mf57)), (m58, .inl (cA 0, 12, .inl mf58)), (m59, .inl (cA 0, 12, .inl mf59)), (m22, .inl (cA 0, 6, .inl mf22)), (m60, .inl (cA 0, 2, .inl mf60)), (m61, .inl (cA 0, 2, .inl mf61)), (m62, .inl (cA 0, 2, .inl mf62)), (m71, .inl (cA 0, 10, .inl mf71))]) (hS : va_S A s.heap H locs) (hl : lv_has ls 7 [(4, .int 0), (3, .ref oa), (2, .ref mm), (1, .ref h0), (0, .ref b)]) : W p l e room_1 s m #[Value.ref b] below meth c H locs 160 7660 (lw_Z below #[Value.ref b] s) (F0 m 943 ls []) := by
  obtain ⟨hx, hb, hr, hml, hown, hts, hX, hbl, hlocks, hgv⟩ := id C0
  have hT : ∀ v ∈ T0, v.before #[Value.ref b] s = true := fun v h => hts v (tq_law_in v h)
  have hown : s.vm.findClass RL = some m.cls := hown
  have hA : ∀ q : Nat, s.heap.size ≤ q → A q := fun q h => by rw [hAe]; exact h
  have hbA : ¬ A b := by rw [hAe]; exact Nat.not_le.mpr hbl
  have hO := hN.2.2.2.2
  refine lv_aload_n hx hb dL_law_943 rfl (lv_at hl 3 rfl) ?_
  refine tq_ci (wr := [(mm, .inr (8, mfs)), (m52, .inl (cA 0, 20, .inl mf52)), (m53, .inl (cA 0, 20, .inl mf53)), (m54, .inl (cA 0, 100, .inl mf54)), (m55, .inl (cA 0, 10, .inl mf55)), (m56, .inl (cA 0, 12, .inl mf56)), (m57, .inl (cA 0, 12, .inl mf57)), (m58, .inl (cA 0, 12, .inl mf58)), (m59, .inl (cA 0, 12, .inl mf59)), (m22, .inl (cA 0, 6, .inl mf22)), (m60, .inl (cA 0, 2, .inl mf60)), (m61, .inl (cA 0, 2, .inl mf61)), (m62, .inl (cA 0, 2, .inl mf62)), (m71, .inl (cA 0, 10, .inl mf71))]) hP hD hS hA [0, 1, 2, 3, 4, 5, 6, 7, 8, 9, 10, 11, 12, 13, 14, 15, 16, 17, 18, 19, 20, 21, 22, 23, 24] [25, 26, 27, 28, 29, 30, 31, 32, 33, 34, 35, 36, 37, 38] rfl rfl (by decide) (by decide) (va_runV (As := []) (rest := []) ⟨hx, hb, hml, hown, hT⟩ (c_X7_feet l G cA H.size h0 fs pa t0 t2 ps sa fsec ts0 a8 a9 a10 a11 a12 a13 a14 a15 a16 a17 af8 af9 af10 af11 af12 af13 af14 af15 af16 af17 ts2 c8 c9 c10 c11 c12 c13 c14 c15 c16 c17 cf8 cf9 cf10 cf11 cf12 cf13 cf14 cf15 cf16 cf17 (fh_sub hf [0, 1, 2] rfl) (fh_sub hp [0, 1, 2, 3] rfl) hsec (fh_sub ht0 [0, 1, 2, 3, 4, 5, 6, 7, 8, 9, 10, 11, 12, 13, 14, 15] rfl) (fh_sub ht2 [0, 1, 2, 3, 4, 5, 6, 7, 8, 9] rfl)) (cwV 0 hT (tq_gV kw_53_17 kw_53_18 kw_53_19 kw_1_2 kw_53_20) rfl rfl rfl (by decide +kernel) ⟨Nat.le_of_ble_eq_true rfl, Nat.le_of_ble_eq_true rfl⟩) ⟨(tq_pre (isC := [0, 1, 2, 3, 4, 5, 6, 7, 8, 9, 10, 11, 12, 13, 14, 15, 16, 17, 18, 19, 20, 21, 22, 23, 24]) hP hD hK hN rfl (by decide)).1, va_recv hK hP (ci := 7) (q0 := 0) rfl rfl, (tq_pre (isC := [0, 1, 2, 3, 4, 5, 6, 7, 8, 9, 10, 11, 12, 13, 14, 15, 16, 17, 18, 19, 20, 21, 22, 23, 24]) hP hD hK hN rfl (by decide)).2⟩ rfl rfl hl.1 rfl (lv_room (Nat.le_of_ble_eq_true rfl)) dL_law_944 ⟨Nat.le_of_ble_eq_true rfl, Nat.le_of_ble_eq_true rfl⟩) (fun r101 u102 H locs hw103 hP hD hS => ?_)
  refine W.widen (k := 160) (n := 7660) (Nat.le_of_ble_eq_true rfl) (Nat.le_of_ble_eq_true rfl) ?_
  have hr104 := hw103
  subst hr104
  have hP : va_P G vwCl [(mm, .inr (8, mfs)), (m52, .inl (cA 0, 20, .inl mf52)), (m53, .inl (cA 0, 20, .inl mf53)), (m54, .inl (cA 0, 100, .inl mf54)), (m55, .inl (cA 0, 10, .inl mf55)), (m56, .inl (cA 0, 12, .inl mf56)), (m57, .inl (cA 0, 12, .inl mf57)), (m58, .inl (cA 0, 12, .inl mf58)), (m59, .inl (cA 0, 12, .inl mf59)), (m22, .inl (cA 0, 6, .inl mf22)), (m60, .inl (cA 0, 2, .inl mf60)), (m61, .inl (cA 0, 2, .inl mf61)), (m62, .inl (cA 0, 2, .inl mf62)), (m71, .inl (cA 0, 10, .inl mf71))] H := hP
  have hD : va_D A [(mm, .inr (8, mfs)), (m52, .inl (cA 0, 20, .inl mf52)), (m53, .inl (cA 0, 20, .inl mf53)), (m54, .inl (cA 0, 100, .inl mf54)), (m55, .inl (cA 0, 10, .inl mf55)), (m56, .inl (cA 0, 12, .inl mf56)), (m57, .inl (cA 0, 12, .inl mf57)), (m58, .inl (cA 0, 12, .inl mf58)), (m59, .inl (cA 0, 12, .inl mf59)), (m22, .inl (cA 0, 6, .inl mf22)), (m60, .inl (cA 0, 2, .inl mf60)), (m61, .inl (cA 0, 2, .inl mf61)), (m62, .inl (cA 0, 2, .inl mf62)), (m71, .inl (cA 0, 10, .inl mf71))] := hD
  refine lv_aload_n hx hb dL_law_947 rfl (lv_at hl 2 rfl) ?_
  refine tq_ci (wr := []) hP hD hS hA [0, 1, 2, 3, 4, 5, 6, 7, 8, 9, 10, 11, 12, 13] [] rfl rfl (by decide) (by decide) (va_runV (As := []) (rest := [.int 0]) ⟨hx, hb, hml, hown, hT⟩ (c_X8_feet l G cA H.size mm mfs m52 m53 m54 m55 m56 m57 m58 m59 m22 m60 m61 m62 m71 mf52 mf53 mf54 mf55 mf56 mf57 mf58 mf59 mf22 mf60 mf61 mf62 mf71 (fh_sub hmf [0, 1, 2, 3, 4, 5, 6, 7, 8, 9, 10, 11, 12, 13, 14, 15] rfl) he60_0 he61_0) (cwV 0 hT (tq_gV kw_53_21 kw_53_22 kw_53_23 kw_1_5 kw_54_0) rfl rfl rfl (by decide +kernel) ⟨Nat.le_of_ble_eq_true rfl, Nat.le_of_ble_eq_true rfl⟩) ⟨(tq_pre (isC := [0, 1, 2, 3, 4, 5, 6, 7, 8, 9, 10, 11, 12, 13]) hP hD hK hN rfl (by decide)).1, va_recv hK hP (ci := 8) (q0 := 0) rfl rfl, (tq_pre (isC := [0, 1, 2, 3, 4, 5, 6, 7, 8, 9, 10, 11, 12, 13]) hP hD hK hN rfl (by decide)).2⟩ rfl rfl hl.1 rfl (lv_room (Nat.le_of_ble_eq_true rfl)) dL_law_948 ⟨Nat.le_of_ble_eq_true rfl, Nat.le_of_ble_eq_true rfl⟩) (fun r105 u106 H locs hw107 hP hD hS => ?_)
  refine W.widen (k := 160) (n := 7660) (Nat.le_of_ble_eq_true rfl) (Nat.le_of_ble_eq_true rfl) ?_
  have hr108 := hw107
  subst hr108
  have hP : va_P G vwCl [] H := hP
  have hD : va_D A [] := hD
  refine lv_icmp_eq (tgt := 1246) hx hb dL_law_951 (by decide) (fun c109 => ?_) (fun c109 => absurd (by decide) c109)
  refine lv_iinc (v := 6) (lv' := [(4, .int 6), (3, .ref oa), (2, .ref mm), (1, .ref h0), (0, .ref b)]) hx hb dL_law_1246 hl (k := 0) rfl (by decide) (by decide) rfl (fun ls hl => ?_)
  refine lv_goto (tgt := 23) hx hb dL_law_1249 (by decide) ?_
  refine lv_iload hx hb dL_law_23 (lv_at hl 0 rfl) ?_
  refine lv_aload_n hx hb dL_law_25 rfl (lv_at hl 4 rfl) ?_
  refine va_slen hx hb hX hbl hbA hS dL_law_26 ?_
  refine tq_i (w := 6) (by decide) ?_
  refine lv_bipush (v := 6) hx hb dL_law_27 (by decide) ?_
  refine lv_isub hx hb dL_law_29 ?_
  refine tq_i (w := 0) (by decide) ?_
  refine lv_icmp_gt (tgt := 1252) hx hb dL_law_30 (by decide) (fun c110 => ?_) (fun c110 => absurd (by decide) c110)
  refine lv_iconst (v := 1) hx hb dL_law_1252 (by decide) ?_
  refine va_forget (fun q hq => by have h9 := hS.2.2 q hq; rw [hAe] at h9; exact h9) ?_
  refine W.widen (k := 600002) (n := 7302232) (Nat.le_of_ble_eq_true rfl) (Nat.le_of_ble_eq_true rfl) ?_
  exact lw_ret hx hb hr hlocks dL_law_1253

set_option maxHeartbeats 4000000 in
set_option maxRecDepth 100000 in
theorem law_24 {p : Program} {e : Env} {s : State} {m : MethodId} {below : List Frame} {meth : Method} {c : Code} (l : Launch) (hst : l.stackTraces = false) {b : Nat} {xs : Nat → Int32} (C0 : lw_At p s m meth c b 6 xs) (G : va_G) (cA : Nat → ClassId) {A : Nat → Prop} (hAe : A = fun q : Nat => s.heap.size ≤ q) (hK : va_K G vwCl (tyL cA) s) (hN : tqN s) (sP : Nat) (hXx : tqX sP A s s.heap) (w0 : Int32) (w1 : Int32) (w2 : Int32) (w3 : Int32) (w4 : Int32) (w5 : Int32) (hw0 : xs 0 = w0) (hw1 : xs 1 = w1) (hw2 : xs 2 = w2) (hw3 : xs 3 = w3) (hw4 : xs 4 = w4) (hw5 : xs 5 = w5) (h0 : Nat) (mm : Nat) (oa : Nat) (fs : List Value) (pa : Nat) (ps : List Value) (mfs : List Value) {H : Heap} {locs : List Loc} {ls : Array Slot} (hf : fh fs 12 [(1, .ref pa)]) (hp : fh ps 19 [(2, .int 0), (0, .int 0)]) (hmf : fh mfs 91 [(78, .int 0), (14, .int 0), (12, .int 0)]) (hP : va_P G vwCl [(h0, .inr (7, fs)), (pa, .inr (2, ps)), (mm, .inr (8, mfs))] H) (hD : va_D A [(h0, .inr (7, fs)), (pa, .inr (2, ps)), (mm, .inr (8, mfs))]) (hS : va_S A s.heap H locs) (hl : lv_has ls 7 [(4, .int 0), (3, .ref oa), (2, .ref mm), (1, .ref h0), (0, .ref b)]) : W p l e room_1 s m #[Value.ref b] below meth c H locs 160 7660 (lw_Z below #[Value.ref b] s) (F0 m 956 ls []) := by
  obtain ⟨hx, hb, hr, hml, hown, hts, hX, hbl, hlocks, hgv⟩ := id C0
  have hT : ∀ v ∈ T0, v.before #[Value.ref b] s = true := fun v h => hts v (tq_law_in v h)
  have hown : s.vm.findClass RL = some m.cls := hown
  have hA : ∀ q : Nat, s.heap.size ≤ q → A q := fun q h => by rw [hAe]; exact h
  have hbA : ¬ A b := by rw [hAe]; exact Nat.not_le.mpr hbl
  have hO := hN.2.2.2.2
  refine lv_aload_n hx hb dL_law_956 rfl (lv_at hl 3 rfl) ?_
  refine lv_aload_n hx hb dL_law_957 rfl (lv_at hl 4 rfl) ?_
  refine lv_iload hx hb dL_law_958 (lv_at hl 0 rfl) ?_
  refine lv_iconst (v := 1) hx hb dL_law_960 (by decide) ?_
  refine lv_iadd hx hb dL_law_961 ?_
  refine tq_i (w := 1) (by decide) ?_
  refine va_sld (i := 1) hx hb hX hbl hbA hS (tq_in (by decide)) dL_law_962 ?_
  refine tq_i (w := w1) hw1 ?_
  refine lv_aload_n hx hb dL_law_963 rfl (lv_at hl 4 rfl) ?_
  refine lv_iload hx hb dL_law_964 (lv_at hl 0 rfl) ?_
  refine lv_iconst (v := 2) hx hb dL_law_966 (by decide) ?_
  refine lv_iadd hx hb dL_law_967 ?_
  refine tq_i (w := 2) (by decide) ?_
  refine va_sld (i := 2) hx hb hX hbl hbA hS (tq_in (by decide)) dL_law_968 ?_
  refine tq_i (w := w2) hw2 ?_
  refine lv_aload_n hx hb dL_law_969 rfl (lv_at hl 4 rfl) ?_
  refine lv_iload hx hb dL_law_970 (lv_at hl 0 rfl) ?_
  refine lv_iconst (v := 3) hx hb dL_law_972 (by decide) ?_
  refine lv_iadd hx hb dL_law_973 ?_
  refine tq_i (w := 3) (by decide) ?_
  refine va_sld (i := 3) hx hb hX hbl hbA hS (tq_in (by decide)) dL_law_974 ?_
  refine tq_i (w := w3) hw3 ?_
  refine lv_aload_n hx hb dL_law_975 rfl (lv_at hl 4 rfl) ?_
  refine lv_iload hx hb dL_law_976 (lv_at hl 0 rfl) ?_
  refine lv_iconst (v := 4) hx hb dL_law_978 (by decide) ?_
  refine lv_iadd hx hb dL_law_979 ?_
  refine tq_i (w := 4) (by decide) ?_
  refine va_sld (i := 4) hx hb hX hbl hbA hS (tq_in (by decide)) dL_law_980 ?_
  refine tq_i (w := w4) hw4 ?_
  refine lv_if_eq (tgt := 988) hx hb dL_law_981 (by decide) (fun c101 => ?_) (fun c101 => ?_)
  · have k101 := tq_eq (a := w4.toInt) (b := 0) rfl (by decide) c101
    refine lv_iconst (v := 0) hx hb dL_law_988 (by decide) ?_
    refine tq_ci (wr := [(mm, .inr (8, mfs))]) hP hD hS hA [0, 1] [2] rfl rfl (by decide) (by decide) (va_runV (As := [.int w1, .int w2, .int w3, .int 0]) (rest := []) ⟨hx, hb, hml, hown, hT⟩ (c_X7_see l G cA H.size h0 w1 w2 w3 0 fs pa ps (fh_sub hf [0] rfl) (fh_sub hp [0, 1] rfl)) (cwV 4 hT (tq_gV kw_54_1 kw_54_2 kw_54_3 kw_1_2 kw_54_4) rfl rfl rfl (by decide +kernel) ⟨Nat.le_of_ble_eq_true rfl, Nat.le_of_ble_eq_true rfl⟩) ⟨(tq_pre (isC := [0, 1]) hP hD hK hN rfl (by decide)).1, va_recv hK hP (ci := 7) (q0 := 0) rfl rfl, (tq_pre (isC := [0, 1]) hP hD hK hN rfl (by decide)).2⟩ rfl rfl hl.1 rfl (lv_room (Nat.le_of_ble_eq_true rfl)) dL_law_989 ⟨Nat.le_of_ble_eq_true rfl, Nat.le_of_ble_eq_true rfl⟩) (fun r102 u103 H locs hw104 hP hD hS => ?_)
    refine W.widen (k := 160) (n := 7660) (Nat.le_of_ble_eq_true rfl) (Nat.le_of_ble_eq_true rfl) ?_
    have hr105 := hw104
    subst hr105
    have hP : va_P G vwCl [(mm, .inr (8, mfs))] H := hP
    have hD : va_D A [(mm, .inr (8, mfs))] := hD
    refine lv_aload_n hx hb dL_law_992 rfl (lv_at hl 2 rfl) ?_
    refine lv_aload_n hx hb dL_law_993 rfl (lv_at hl 4 rfl) ?_
    refine lv_iload hx hb dL_law_994 (lv_at hl 0 rfl) ?_
    refine lv_iconst (v := 1) hx hb dL_law_996 (by decide) ?_
    refine lv_iadd hx hb dL_law_997 ?_
    refine tq_i (w := 1) (by decide) ?_
    refine va_sld (i := 1) hx hb hX hbl hbA hS (tq_in (by decide)) dL_law_998 ?_
    refine tq_i (w := w1) hw1 ?_
    refine lv_aload_n hx hb dL_law_999 rfl (lv_at hl 4 rfl) ?_
    refine lv_iload hx hb dL_law_1000 (lv_at hl 0 rfl) ?_
    refine lv_iconst (v := 2) hx hb dL_law_1002 (by decide) ?_
    refine lv_iadd hx hb dL_law_1003 ?_
    refine tq_i (w := 2) (by decide) ?_
    refine va_sld (i := 2) hx hb hX hbl hbA hS (tq_in (by decide)) dL_law_1004 ?_
    refine tq_i (w := w2) hw2 ?_
    refine lv_aload_n hx hb dL_law_1005 rfl (lv_at hl 4 rfl) ?_
    refine lv_iload hx hb dL_law_1006 (lv_at hl 0 rfl) ?_
    refine lv_iconst (v := 3) hx hb dL_law_1008 (by decide) ?_
    refine lv_iadd hx hb dL_law_1009 ?_
    refine tq_i (w := 3) (by decide) ?_
    refine va_sld (i := 3) hx hb hX hbl hbA hS (tq_in (by decide)) dL_law_1010 ?_
    refine tq_i (w := w3) hw3 ?_
    refine lv_aload_n hx hb dL_law_1011 rfl (lv_at hl 4 rfl) ?_
    refine lv_iload hx hb dL_law_1012 (lv_at hl 0 rfl) ?_
    refine lv_iconst (v := 4) hx hb dL_law_1014 (by decide) ?_
    refine lv_iadd hx hb dL_law_1015 ?_
    refine tq_i (w := 4) (by decide) ?_
    refine va_sld (i := 4) hx hb hX hbl hbA hS (tq_in (by decide)) dL_law_1016 ?_
    refine tq_i (w := w4) hw4 ?_
    refine lv_if_eq (tgt := 1024) hx hb dL_law_1017 (by decide) (fun c106 => ?_) (fun c106 => ?_)
    · have k106 := tq_eq (a := w4.toInt) (b := 0) rfl (by decide) c106
      refine lv_iconst (v := 0) hx hb dL_law_1024 (by decide) ?_
      refine tq_ci (wr := []) hP hD hS hA [0] [] rfl rfl (by decide) (by decide) (va_runV (As := [.int w1, .int w2, .int w3, .int 0]) (rest := [.int (-1)]) ⟨hx, hb, hml, hown, hT⟩ (c_X8_see l G cA H.size mm w1 w2 w3 0 mfs (fh_sub hmf [0, 1, 2] rfl)) (cwV 4 hT (tq_gV kw_54_9 kw_54_10 kw_54_11 kw_1_5 kw_54_12) rfl rfl rfl (by decide +kernel) ⟨Nat.le_of_ble_eq_true rfl, Nat.le_of_ble_eq_true rfl⟩) ⟨(tq_pre (isC := [0]) hP hD hK hN rfl (by decide)).1, va_recv hK hP (ci := 8) (q0 := 0) rfl rfl, (tq_pre (isC := [0]) hP hD hK hN rfl (by decide)).2⟩ rfl rfl hl.1 rfl (lv_room (Nat.le_of_ble_eq_true rfl)) dL_law_1025 ⟨Nat.le_of_ble_eq_true rfl, Nat.le_of_ble_eq_true rfl⟩) (fun r107 u108 H locs hw109 hP hD hS => ?_)
      refine W.widen (k := 160) (n := 7660) (Nat.le_of_ble_eq_true rfl) (Nat.le_of_ble_eq_true rfl) ?_
      have hr110 := hw109
      subst hr110
      have hP : va_P G vwCl [] H := hP
      have hD : va_D A [] := hD
      refine lv_icmp_eq (tgt := 1246) hx hb dL_law_1028 (by decide) (fun c111 => ?_) (fun c111 => absurd (by decide) c111)
      refine lv_iinc (v := 6) (lv' := [(4, .int 6), (3, .ref oa), (2, .ref mm), (1, .ref h0), (0, .ref b)]) hx hb dL_law_1246 hl (k := 0) rfl (by decide) (by decide) rfl (fun ls hl => ?_)
      refine lv_goto (tgt := 23) hx hb dL_law_1249 (by decide) ?_
      refine lv_iload hx hb dL_law_23 (lv_at hl 0 rfl) ?_
      refine lv_aload_n hx hb dL_law_25 rfl (lv_at hl 4 rfl) ?_
      refine va_slen hx hb hX hbl hbA hS dL_law_26 ?_
      refine tq_i (w := 6) (by decide) ?_
      refine lv_bipush (v := 6) hx hb dL_law_27 (by decide) ?_
      refine lv_isub hx hb dL_law_29 ?_
      refine tq_i (w := 0) (by decide) ?_
      refine lv_icmp_gt (tgt := 1252) hx hb dL_law_30 (by decide) (fun c112 => ?_) (fun c112 => absurd (by decide) c112)
      refine lv_iconst (v := 1) hx hb dL_law_1252 (by decide) ?_
      refine va_forget (fun q hq => by have h9 := hS.2.2 q hq; rw [hAe] at h9; exact h9) ?_
      refine W.widen (k := 600002) (n := 7302232) (Nat.le_of_ble_eq_true rfl) (Nat.le_of_ble_eq_true rfl) ?_
      exact lw_ret hx hb hr hlocks dL_law_1253
    · have k106 := tq_eqn (a := w4.toInt) (b := 0) rfl (by decide) c106
      exfalso
      omega
  · have k101 := tq_eqn (a := w4.toInt) (b := 0) rfl (by decide) c101
    refine lv_iconst (v := 1) hx hb dL_law_984 (by decide) ?_
    refine lv_goto (tgt := 989) hx hb dL_law_985 (by decide) ?_
    refine tq_ci (wr := [(mm, .inr (8, mfs))]) hP hD hS hA [0, 1] [2] rfl rfl (by decide) (by decide) (va_runV (As := [.int w1, .int w2, .int w3, .int 1]) (rest := []) ⟨hx, hb, hml, hown, hT⟩ (c_X7_see l G cA H.size h0 w1 w2 w3 1 fs pa ps (fh_sub hf [0] rfl) (fh_sub hp [0, 1] rfl)) (cwV 4 hT (tq_gV kw_54_1 kw_54_2 kw_54_3 kw_1_2 kw_54_4) rfl rfl rfl (by decide +kernel) ⟨Nat.le_of_ble_eq_true rfl, Nat.le_of_ble_eq_true rfl⟩) ⟨(tq_pre (isC := [0, 1]) hP hD hK hN rfl (by decide)).1, va_recv hK hP (ci := 7) (q0 := 0) rfl rfl, (tq_pre (isC := [0, 1]) hP hD hK hN rfl (by decide)).2⟩ rfl rfl hl.1 rfl (lv_room (Nat.le_of_ble_eq_true rfl)) dL_law_989 ⟨Nat.le_of_ble_eq_true rfl, Nat.le_of_ble_eq_true rfl⟩) (fun r113 u114 H locs hw115 hP hD hS => ?_)
    refine W.widen (k := 160) (n := 7660) (Nat.le_of_ble_eq_true rfl) (Nat.le_of_ble_eq_true rfl) ?_
    have hr116 := hw115
    subst hr116
    have hP : va_P G vwCl [(mm, .inr (8, mfs))] H := hP
    have hD : va_D A [(mm, .inr (8, mfs))] := hD
    refine lv_aload_n hx hb dL_law_992 rfl (lv_at hl 2 rfl) ?_
    refine lv_aload_n hx hb dL_law_993 rfl (lv_at hl 4 rfl) ?_
    refine lv_iload hx hb dL_law_994 (lv_at hl 0 rfl) ?_
    refine lv_iconst (v := 1) hx hb dL_law_996 (by decide) ?_
    refine lv_iadd hx hb dL_law_997 ?_
    refine tq_i (w := 1) (by decide) ?_
    refine va_sld (i := 1) hx hb hX hbl hbA hS (tq_in (by decide)) dL_law_998 ?_
    refine tq_i (w := w1) hw1 ?_
    refine lv_aload_n hx hb dL_law_999 rfl (lv_at hl 4 rfl) ?_
    refine lv_iload hx hb dL_law_1000 (lv_at hl 0 rfl) ?_
    refine lv_iconst (v := 2) hx hb dL_law_1002 (by decide) ?_
    refine lv_iadd hx hb dL_law_1003 ?_
    refine tq_i (w := 2) (by decide) ?_
    refine va_sld (i := 2) hx hb hX hbl hbA hS (tq_in (by decide)) dL_law_1004 ?_
    refine tq_i (w := w2) hw2 ?_
    refine lv_aload_n hx hb dL_law_1005 rfl (lv_at hl 4 rfl) ?_
    refine lv_iload hx hb dL_law_1006 (lv_at hl 0 rfl) ?_
    refine lv_iconst (v := 3) hx hb dL_law_1008 (by decide) ?_
    refine lv_iadd hx hb dL_law_1009 ?_
    refine tq_i (w := 3) (by decide) ?_
    refine va_sld (i := 3) hx hb hX hbl hbA hS (tq_in (by decide)) dL_law_1010 ?_
    refine tq_i (w := w3) hw3 ?_
    refine lv_aload_n hx hb dL_law_1011 rfl (lv_at hl 4 rfl) ?_
    refine lv_iload hx hb dL_law_1012 (lv_at hl 0 rfl) ?_
    refine lv_iconst (v := 4) hx hb dL_law_1014 (by decide) ?_
    refine lv_iadd hx hb dL_law_1015 ?_
    refine tq_i (w := 4) (by decide) ?_
    refine va_sld (i := 4) hx hb hX hbl hbA hS (tq_in (by decide)) dL_law_1016 ?_
    refine tq_i (w := w4) hw4 ?_
    refine lv_if_eq (tgt := 1024) hx hb dL_law_1017 (by decide) (fun c117 => ?_) (fun c117 => ?_)
    · have k117 := tq_eq (a := w4.toInt) (b := 0) rfl (by decide) c117
      exfalso
      omega
    · have k117 := tq_eqn (a := w4.toInt) (b := 0) rfl (by decide) c117
      refine lv_iconst (v := 1) hx hb dL_law_1020 (by decide) ?_
      refine lv_goto (tgt := 1025) hx hb dL_law_1021 (by decide) ?_
      refine tq_ci (wr := []) hP hD hS hA [0] [] rfl rfl (by decide) (by decide) (va_runV (As := [.int w1, .int w2, .int w3, .int 1]) (rest := [.int (-1)]) ⟨hx, hb, hml, hown, hT⟩ (c_X8_see l G cA H.size mm w1 w2 w3 1 mfs (fh_sub hmf [0, 1, 2] rfl)) (cwV 4 hT (tq_gV kw_54_9 kw_54_10 kw_54_11 kw_1_5 kw_54_12) rfl rfl rfl (by decide +kernel) ⟨Nat.le_of_ble_eq_true rfl, Nat.le_of_ble_eq_true rfl⟩) ⟨(tq_pre (isC := [0]) hP hD hK hN rfl (by decide)).1, va_recv hK hP (ci := 8) (q0 := 0) rfl rfl, (tq_pre (isC := [0]) hP hD hK hN rfl (by decide)).2⟩ rfl rfl hl.1 rfl (lv_room (Nat.le_of_ble_eq_true rfl)) dL_law_1025 ⟨Nat.le_of_ble_eq_true rfl, Nat.le_of_ble_eq_true rfl⟩) (fun r118 u119 H locs hw120 hP hD hS => ?_)
      refine W.widen (k := 160) (n := 7660) (Nat.le_of_ble_eq_true rfl) (Nat.le_of_ble_eq_true rfl) ?_
      have hr121 := hw120
      subst hr121
      have hP : va_P G vwCl [] H := hP
      have hD : va_D A [] := hD
      refine lv_icmp_eq (tgt := 1246) hx hb dL_law_1028 (by decide) (fun c122 => ?_) (fun c122 => absurd (by decide) c122)
      refine lv_iinc (v := 6) (lv' := [(4, .int 6), (3, .ref oa), (2, .ref mm), (1, .ref h0), (0, .ref b)]) hx hb dL_law_1246 hl (k := 0) rfl (by decide) (by decide) rfl (fun ls hl => ?_)
      refine lv_goto (tgt := 23) hx hb dL_law_1249 (by decide) ?_
      refine lv_iload hx hb dL_law_23 (lv_at hl 0 rfl) ?_
      refine lv_aload_n hx hb dL_law_25 rfl (lv_at hl 4 rfl) ?_
      refine va_slen hx hb hX hbl hbA hS dL_law_26 ?_
      refine tq_i (w := 6) (by decide) ?_
      refine lv_bipush (v := 6) hx hb dL_law_27 (by decide) ?_
      refine lv_isub hx hb dL_law_29 ?_
      refine tq_i (w := 0) (by decide) ?_
      refine lv_icmp_gt (tgt := 1252) hx hb dL_law_30 (by decide) (fun c123 => ?_) (fun c123 => absurd (by decide) c123)
      refine lv_iconst (v := 1) hx hb dL_law_1252 (by decide) ?_
      refine va_forget (fun q hq => by have h9 := hS.2.2 q hq; rw [hAe] at h9; exact h9) ?_
      refine W.widen (k := 600002) (n := 7302232) (Nat.le_of_ble_eq_true rfl) (Nat.le_of_ble_eq_true rfl) ?_
      exact lw_ret hx hb hr hlocks dL_law_1253

set_option maxHeartbeats 4000000 in
set_option maxRecDepth 100000 in
theorem law_25 {p : Program} {e : Env} {s : State} {m : MethodId} {below : List Frame} {meth : Method} {c : Code} (l : Launch) (hst : l.stackTraces = false) {b : Nat} {xs : Nat → Int32} (C0 : lw_At p s m meth c b 6 xs) (G : va_G) (cA : Nat → ClassId) {A : Nat → Prop} (hAe : A = fun q : Nat => s.heap.size ≤ q) (hK : va_K G vwCl (tyL cA) s) (hN : tqN s) (sP : Nat) (hXx : tqX sP A s s.heap) (w0 : Int32) (w1 : Int32) (w2 : Int32) (w3 : Int32) (w4 : Int32) (w5 : Int32) (hw0 : xs 0 = w0) (hw1 : xs 1 = w1) (hw2 : xs 2 = w2) (hw3 : xs 3 = w3) (hw4 : xs 4 = w4) (hw5 : xs 5 = w5) (h0 : Nat) (mm : Nat) (oa : Nat) (fs : List Value) (sg : Nat) (gs : List Value) (mfs : List Value) {H : Heap} {locs : List Loc} {ls : Array Slot} (hf : fh fs 12 [(8, .ref sg)]) (hsg : fh gs 7 [(0, .int 0)]) (hmf : fh mfs 91 [(78, .int 0)]) (hP : va_P G vwCl [(h0, .inr (7, fs)), (sg, .inr (4, gs)), (mm, .inr (8, mfs))] H) (hD : va_D A [(h0, .inr (7, fs)), (sg, .inr (4, gs)), (mm, .inr (8, mfs))]) (hS : va_S A s.heap H locs) (hl : lv_has ls 7 [(4, .int 0), (3, .ref oa), (2, .ref mm), (1, .ref h0), (0, .ref b)]) : W p l e room_1 s m #[Value.ref b] below meth c H locs 160 7660 (lw_Z below #[Value.ref b] s) (F0 m 1033 ls []) := by
  obtain ⟨hx, hb, hr, hml, hown, hts, hX, hbl, hlocks, hgv⟩ := id C0
  have hT : ∀ v ∈ T0, v.before #[Value.ref b] s = true := fun v h => hts v (tq_law_in v h)
  have hown : s.vm.findClass RL = some m.cls := hown
  have hA : ∀ q : Nat, s.heap.size ≤ q → A q := fun q h => by rw [hAe]; exact h
  have hbA : ¬ A b := by rw [hAe]; exact Nat.not_le.mpr hbl
  have hO := hN.2.2.2.2
  refine lv_aload_n hx hb dL_law_1033 rfl (lv_at hl 3 rfl) ?_
  refine lv_aload_n hx hb dL_law_1034 rfl (lv_at hl 4 rfl) ?_
  refine lv_iload hx hb dL_law_1035 (lv_at hl 0 rfl) ?_
  refine lv_iconst (v := 1) hx hb dL_law_1037 (by decide) ?_
  refine lv_iadd hx hb dL_law_1038 ?_
  refine tq_i (w := 1) (by decide) ?_
  refine va_sld (i := 1) hx hb hX hbl hbA hS (tq_in (by decide)) dL_law_1039 ?_
  refine tq_i (w := w1) hw1 ?_
  refine tq_ci (wr := [(mm, .inr (8, mfs))]) hP hD hS hA [0, 1] [2] rfl rfl (by decide) (by decide) (va_runV (As := [.int w1]) (rest := []) ⟨hx, hb, hml, hown, hT⟩ (c_X7_strike l G cA H.size h0 w1 fs sg gs (fh_sub hf [0] rfl) (fh_sub hsg [0] rfl)) (cwV 1 hT (tq_gV kw_54_17 kw_54_18 kw_54_19 kw_1_2 kw_54_20) rfl rfl rfl (by decide +kernel) ⟨Nat.le_of_ble_eq_true rfl, Nat.le_of_ble_eq_true rfl⟩) ⟨(tq_pre (isC := [0, 1]) hP hD hK hN rfl (by decide)).1, va_recv hK hP (ci := 7) (q0 := 0) rfl rfl, (tq_pre (isC := [0, 1]) hP hD hK hN rfl (by decide)).2⟩ rfl rfl hl.1 rfl (lv_room (Nat.le_of_ble_eq_true rfl)) dL_law_1040 ⟨Nat.le_of_ble_eq_true rfl, Nat.le_of_ble_eq_true rfl⟩) (fun r101 u102 H locs hw103 hP hD hS => ?_)
  refine W.widen (k := 160) (n := 7660) (Nat.le_of_ble_eq_true rfl) (Nat.le_of_ble_eq_true rfl) ?_
  have hr104 := hw103
  subst hr104
  have hP : va_P G vwCl [(mm, .inr (8, mfs))] H := hP
  have hD : va_D A [(mm, .inr (8, mfs))] := hD
  refine lv_aload_n hx hb dL_law_1043 rfl (lv_at hl 2 rfl) ?_
  refine lv_aload_n hx hb dL_law_1044 rfl (lv_at hl 4 rfl) ?_
  refine lv_iload hx hb dL_law_1045 (lv_at hl 0 rfl) ?_
  refine lv_iconst (v := 1) hx hb dL_law_1047 (by decide) ?_
  refine lv_iadd hx hb dL_law_1048 ?_
  refine tq_i (w := 1) (by decide) ?_
  refine va_sld (i := 1) hx hb hX hbl hbA hS (tq_in (by decide)) dL_law_1049 ?_
  refine tq_i (w := w1) hw1 ?_
  refine tq_ci (wr := []) hP hD hS hA [0] [] rfl rfl (by decide) (by decide) (va_runV (As := [.int w1]) (rest := [.int (-1)]) ⟨hx, hb, hml, hown, hT⟩ (c_X8_strike l G cA H.size mm w1 mfs (fh_sub hmf [0] rfl)) (cwV 1 hT (tq_gV kw_54_22 kw_54_23 kw_55_0 kw_1_5 kw_55_1) rfl rfl rfl (by decide +kernel) ⟨Nat.le_of_ble_eq_true rfl, Nat.le_of_ble_eq_true rfl⟩) ⟨(tq_pre (isC := [0]) hP hD hK hN rfl (by decide)).1, va_recv hK hP (ci := 8) (q0 := 0) rfl rfl, (tq_pre (isC := [0]) hP hD hK hN rfl (by decide)).2⟩ rfl rfl hl.1 rfl (lv_room (Nat.le_of_ble_eq_true rfl)) dL_law_1050 ⟨Nat.le_of_ble_eq_true rfl, Nat.le_of_ble_eq_true rfl⟩) (fun r105 u106 H locs hw107 hP hD hS => ?_)
  refine W.widen (k := 160) (n := 7660) (Nat.le_of_ble_eq_true rfl) (Nat.le_of_ble_eq_true rfl) ?_
  have hr108 := hw107
  subst hr108
  have hP : va_P G vwCl [] H := hP
  have hD : va_D A [] := hD
  refine lv_icmp_eq (tgt := 1246) hx hb dL_law_1053 (by decide) (fun c109 => ?_) (fun c109 => absurd (by decide) c109)
  refine lv_iinc (v := 6) (lv' := [(4, .int 6), (3, .ref oa), (2, .ref mm), (1, .ref h0), (0, .ref b)]) hx hb dL_law_1246 hl (k := 0) rfl (by decide) (by decide) rfl (fun ls hl => ?_)
  refine lv_goto (tgt := 23) hx hb dL_law_1249 (by decide) ?_
  refine lv_iload hx hb dL_law_23 (lv_at hl 0 rfl) ?_
  refine lv_aload_n hx hb dL_law_25 rfl (lv_at hl 4 rfl) ?_
  refine va_slen hx hb hX hbl hbA hS dL_law_26 ?_
  refine tq_i (w := 6) (by decide) ?_
  refine lv_bipush (v := 6) hx hb dL_law_27 (by decide) ?_
  refine lv_isub hx hb dL_law_29 ?_
  refine tq_i (w := 0) (by decide) ?_
  refine lv_icmp_gt (tgt := 1252) hx hb dL_law_30 (by decide) (fun c110 => ?_) (fun c110 => absurd (by decide) c110)
  refine lv_iconst (v := 1) hx hb dL_law_1252 (by decide) ?_
  refine va_forget (fun q hq => by have h9 := hS.2.2 q hq; rw [hAe] at h9; exact h9) ?_
  refine W.widen (k := 600002) (n := 7302232) (Nat.le_of_ble_eq_true rfl) (Nat.le_of_ble_eq_true rfl) ?_
  exact lw_ret hx hb hr hlocks dL_law_1253

set_option maxHeartbeats 4000000 in
set_option maxRecDepth 100000 in
theorem law_26 {p : Program} {e : Env} {s : State} {m : MethodId} {below : List Frame} {meth : Method} {c : Code} (l : Launch) (hst : l.stackTraces = false) {b : Nat} {xs : Nat → Int32} (C0 : lw_At p s m meth c b 6 xs) (G : va_G) (cA : Nat → ClassId) {A : Nat → Prop} (hAe : A = fun q : Nat => s.heap.size ≤ q) (hK : va_K G vwCl (tyL cA) s) (hN : tqN s) (sP : Nat) (hXx : tqX sP A s s.heap) (w0 : Int32) (w1 : Int32) (w2 : Int32) (w3 : Int32) (w4 : Int32) (w5 : Int32) (hw0 : xs 0 = w0) (hw1 : xs 1 = w1) (hw2 : xs 2 = w2) (hw3 : xs 3 = w3) (hw4 : xs 4 = w4) (hw5 : xs 5 = w5) (h0 : Nat) (mm : Nat) (oa : Nat) (fs : List Value) (sg : Nat) (gs : List Value) (mfs : List Value) {H : Heap} {locs : List Loc} {ls : Array Slot} (hf : fh fs 12 [(8, .ref sg)]) (hsg : fh gs 7 [(0, .int 0)]) (hmf : fh mfs 91 [(78, .int 0)]) (hP : va_P G vwCl [(h0, .inr (7, fs)), (sg, .inr (4, gs)), (mm, .inr (8, mfs))] H) (hD : va_D A [(h0, .inr (7, fs)), (sg, .inr (4, gs)), (mm, .inr (8, mfs))]) (hS : va_S A s.heap H locs) (hl : lv_has ls 7 [(4, .int 0), (3, .ref oa), (2, .ref mm), (1, .ref h0), (0, .ref b)]) : W p l e room_1 s m #[Value.ref b] below meth c H locs 160 7660 (lw_Z below #[Value.ref b] s) (F0 m 1058 ls []) := by
  obtain ⟨hx, hb, hr, hml, hown, hts, hX, hbl, hlocks, hgv⟩ := id C0
  have hT : ∀ v ∈ T0, v.before #[Value.ref b] s = true := fun v h => hts v (tq_law_in v h)
  have hown : s.vm.findClass RL = some m.cls := hown
  have hA : ∀ q : Nat, s.heap.size ≤ q → A q := fun q h => by rw [hAe]; exact h
  have hbA : ¬ A b := by rw [hAe]; exact Nat.not_le.mpr hbl
  have hO := hN.2.2.2.2
  refine lv_aload_n hx hb dL_law_1058 rfl (lv_at hl 3 rfl) ?_
  refine lv_aload_n hx hb dL_law_1059 rfl (lv_at hl 4 rfl) ?_
  refine lv_iload hx hb dL_law_1060 (lv_at hl 0 rfl) ?_
  refine lv_iconst (v := 1) hx hb dL_law_1062 (by decide) ?_
  refine lv_iadd hx hb dL_law_1063 ?_
  refine tq_i (w := 1) (by decide) ?_
  refine va_sld (i := 1) hx hb hX hbl hbA hS (tq_in (by decide)) dL_law_1064 ?_
  refine tq_i (w := w1) hw1 ?_
  refine tq_ci (wr := [(mm, .inr (8, mfs))]) hP hD hS hA [0, 1] [2] rfl rfl (by decide) (by decide) (va_runV (As := [.int w1]) (rest := []) ⟨hx, hb, hml, hown, hT⟩ (c_X7_known l G cA H.size h0 w1 fs sg gs (fh_sub hf [0] rfl) (fh_sub hsg [0] rfl)) (cwV 1 hT (tq_gV kw_55_2 kw_55_3 kw_55_4 kw_1_2 kw_55_5) rfl rfl rfl (by decide +kernel) ⟨Nat.le_of_ble_eq_true rfl, Nat.le_of_ble_eq_true rfl⟩) ⟨(tq_pre (isC := [0, 1]) hP hD hK hN rfl (by decide)).1, va_recv hK hP (ci := 7) (q0 := 0) rfl rfl, (tq_pre (isC := [0, 1]) hP hD hK hN rfl (by decide)).2⟩ rfl rfl hl.1 rfl (lv_room (Nat.le_of_ble_eq_true rfl)) dL_law_1065 ⟨Nat.le_of_ble_eq_true rfl, Nat.le_of_ble_eq_true rfl⟩) (fun r101 u102 H locs hw103 hP hD hS => ?_)
  refine W.widen (k := 160) (n := 7660) (Nat.le_of_ble_eq_true rfl) (Nat.le_of_ble_eq_true rfl) ?_
  have hr104 := hw103
  subst hr104
  have hP : va_P G vwCl [(mm, .inr (8, mfs))] H := hP
  have hD : va_D A [(mm, .inr (8, mfs))] := hD
  refine lv_aload_n hx hb dL_law_1068 rfl (lv_at hl 2 rfl) ?_
  refine lv_aload_n hx hb dL_law_1069 rfl (lv_at hl 4 rfl) ?_
  refine lv_iload hx hb dL_law_1070 (lv_at hl 0 rfl) ?_
  refine lv_iconst (v := 1) hx hb dL_law_1072 (by decide) ?_
  refine lv_iadd hx hb dL_law_1073 ?_
  refine tq_i (w := 1) (by decide) ?_
  refine va_sld (i := 1) hx hb hX hbl hbA hS (tq_in (by decide)) dL_law_1074 ?_
  refine tq_i (w := w1) hw1 ?_
  refine tq_ci (wr := []) hP hD hS hA [0] [] rfl rfl (by decide) (by decide) (va_runV (As := [.int w1]) (rest := [.int ((sp_known w1))]) ⟨hx, hb, hml, hown, hT⟩ (c_X8_known l G cA H.size mm w1 mfs (fh_sub hmf [0] rfl)) (cwV 1 hT (tq_gV kw_55_7 kw_55_8 kw_55_9 kw_1_5 kw_55_10) rfl rfl rfl (by decide +kernel) ⟨Nat.le_of_ble_eq_true rfl, Nat.le_of_ble_eq_true rfl⟩) ⟨(tq_pre (isC := [0]) hP hD hK hN rfl (by decide)).1, va_recv hK hP (ci := 8) (q0 := 0) rfl rfl, (tq_pre (isC := [0]) hP hD hK hN rfl (by decide)).2⟩ rfl rfl hl.1 rfl (lv_room (Nat.le_of_ble_eq_true rfl)) dL_law_1075 ⟨Nat.le_of_ble_eq_true rfl, Nat.le_of_ble_eq_true rfl⟩) (fun r105 u106 H locs hw107 hP hD hS => ?_)
  refine W.widen (k := 160) (n := 7660) (Nat.le_of_ble_eq_true rfl) (Nat.le_of_ble_eq_true rfl) ?_
  have hr108 := hw107
  subst hr108
  have hP : va_P G vwCl [] H := hP
  have hD : va_D A [] := hD
  refine lv_icmp_eq (tgt := 1246) hx hb dL_law_1078 (by decide) (fun c109 => ?_) (fun c109 => absurd rfl c109)
  refine lv_iinc (v := 6) (lv' := [(4, .int 6), (3, .ref oa), (2, .ref mm), (1, .ref h0), (0, .ref b)]) hx hb dL_law_1246 hl (k := 0) rfl (by decide) (by decide) rfl (fun ls hl => ?_)
  refine lv_goto (tgt := 23) hx hb dL_law_1249 (by decide) ?_
  refine lv_iload hx hb dL_law_23 (lv_at hl 0 rfl) ?_
  refine lv_aload_n hx hb dL_law_25 rfl (lv_at hl 4 rfl) ?_
  refine va_slen hx hb hX hbl hbA hS dL_law_26 ?_
  refine tq_i (w := 6) (by decide) ?_
  refine lv_bipush (v := 6) hx hb dL_law_27 (by decide) ?_
  refine lv_isub hx hb dL_law_29 ?_
  refine tq_i (w := 0) (by decide) ?_
  refine lv_icmp_gt (tgt := 1252) hx hb dL_law_30 (by decide) (fun c110 => ?_) (fun c110 => absurd (by decide) c110)
  refine lv_iconst (v := 1) hx hb dL_law_1252 (by decide) ?_
  refine va_forget (fun q hq => by have h9 := hS.2.2 q hq; rw [hAe] at h9; exact h9) ?_
  refine W.widen (k := 600002) (n := 7302232) (Nat.le_of_ble_eq_true rfl) (Nat.le_of_ble_eq_true rfl) ?_
  exact lw_ret hx hb hr hlocks dL_law_1253
