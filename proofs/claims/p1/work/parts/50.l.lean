set_option maxHeartbeats 4000000 in
set_option maxRecDepth 100000 in
theorem law_0 {p : Program} {e : Env} {s : State} {m : MethodId} {below : List Frame} {meth : Method} {c : Code} (l : Launch) (hst : l.stackTraces = false) {b : Nat} {xs : Nat → Int32} (C0 : lw_At p s m meth c b 6 xs) (G : va_G) (cA : Nat → ClassId) {A : Nat → Prop} (hAe : A = fun q : Nat => s.heap.size ≤ q) (hK : va_K G vwCl (tyL cA) s) (hN : tqN s) (sP : Nat) (hXx : tqX sP A s s.heap) (w0 : Int32) (w1 : Int32) (w2 : Int32) (w3 : Int32) (w4 : Int32) (w5 : Int32) (hw0 : xs 0 = w0) (hw1 : xs 1 = w1) (hw2 : xs 2 = w2) (hw3 : xs 3 = w3) (hw4 : xs 4 = w4) (hw5 : xs 5 = w5) (h0 : Nat) (mm : Nat) (oa : Nat) (fs : List Value) (rd : Nat) (rs : List Value) (tk : Nat) (ks : List Value) (tp : Nat) (ft : Nat → Int32) (mfs : List Value) (m0 : Nat) (mf0 : Nat → Int32) {H : Heap} {locs : List Loc} {ls : Array Slot} (hf : fh fs 12 [(0, .ref rd)]) (hrd : fh rs 10 [(0, .ref tk)]) (htk : fh ks 8 [(0, .int 0), (4, .ref tp)]) (hmf : fh mfs 91 [(0, .ref m0), (1, .int 0)]) (hP : va_P G vwCl [(h0, .inr (7, fs)), (rd, .inr (3, rs)), (tk, .inr (5, ks)), (tp, .inl (cA 3, 700, .inl ft)), (mm, .inr (8, mfs)), (m0, .inl (cA 0, 700, .inl mf0))] H) (hD : va_D A [(h0, .inr (7, fs)), (rd, .inr (3, rs)), (tk, .inr (5, ks)), (tp, .inl (cA 3, 700, .inl ft)), (mm, .inr (8, mfs)), (m0, .inl (cA 0, 700, .inl mf0))]) (hS : va_S A s.heap H locs) (hl : lv_has ls 7 [(4, .int 0), (3, .ref oa), (2, .ref mm), (1, .ref h0), (0, .ref b)]) : W p l e room_1 s m #[Value.ref b] below meth c H locs 160 7660 (lw_Z below #[Value.ref b] s) (F0 m 192 ls []) := by
  obtain ⟨hx, hb, hr, hml, hown, hts, hX, hbl, hlocks, hgv⟩ := id C0
  have hT : ∀ v ∈ T0, v.before #[Value.ref b] s = true := fun v h => hts v (tq_law_in v h)
  have hown : s.vm.findClass RL = some m.cls := hown
  have hA : ∀ q : Nat, s.heap.size ≤ q → A q := fun q h => by rw [hAe]; exact h
  have hbA : ¬ A b := by rw [hAe]; exact Nat.not_le.mpr hbl
  have hO := hN.2.2.2.2
  refine lv_aload_n hx hb dL_law_192 rfl (lv_at hl 3 rfl) ?_
  refine lv_aload_n hx hb dL_law_193 rfl (lv_at hl 4 rfl) ?_
  refine lv_iload hx hb dL_law_194 (lv_at hl 0 rfl) ?_
  refine lv_iconst (v := 1) hx hb dL_law_196 (by decide) ?_
  refine lv_iadd hx hb dL_law_197 ?_
  refine tq_i (w := 1) (by decide) ?_
  refine va_sld (i := 1) hx hb hX hbl hbA hS (tq_in (by decide)) dL_law_198 ?_
  refine tq_i (w := w1) hw1 ?_
  refine lv_aload_n hx hb dL_law_199 rfl (lv_at hl 4 rfl) ?_
  refine lv_iload hx hb dL_law_200 (lv_at hl 0 rfl) ?_
  refine lv_iconst (v := 2) hx hb dL_law_202 (by decide) ?_
  refine lv_iadd hx hb dL_law_203 ?_
  refine tq_i (w := 2) (by decide) ?_
  refine va_sld (i := 2) hx hb hX hbl hbA hS (tq_in (by decide)) dL_law_204 ?_
  refine tq_i (w := w2) hw2 ?_
  refine lv_aload_n hx hb dL_law_205 rfl (lv_at hl 4 rfl) ?_
  refine lv_iload hx hb dL_law_206 (lv_at hl 0 rfl) ?_
  refine lv_iconst (v := 3) hx hb dL_law_208 (by decide) ?_
  refine lv_iadd hx hb dL_law_209 ?_
  refine tq_i (w := 3) (by decide) ?_
  refine va_sld (i := 3) hx hb hX hbl hbA hS (tq_in (by decide)) dL_law_210 ?_
  refine tq_i (w := w3) hw3 ?_
  refine lv_aload_n hx hb dL_law_211 rfl (lv_at hl 4 rfl) ?_
  refine lv_iload hx hb dL_law_212 (lv_at hl 0 rfl) ?_
  refine lv_iconst (v := 4) hx hb dL_law_214 (by decide) ?_
  refine lv_iadd hx hb dL_law_215 ?_
  refine tq_i (w := 4) (by decide) ?_
  refine va_sld (i := 4) hx hb hX hbl hbA hS (tq_in (by decide)) dL_law_216 ?_
  refine tq_i (w := w4) hw4 ?_
  refine lv_aload_n hx hb dL_law_217 rfl (lv_at hl 4 rfl) ?_
  refine lv_iload hx hb dL_law_218 (lv_at hl 0 rfl) ?_
  refine lv_iconst (v := 5) hx hb dL_law_220 (by decide) ?_
  refine lv_iadd hx hb dL_law_221 ?_
  refine tq_i (w := 5) (by decide) ?_
  refine va_sld (i := 5) hx hb hX hbl hbA hS (tq_in (by decide)) dL_law_222 ?_
  refine tq_i (w := w5) hw5 ?_
  refine tq_ci (wr := [(mm, .inr (8, mfs)), (m0, .inl (cA 0, 700, .inl mf0))]) hP hD hS hA [0, 1, 2, 3] [4, 5] rfl rfl (by decide) (by decide) (va_runV (As := [.int w1, .int w2, .int w3, .int w4, .int w5]) (rest := []) ⟨hx, hb, hml, hown, hT⟩ (c_X7_feed l G cA H.size h0 w1 w2 w3 w4 w5 fs rd rs tk ks tp ft (fh_sub hf [0] rfl) (fh_sub hrd [0] rfl) (fh_sub htk [0, 1] rfl)) (cwV 5 hT (tq_gV kw_13_9 kw_13_10 kw_13_11 kw_1_2 kw_13_12) rfl rfl rfl (by decide +kernel) ⟨Nat.le_of_ble_eq_true rfl, Nat.le_of_ble_eq_true rfl⟩) ⟨(tq_pre (isC := [0, 1, 2, 3]) hP hD hK hN rfl (by decide)).1, va_recv hK hP (ci := 7) (q0 := 0) rfl rfl, (tq_pre (isC := [0, 1, 2, 3]) hP hD hK hN rfl (by decide)).2⟩ rfl rfl hl.1 rfl (lv_room (Nat.le_of_ble_eq_true rfl)) dL_law_223 ⟨Nat.le_of_ble_eq_true rfl, Nat.le_of_ble_eq_true rfl⟩) (fun r101 u102 H locs hw103 hP hD hS => ?_)
  refine W.widen (k := 160) (n := 7660) (Nat.le_of_ble_eq_true rfl) (Nat.le_of_ble_eq_true rfl) ?_
  have hr104 := hw103
  subst hr104
  have hP : va_P G vwCl [(mm, .inr (8, mfs)), (m0, .inl (cA 0, 700, .inl mf0))] H := hP
  have hD : va_D A [(mm, .inr (8, mfs)), (m0, .inl (cA 0, 700, .inl mf0))] := hD
  refine lv_aload_n hx hb dL_law_226 rfl (lv_at hl 2 rfl) ?_
  refine lv_aload_n hx hb dL_law_227 rfl (lv_at hl 4 rfl) ?_
  refine lv_iload hx hb dL_law_228 (lv_at hl 0 rfl) ?_
  refine lv_iconst (v := 1) hx hb dL_law_230 (by decide) ?_
  refine lv_iadd hx hb dL_law_231 ?_
  refine tq_i (w := 1) (by decide) ?_
  refine va_sld (i := 1) hx hb hX hbl hbA hS (tq_in (by decide)) dL_law_232 ?_
  refine tq_i (w := w1) hw1 ?_
  refine lv_aload_n hx hb dL_law_233 rfl (lv_at hl 4 rfl) ?_
  refine lv_iload hx hb dL_law_234 (lv_at hl 0 rfl) ?_
  refine lv_iconst (v := 2) hx hb dL_law_236 (by decide) ?_
  refine lv_iadd hx hb dL_law_237 ?_
  refine tq_i (w := 2) (by decide) ?_
  refine va_sld (i := 2) hx hb hX hbl hbA hS (tq_in (by decide)) dL_law_238 ?_
  refine tq_i (w := w2) hw2 ?_
  refine lv_aload_n hx hb dL_law_239 rfl (lv_at hl 4 rfl) ?_
  refine lv_iload hx hb dL_law_240 (lv_at hl 0 rfl) ?_
  refine lv_iconst (v := 3) hx hb dL_law_242 (by decide) ?_
  refine lv_iadd hx hb dL_law_243 ?_
  refine tq_i (w := 3) (by decide) ?_
  refine va_sld (i := 3) hx hb hX hbl hbA hS (tq_in (by decide)) dL_law_244 ?_
  refine tq_i (w := w3) hw3 ?_
  refine lv_aload_n hx hb dL_law_245 rfl (lv_at hl 4 rfl) ?_
  refine lv_iload hx hb dL_law_246 (lv_at hl 0 rfl) ?_
  refine lv_iconst (v := 4) hx hb dL_law_248 (by decide) ?_
  refine lv_iadd hx hb dL_law_249 ?_
  refine tq_i (w := 4) (by decide) ?_
  refine va_sld (i := 4) hx hb hX hbl hbA hS (tq_in (by decide)) dL_law_250 ?_
  refine tq_i (w := w4) hw4 ?_
  refine lv_aload_n hx hb dL_law_251 rfl (lv_at hl 4 rfl) ?_
  refine lv_iload hx hb dL_law_252 (lv_at hl 0 rfl) ?_
  refine lv_iconst (v := 5) hx hb dL_law_254 (by decide) ?_
  refine lv_iadd hx hb dL_law_255 ?_
  refine tq_i (w := 5) (by decide) ?_
  refine va_sld (i := 5) hx hb hX hbl hbA hS (tq_in (by decide)) dL_law_256 ?_
  refine tq_i (w := w5) hw5 ?_
  refine tq_ci (wr := []) hP hD hS hA [0, 1] [] rfl rfl (by decide) (by decide) (va_runV (As := [.int w1, .int w2, .int w3, .int w4, .int w5]) (rest := [.int 20]) ⟨hx, hb, hml, hown, hT⟩ (c_X8_feed l G cA H.size mm w1 w2 w3 w4 w5 mfs m0 mf0 (fh_sub hmf [0, 1] rfl)) (cwV 5 hT (tq_gV kw_13_20 kw_13_21 kw_13_22 kw_1_5 kw_13_23) rfl rfl rfl (by decide +kernel) ⟨Nat.le_of_ble_eq_true rfl, Nat.le_of_ble_eq_true rfl⟩) ⟨(tq_pre (isC := [0, 1]) hP hD hK hN rfl (by decide)).1, va_recv hK hP (ci := 8) (q0 := 0) rfl rfl, (tq_pre (isC := [0, 1]) hP hD hK hN rfl (by decide)).2⟩ rfl rfl hl.1 rfl (lv_room (Nat.le_of_ble_eq_true rfl)) dL_law_257 ⟨Nat.le_of_ble_eq_true rfl, Nat.le_of_ble_eq_true rfl⟩) (fun r105 u106 H locs hw107 hP hD hS => ?_)
  refine W.widen (k := 160) (n := 7660) (Nat.le_of_ble_eq_true rfl) (Nat.le_of_ble_eq_true rfl) ?_
  have hr108 := hw107
  subst hr108
  have hP : va_P G vwCl [] H := hP
  have hD : va_D A [] := hD
  refine lv_icmp_eq (tgt := 1246) hx hb dL_law_260 (by decide) (fun c109 => ?_) (fun c109 => absurd (by decide) c109)
  refine lv_iinc (v := 6) (lv' := [(4, .int 6), (3, .ref oa), (2, .ref mm), (1, .ref h0), (0, .ref b)]) hx hb dL_law_1246 hl (k := 0) rfl (by decide) (by decide) rfl (fun ls hl => ?_)
  refine lv_goto (tgt := 23) hx hb dL_law_1249 (by decide) ?_
  refine lv_iload hx hb dL_law_23 (lv_at hl 0 rfl) ?_
  refine lv_aload_n hx hb dL_law_25 rfl (lv_at hl 4 rfl) ?_
  refine va_slen hx hb hX hbl hbA hS dL_law_26 ?_
  refine tq_i (w := 6) (by decide) ?_
  refine lv_bipush (v := 6) hx hb dL_law_27 (by decide) ?_
  refine lv_isub hx hb dL_law_29 ?_
  refine tq_i (w := 0) (by decide) ?_
  refine lv_icmp_gt (tgt := 1252) hx hb dL_law_30 (by decide) (fun c110 => ?_) (fun c110 => absurd (by decide) c110)
  refine lv_iconst (v := 1) hx hb dL_law_1252 (by decide) ?_
  refine va_forget (fun q hq => by have h9 := hS.2.2 q hq; rw [hAe] at h9; exact h9) ?_
  refine W.widen (k := 600002) (n := 7302232) (Nat.le_of_ble_eq_true rfl) (Nat.le_of_ble_eq_true rfl) ?_
  exact lw_ret hx hb hr hlocks dL_law_1253

set_option maxHeartbeats 4000000 in
set_option maxRecDepth 100000 in
theorem law_1 {p : Program} {e : Env} {s : State} {m : MethodId} {below : List Frame} {meth : Method} {c : Code} (l : Launch) (hst : l.stackTraces = false) {b : Nat} {xs : Nat → Int32} (C0 : lw_At p s m meth c b 6 xs) (G : va_G) (cA : Nat → ClassId) {A : Nat → Prop} (hAe : A = fun q : Nat => s.heap.size ≤ q) (hK : va_K G vwCl (tyL cA) s) (hN : tqN s) (sP : Nat) (hXx : tqX sP A s s.heap) (w0 : Int32) (w1 : Int32) (w2 : Int32) (w3 : Int32) (w4 : Int32) (w5 : Int32) (hw0 : xs 0 = w0) (hw1 : xs 1 = w1) (hw2 : xs 2 = w2) (hw3 : xs 3 = w3) (hw4 : xs 4 = w4) (hw5 : xs 5 = w5) (h0 : Nat) (mm : Nat) (oa : Nat) (fs : List Value) (rd : Nat) (pa : Nat) (t0 : Nat) (ch : Nat) (sg : Nat) (rs : List Value) (tk : Nat) (rp : Nat) (ks : List Value) (rps : List Value) (rsa : Nat) (la : Nat) (p10 : Nat) (p12 : Nat) (p16 : Nat) (frs : Nat → Int32) (fl : Nat → Option Nat) (l0 : Nat) (l1 : Nat) (l2 : Nat) (fs0 : List Value) (fs1 : List Value) (fs2 : List Value) (g10 : Nat → Int32) (g12 : Nat → Int32) (g16 : Nat → Int32) (ts0 : List Value) (a8 : Nat) (a9 : Nat) (a10 : Nat) (a11 : Nat) (a12 : Nat) (a13 : Nat) (a14 : Nat) (a16 : Nat) (a17 : Nat) (f8 : Nat → Int32) (f9 : Nat → Int32) (f10 : Nat → Int32) (f11 : Nat → Int32) (f12 : Nat → Int32) (f13 : Nat → Int32) (f14 : Nat → Int32) (f16 : Nat → Int32) (f17 : Nat → Int32) (cs : List Value) (gs : List Value) (mfs : List Value) (m21 : Nat) (m33 : Nat) (m34 : Nat) (m35 : Nat) (m22 : Nat) (m26 : Nat) (m28 : Nat) (m52 : Nat) (m53 : Nat) (m55 : Nat) (m56 : Nat) (m57 : Nat) (m58 : Nat) (m59 : Nat) (m60 : Nat) (m61 : Nat) (m62 : Nat) (m71 : Nat) (m23 : Nat) (m24 : Nat) (m25 : Nat) (m27 : Nat) (m29 : Nat) (m30 : Nat) (m31 : Nat) (m32 : Nat) (m36 : Nat) (m37 : Nat) (m38 : Nat) (m39 : Nat) (m40 : Nat) (mf21 : Nat → Int32) (mf33 : Nat → Int32) (mf34 : Nat → Int32) (mf35 : Nat → Int32) (mf22 : Nat → Int32) (mf26 : Nat → Int32) (mf28 : Nat → Int32) (mf52 : Nat → Int32) (mf53 : Nat → Int32) (mf55 : Nat → Int32) (mf56 : Nat → Int32) (mf57 : Nat → Int32) (mf58 : Nat → Int32) (mf59 : Nat → Int32) (mf60 : Nat → Int32) (mf61 : Nat → Int32) (mf62 : Nat → Int32) (mf71 : Nat → Int32) (mf23 : Nat → Int32) (mf24 : Nat → Int32) (mf25 : Nat → Int32) (mf27 : Nat → Int32) (mf29 : Nat → Int32) (mf30 : Nat → Int32) (mf31 : Nat → Int32) (mf32 : Nat → Int32) (mf36 : Nat → Int32) (mf37 : Nat → Int32) (mf38 : Nat → Int32) (mf39 : Nat → Int32) (mf40 : Nat → Int32) {H : Heap} {locs : List Loc} {ls : Array Slot} (hf : fh fs 12 [(0, .ref rd), (1, .ref pa), (2, .ref t0), (7, .ref ch), (8, .ref sg)]) (hrd : fh rs 10 [(0, .ref tk), (4, .ref rp)]) (htk : fh ks 8 [(0, .int 0)]) (hrp : fh rps 19 [(17, .ref rsa), (18, .ref la), (10, .ref p10), (12, .ref p12), (16, .ref p16)]) (hl0 : fl 0 = some l0) (hl1 : fl 1 = some l1) (hl2 : fl 2 = some l2) (hf0 : fh fs0 3 []) (hf1 : fh fs1 3 []) (hf2 : fh fs2 3 []) (ht0 : fh ts0 20 [(8, .ref a8), (9, .ref a9), (10, .ref a10), (11, .ref a11), (12, .ref a12), (13, .ref a13), (14, .ref a14), (16, .ref a16), (17, .ref a17)]) (hch : fh cs 3 []) (hsg : fh gs 7 []) (hmf : fh mfs 91 [(21, .ref m21), (33, .ref m33), (34, .ref m34), (35, .ref m35), (22, .ref m22), (26, .ref m26), (28, .ref m28), (52, .ref m52), (53, .ref m53), (55, .ref m55), (56, .ref m56), (57, .ref m57), (58, .ref m58), (59, .ref m59), (60, .ref m60), (61, .ref m61), (62, .ref m62), (71, .ref m71), (23, .ref m23), (24, .ref m24), (25, .ref m25), (27, .ref m27), (29, .ref m29), (30, .ref m30), (31, .ref m31), (32, .ref m32), (36, .ref m36), (37, .ref m37), (38, .ref m38), (39, .ref m39), (40, .ref m40), (1, .int 0)]) (hP : va_P G vwCl [(h0, .inr (7, fs)), (rd, .inr (3, rs)), (tk, .inr (5, ks)), (rp, .inr (2, rps)), (rsa, .inl (cA 0, 21, .inl frs)), (la, .inl (cA 4, 3, .inr (.inr (.inr (.inr fl))))), (l0, .inr (1, fs0)), (l1, .inr (1, fs1)), (l2, .inr (1, fs2)), (p10, .inl (cA 0, 6, .inl g10)), (p12, .inl (cA 0, 6, .inl g12)), (p16, .inl (cA 0, 10, .inl g16)), (t0, .inr (6, ts0)), (a8, .inl (cA 0, 6, .inl f8)), (a9, .inl (cA 0, 6, .inl f9)), (a10, .inl (cA 0, 6, .inl f10)), (a11, .inl (cA 0, 6, .inl f11)), (a12, .inl (cA 0, 10, .inl f12)), (a13, .inl (cA 0, 10, .inl f13)), (a14, .inl (cA 0, 10, .inl f14)), (a16, .inl (cA 0, 5, .inl f16)), (a17, .inl (cA 0, 5, .inl f17)), (ch, .inr (0, cs)), (sg, .inr (4, gs)), (mm, .inr (8, mfs)), (m21, .inl (cA 1, 3, .inl mf21)), (m33, .inl (cA 0, 42, .inl mf33)), (m34, .inl (cA 1, 21, .inl mf34)), (m35, .inl (cA 1, 6, .inl mf35)), (m22, .inl (cA 0, 6, .inl mf22)), (m26, .inl (cA 0, 12, .inl mf26)), (m28, .inl (cA 0, 12, .inl mf28)), (m52, .inl (cA 0, 20, .inl mf52)), (m53, .inl (cA 0, 20, .inl mf53)), (m55, .inl (cA 0, 10, .inl mf55)), (m56, .inl (cA 0, 12, .inl mf56)), (m57, .inl (cA 0, 12, .inl mf57)), (m58, .inl (cA 0, 12, .inl mf58)), (m59, .inl (cA 0, 12, .inl mf59)), (m60, .inl (cA 0, 2, .inl mf60)), (m61, .inl (cA 0, 2, .inl mf61)), (m62, .inl (cA 0, 2, .inl mf62)), (m71, .inl (cA 0, 10, .inl mf71)), (m23, .inl (cA 0, 10, .inl mf23)), (m24, .inl (cA 0, 10, .inl mf24)), (m25, .inl (cA 0, 12, .inl mf25)), (m27, .inl (cA 0, 12, .inl mf27)), (m29, .inl (cA 0, 20, .inl mf29)), (m30, .inl (cA 0, 20, .inl mf30)), (m31, .inl (cA 0, 20, .inl mf31)), (m32, .inl (cA 0, 20, .inl mf32)), (m36, .inl (cA 0, 6, .inl mf36)), (m37, .inl (cA 0, 6, .inl mf37)), (m38, .inl (cA 0, 128, .inl mf38)), (m39, .inl (cA 0, 128, .inl mf39)), (m40, .inl (cA 0, 128, .inl mf40))] H) (hD : va_D A [(h0, .inr (7, fs)), (rd, .inr (3, rs)), (tk, .inr (5, ks)), (rp, .inr (2, rps)), (rsa, .inl (cA 0, 21, .inl frs)), (la, .inl (cA 4, 3, .inr (.inr (.inr (.inr fl))))), (l0, .inr (1, fs0)), (l1, .inr (1, fs1)), (l2, .inr (1, fs2)), (p10, .inl (cA 0, 6, .inl g10)), (p12, .inl (cA 0, 6, .inl g12)), (p16, .inl (cA 0, 10, .inl g16)), (t0, .inr (6, ts0)), (a8, .inl (cA 0, 6, .inl f8)), (a9, .inl (cA 0, 6, .inl f9)), (a10, .inl (cA 0, 6, .inl f10)), (a11, .inl (cA 0, 6, .inl f11)), (a12, .inl (cA 0, 10, .inl f12)), (a13, .inl (cA 0, 10, .inl f13)), (a14, .inl (cA 0, 10, .inl f14)), (a16, .inl (cA 0, 5, .inl f16)), (a17, .inl (cA 0, 5, .inl f17)), (ch, .inr (0, cs)), (sg, .inr (4, gs)), (mm, .inr (8, mfs)), (m21, .inl (cA 1, 3, .inl mf21)), (m33, .inl (cA 0, 42, .inl mf33)), (m34, .inl (cA 1, 21, .inl mf34)), (m35, .inl (cA 1, 6, .inl mf35)), (m22, .inl (cA 0, 6, .inl mf22)), (m26, .inl (cA 0, 12, .inl mf26)), (m28, .inl (cA 0, 12, .inl mf28)), (m52, .inl (cA 0, 20, .inl mf52)), (m53, .inl (cA 0, 20, .inl mf53)), (m55, .inl (cA 0, 10, .inl mf55)), (m56, .inl (cA 0, 12, .inl mf56)), (m57, .inl (cA 0, 12, .inl mf57)), (m58, .inl (cA 0, 12, .inl mf58)), (m59, .inl (cA 0, 12, .inl mf59)), (m60, .inl (cA 0, 2, .inl mf60)), (m61, .inl (cA 0, 2, .inl mf61)), (m62, .inl (cA 0, 2, .inl mf62)), (m71, .inl (cA 0, 10, .inl mf71)), (m23, .inl (cA 0, 10, .inl mf23)), (m24, .inl (cA 0, 10, .inl mf24)), (m25, .inl (cA 0, 12, .inl mf25)), (m27, .inl (cA 0, 12, .inl mf27)), (m29, .inl (cA 0, 20, .inl mf29)), (m30, .inl (cA 0, 20, .inl mf30)), (m31, .inl (cA 0, 20, .inl mf31)), (m32, .inl (cA 0, 20, .inl mf32)), (m36, .inl (cA 0, 6, .inl mf36)), (m37, .inl (cA 0, 6, .inl mf37)), (m38, .inl (cA 0, 128, .inl mf38)), (m39, .inl (cA 0, 128, .inl mf39)), (m40, .inl (cA 0, 128, .inl mf40))]) (hS : va_S A s.heap H locs) (hl : lv_has ls 7 [(4, .int 0), (3, .ref oa), (2, .ref mm), (1, .ref h0), (0, .ref b)]) : W p l e room_1 s m #[Value.ref b] below meth c H locs 160 7660 (lw_Z below #[Value.ref b] s) (F0 m 265 ls []) := by
  obtain ⟨hx, hb, hr, hml, hown, hts, hX, hbl, hlocks, hgv⟩ := id C0
  have hT : ∀ v ∈ T0, v.before #[Value.ref b] s = true := fun v h => hts v (tq_law_in v h)
  have hown : s.vm.findClass RL = some m.cls := hown
  have hA : ∀ q : Nat, s.heap.size ≤ q → A q := fun q h => by rw [hAe]; exact h
  have hbA : ¬ A b := by rw [hAe]; exact Nat.not_le.mpr hbl
  have hO := hN.2.2.2.2
  refine lv_aload_n hx hb dL_law_265 rfl (lv_at hl 3 rfl) ?_
  refine lv_aload_n hx hb dL_law_266 rfl (lv_at hl 4 rfl) ?_
  refine lv_iload hx hb dL_law_267 (lv_at hl 0 rfl) ?_
  refine lv_iconst (v := 1) hx hb dL_law_269 (by decide) ?_
  refine lv_iadd hx hb dL_law_270 ?_
  refine tq_i (w := 1) (by decide) ?_
  refine va_sld (i := 1) hx hb hX hbl hbA hS (tq_in (by decide)) dL_law_271 ?_
  refine tq_i (w := w1) hw1 ?_
  refine tq_ci (wr := [(mm, .inr (8, mfs)), (m21, .inl (cA 1, 3, .inl mf21)), (m33, .inl (cA 0, 42, .inl mf33)), (m34, .inl (cA 1, 21, .inl mf34)), (m35, .inl (cA 1, 6, .inl mf35)), (m22, .inl (cA 0, 6, .inl mf22)), (m26, .inl (cA 0, 12, .inl mf26)), (m28, .inl (cA 0, 12, .inl mf28)), (m52, .inl (cA 0, 20, .inl mf52)), (m53, .inl (cA 0, 20, .inl mf53)), (m55, .inl (cA 0, 10, .inl mf55)), (m56, .inl (cA 0, 12, .inl mf56)), (m57, .inl (cA 0, 12, .inl mf57)), (m58, .inl (cA 0, 12, .inl mf58)), (m59, .inl (cA 0, 12, .inl mf59)), (m60, .inl (cA 0, 2, .inl mf60)), (m61, .inl (cA 0, 2, .inl mf61)), (m62, .inl (cA 0, 2, .inl mf62)), (m71, .inl (cA 0, 10, .inl mf71)), (m23, .inl (cA 0, 10, .inl mf23)), (m24, .inl (cA 0, 10, .inl mf24)), (m25, .inl (cA 0, 12, .inl mf25)), (m27, .inl (cA 0, 12, .inl mf27)), (m29, .inl (cA 0, 20, .inl mf29)), (m30, .inl (cA 0, 20, .inl mf30)), (m31, .inl (cA 0, 20, .inl mf31)), (m32, .inl (cA 0, 20, .inl mf32)), (m36, .inl (cA 0, 6, .inl mf36)), (m37, .inl (cA 0, 6, .inl mf37)), (m38, .inl (cA 0, 128, .inl mf38)), (m39, .inl (cA 0, 128, .inl mf39)), (m40, .inl (cA 0, 128, .inl mf40))]) hP hD hS hA [0, 1, 2, 3, 4, 5, 6, 7, 8, 9, 10, 11, 12, 13, 14, 15, 16, 17, 18, 19, 20, 21, 22, 23] [24, 25, 26, 27, 28, 29, 30, 31, 32, 33, 34, 35, 36, 37, 38, 39, 40, 41, 42, 43, 44, 45, 46, 47, 48, 49, 50, 51, 52, 53, 54, 55] rfl rfl (by decide) (by decide +kernel) (va_runV (As := [.int w1]) (rest := []) ⟨hx, hb, hml, hown, hT⟩ (c_X7_text l G cA H.size h0 w1 fs rd pa t0 ch sg rs tk rp ks rps rsa la p10 p12 p16 frs fl l0 l1 l2 fs0 fs1 fs2 g10 g12 g16 ts0 a8 a9 a10 a11 a12 a13 a14 a16 a17 f8 f9 f10 f11 f12 f13 f14 f16 f17 cs gs (fh_sub hf [0, 1, 2, 3, 4] rfl) (fh_sub hrd [0, 1] rfl) (fh_sub htk [0] rfl) (fh_sub hrp [0, 1, 2, 3, 4] rfl) hl0 hl1 hl2 (fh_sub hf0 [] rfl) (fh_sub hf1 [] rfl) (fh_sub hf2 [] rfl) (fh_sub ht0 [0, 1, 2, 3, 4, 5, 6, 7, 8] rfl) (fh_sub hch [] rfl) (fh_sub hsg [] rfl)) (cwV 1 hT (tq_gV kw_14_2 kw_14_3 kw_14_4 kw_1_2 kw_14_5) rfl rfl rfl (by decide +kernel) ⟨Nat.le_of_ble_eq_true rfl, Nat.le_of_ble_eq_true rfl⟩) ⟨(tq_pre (isC := [0, 1, 2, 3, 4, 5, 6, 7, 8, 9, 10, 11, 12, 13, 14, 15, 16, 17, 18, 19, 20, 21, 22, 23]) hP hD hK hN rfl (by decide)).1, va_recv hK hP (ci := 7) (q0 := 0) rfl rfl, (tq_pre (isC := [0, 1, 2, 3, 4, 5, 6, 7, 8, 9, 10, 11, 12, 13, 14, 15, 16, 17, 18, 19, 20, 21, 22, 23]) hP hD hK hN rfl (by decide)).2⟩ rfl rfl hl.1 rfl (lv_room (Nat.le_of_ble_eq_true rfl)) dL_law_272 ⟨Nat.le_of_ble_eq_true rfl, Nat.le_of_ble_eq_true rfl⟩) (fun r101 u102 H locs hw103 hP hD hS => ?_)
  refine W.widen (k := 160) (n := 7660) (Nat.le_of_ble_eq_true rfl) (Nat.le_of_ble_eq_true rfl) ?_
  have hr104 := hw103
  subst hr104
  have hP : va_P G vwCl [(mm, .inr (8, mfs)), (m21, .inl (cA 1, 3, .inl mf21)), (m33, .inl (cA 0, 42, .inl mf33)), (m34, .inl (cA 1, 21, .inl mf34)), (m35, .inl (cA 1, 6, .inl mf35)), (m22, .inl (cA 0, 6, .inl mf22)), (m26, .inl (cA 0, 12, .inl mf26)), (m28, .inl (cA 0, 12, .inl mf28)), (m52, .inl (cA 0, 20, .inl mf52)), (m53, .inl (cA 0, 20, .inl mf53)), (m55, .inl (cA 0, 10, .inl mf55)), (m56, .inl (cA 0, 12, .inl mf56)), (m57, .inl (cA 0, 12, .inl mf57)), (m58, .inl (cA 0, 12, .inl mf58)), (m59, .inl (cA 0, 12, .inl mf59)), (m60, .inl (cA 0, 2, .inl mf60)), (m61, .inl (cA 0, 2, .inl mf61)), (m62, .inl (cA 0, 2, .inl mf62)), (m71, .inl (cA 0, 10, .inl mf71)), (m23, .inl (cA 0, 10, .inl mf23)), (m24, .inl (cA 0, 10, .inl mf24)), (m25, .inl (cA 0, 12, .inl mf25)), (m27, .inl (cA 0, 12, .inl mf27)), (m29, .inl (cA 0, 20, .inl mf29)), (m30, .inl (cA 0, 20, .inl mf30)), (m31, .inl (cA 0, 20, .inl mf31)), (m32, .inl (cA 0, 20, .inl mf32)), (m36, .inl (cA 0, 6, .inl mf36)), (m37, .inl (cA 0, 6, .inl mf37)), (m38, .inl (cA 0, 128, .inl mf38)), (m39, .inl (cA 0, 128, .inl mf39)), (m40, .inl (cA 0, 128, .inl mf40))] H := hP
  have hD : va_D A [(mm, .inr (8, mfs)), (m21, .inl (cA 1, 3, .inl mf21)), (m33, .inl (cA 0, 42, .inl mf33)), (m34, .inl (cA 1, 21, .inl mf34)), (m35, .inl (cA 1, 6, .inl mf35)), (m22, .inl (cA 0, 6, .inl mf22)), (m26, .inl (cA 0, 12, .inl mf26)), (m28, .inl (cA 0, 12, .inl mf28)), (m52, .inl (cA 0, 20, .inl mf52)), (m53, .inl (cA 0, 20, .inl mf53)), (m55, .inl (cA 0, 10, .inl mf55)), (m56, .inl (cA 0, 12, .inl mf56)), (m57, .inl (cA 0, 12, .inl mf57)), (m58, .inl (cA 0, 12, .inl mf58)), (m59, .inl (cA 0, 12, .inl mf59)), (m60, .inl (cA 0, 2, .inl mf60)), (m61, .inl (cA 0, 2, .inl mf61)), (m62, .inl (cA 0, 2, .inl mf62)), (m71, .inl (cA 0, 10, .inl mf71)), (m23, .inl (cA 0, 10, .inl mf23)), (m24, .inl (cA 0, 10, .inl mf24)), (m25, .inl (cA 0, 12, .inl mf25)), (m27, .inl (cA 0, 12, .inl mf27)), (m29, .inl (cA 0, 20, .inl mf29)), (m30, .inl (cA 0, 20, .inl mf30)), (m31, .inl (cA 0, 20, .inl mf31)), (m32, .inl (cA 0, 20, .inl mf32)), (m36, .inl (cA 0, 6, .inl mf36)), (m37, .inl (cA 0, 6, .inl mf37)), (m38, .inl (cA 0, 128, .inl mf38)), (m39, .inl (cA 0, 128, .inl mf39)), (m40, .inl (cA 0, 128, .inl mf40))] := hD
  refine lv_aload_n hx hb dL_law_275 rfl (lv_at hl 2 rfl) ?_
  refine lv_aload_n hx hb dL_law_276 rfl (lv_at hl 4 rfl) ?_
  refine lv_iload hx hb dL_law_277 (lv_at hl 0 rfl) ?_
  refine lv_iconst (v := 1) hx hb dL_law_279 (by decide) ?_
  refine lv_iadd hx hb dL_law_280 ?_
  refine tq_i (w := 1) (by decide) ?_
  refine va_sld (i := 1) hx hb hX hbl hbA hS (tq_in (by decide)) dL_law_281 ?_
  refine tq_i (w := w1) hw1 ?_
  refine tq_ci (wr := []) hP hD hS hA [0, 1, 2, 3, 4, 5, 6, 7, 8, 9, 10, 11, 12, 13, 14, 15, 16, 17, 18, 19, 20, 21, 22, 23, 24, 25, 26, 27, 28, 29, 30, 31] [] rfl rfl (by decide) (by decide) (va_runV (As := [.int w1]) (rest := [.int ((sp_text w1))]) ⟨hx, hb, hml, hown, hT⟩ (c_X8_text l G cA H.size mm w1 mfs m21 m33 m34 m35 m22 m26 m28 m52 m53 m55 m56 m57 m58 m59 m60 m61 m62 m71 m23 m24 m25 m27 m29 m30 m31 m32 m36 m37 m38 m39 m40 mf21 mf33 mf34 mf35 mf22 mf26 mf28 mf52 mf53 mf55 mf56 mf57 mf58 mf59 mf60 mf61 mf62 mf71 mf23 mf24 mf25 mf27 mf29 mf30 mf31 mf32 mf36 mf37 mf38 mf39 mf40 (fh_sub hmf [0, 1, 2, 3, 4, 5, 6, 7, 8, 9, 10, 11, 12, 13, 14, 15, 16, 17, 18, 19, 20, 21, 22, 23, 24, 25, 26, 27, 28, 29, 30, 31] rfl)) (cwV 1 hT (tq_gV kw_22_7 kw_22_8 kw_22_9 kw_1_5 kw_22_10) rfl rfl rfl (by decide +kernel) ⟨Nat.le_of_ble_eq_true rfl, Nat.le_of_ble_eq_true rfl⟩) ⟨(tq_pre (isC := [0, 1, 2, 3, 4, 5, 6, 7, 8, 9, 10, 11, 12, 13, 14, 15, 16, 17, 18, 19, 20, 21, 22, 23, 24, 25, 26, 27, 28, 29, 30, 31]) hP hD hK hN rfl (by decide)).1, va_recv hK hP (ci := 8) (q0 := 0) rfl rfl, (tq_pre (isC := [0, 1, 2, 3, 4, 5, 6, 7, 8, 9, 10, 11, 12, 13, 14, 15, 16, 17, 18, 19, 20, 21, 22, 23, 24, 25, 26, 27, 28, 29, 30, 31]) hP hD hK hN rfl (by decide)).2⟩ rfl rfl hl.1 rfl (lv_room (Nat.le_of_ble_eq_true rfl)) dL_law_282 ⟨Nat.le_of_ble_eq_true rfl, Nat.le_of_ble_eq_true rfl⟩) (fun r105 u106 H locs hw107 hP hD hS => ?_)
  refine W.widen (k := 160) (n := 7660) (Nat.le_of_ble_eq_true rfl) (Nat.le_of_ble_eq_true rfl) ?_
  have hr108 := hw107
  subst hr108
  have hP : va_P G vwCl [] H := hP
  have hD : va_D A [] := hD
  refine lv_icmp_eq (tgt := 1246) hx hb dL_law_285 (by decide) (fun c109 => ?_) (fun c109 => absurd rfl c109)
  refine lv_iinc (v := 6) (lv' := [(4, .int 6), (3, .ref oa), (2, .ref mm), (1, .ref h0), (0, .ref b)]) hx hb dL_law_1246 hl (k := 0) rfl (by decide) (by decide) rfl (fun ls hl => ?_)
  refine lv_goto (tgt := 23) hx hb dL_law_1249 (by decide) ?_
  refine lv_iload hx hb dL_law_23 (lv_at hl 0 rfl) ?_
  refine lv_aload_n hx hb dL_law_25 rfl (lv_at hl 4 rfl) ?_
  refine va_slen hx hb hX hbl hbA hS dL_law_26 ?_
  refine tq_i (w := 6) (by decide) ?_
  refine lv_bipush (v := 6) hx hb dL_law_27 (by decide) ?_
  refine lv_isub hx hb dL_law_29 ?_
  refine tq_i (w := 0) (by decide) ?_
  refine lv_icmp_gt (tgt := 1252) hx hb dL_law_30 (by decide) (fun c110 => ?_) (fun c110 => absurd (by decide) c110)
  refine lv_iconst (v := 1) hx hb dL_law_1252 (by decide) ?_
  refine va_forget (fun q hq => by have h9 := hS.2.2 q hq; rw [hAe] at h9; exact h9) ?_
  refine W.widen (k := 600002) (n := 7302232) (Nat.le_of_ble_eq_true rfl) (Nat.le_of_ble_eq_true rfl) ?_
  exact lw_ret hx hb hr hlocks dL_law_1253

set_option maxHeartbeats 4000000 in
set_option maxRecDepth 100000 in
theorem law_2 {p : Program} {e : Env} {s : State} {m : MethodId} {below : List Frame} {meth : Method} {c : Code} (l : Launch) (hst : l.stackTraces = false) {b : Nat} {xs : Nat → Int32} (C0 : lw_At p s m meth c b 6 xs) (G : va_G) (cA : Nat → ClassId) {A : Nat → Prop} (hAe : A = fun q : Nat => s.heap.size ≤ q) (hK : va_K G vwCl (tyL cA) s) (hN : tqN s) (sP : Nat) (hXx : tqX sP A s s.heap) (w0 : Int32) (w1 : Int32) (w2 : Int32) (w3 : Int32) (w4 : Int32) (w5 : Int32) (hw0 : xs 0 = w0) (hw1 : xs 1 = w1) (hw2 : xs 2 = w2) (hw3 : xs 3 = w3) (hw4 : xs 4 = w4) (hw5 : xs 5 = w5) (h0 : Nat) (mm : Nat) (oa : Nat) (fs : List Value) (rd : Nat) (rs : List Value) (mfs : List Value) {H : Heap} {locs : List Loc} {ls : Array Slot} (hf : fh fs 12 [(0, .ref rd)]) (hrd : fh rs 10 [(1, .int 0), (2, .int (-1))]) (hmf : fh mfs 91 [(4, .int 0), (5, .int (-1))]) (hP : va_P G vwCl [(h0, .inr (7, fs)), (rd, .inr (3, rs)), (mm, .inr (8, mfs))] H) (hD : va_D A [(h0, .inr (7, fs)), (rd, .inr (3, rs)), (mm, .inr (8, mfs))]) (hS : va_S A s.heap H locs) (hl : lv_has ls 7 [(4, .int 0), (3, .ref oa), (2, .ref mm), (1, .ref h0), (0, .ref b)]) : W p l e room_1 s m #[Value.ref b] below meth c H locs 160 7660 (lw_Z below #[Value.ref b] s) (F0 m 290 ls []) := by
  obtain ⟨hx, hb, hr, hml, hown, hts, hX, hbl, hlocks, hgv⟩ := id C0
  have hT : ∀ v ∈ T0, v.before #[Value.ref b] s = true := fun v h => hts v (tq_law_in v h)
  have hown : s.vm.findClass RL = some m.cls := hown
  have hA : ∀ q : Nat, s.heap.size ≤ q → A q := fun q h => by rw [hAe]; exact h
  have hbA : ¬ A b := by rw [hAe]; exact Nat.not_le.mpr hbl
  have hO := hN.2.2.2.2
  refine lv_aload_n hx hb dL_law_290 rfl (lv_at hl 3 rfl) ?_
  refine lv_aload_n hx hb dL_law_291 rfl (lv_at hl 4 rfl) ?_
  refine lv_iload hx hb dL_law_292 (lv_at hl 0 rfl) ?_
  refine lv_iconst (v := 1) hx hb dL_law_294 (by decide) ?_
  refine lv_iadd hx hb dL_law_295 ?_
  refine tq_i (w := 1) (by decide) ?_
  refine va_sld (i := 1) hx hb hX hbl hbA hS (tq_in (by decide)) dL_law_296 ?_
  refine tq_i (w := w1) hw1 ?_
  refine tq_ci (wr := [(mm, .inr (8, mfs))]) hP hD hS hA [0, 1] [2] rfl rfl (by decide) (by decide) (va_runV (As := [.int w1]) (rest := []) ⟨hx, hb, hml, hown, hT⟩ (c_X7_fault l G cA H.size h0 w1 fs rd rs (fh_sub hf [0] rfl) (fh_sub hrd [0, 1] rfl)) (cwV 1 hT (tq_gV kw_27_13 kw_27_14 kw_27_15 kw_1_2 kw_27_16) rfl rfl rfl (by decide +kernel) ⟨Nat.le_of_ble_eq_true rfl, Nat.le_of_ble_eq_true rfl⟩) ⟨(tq_pre (isC := [0, 1]) hP hD hK hN rfl (by decide)).1, va_recv hK hP (ci := 7) (q0 := 0) rfl rfl, (tq_pre (isC := [0, 1]) hP hD hK hN rfl (by decide)).2⟩ rfl rfl hl.1 rfl (lv_room (Nat.le_of_ble_eq_true rfl)) dL_law_297 ⟨Nat.le_of_ble_eq_true rfl, Nat.le_of_ble_eq_true rfl⟩) (fun r101 u102 H locs hw103 hP hD hS => ?_)
  refine W.widen (k := 160) (n := 7660) (Nat.le_of_ble_eq_true rfl) (Nat.le_of_ble_eq_true rfl) ?_
  have hr104 := hw103
  subst hr104
  have hP : va_P G vwCl [(mm, .inr (8, mfs))] H := hP
  have hD : va_D A [(mm, .inr (8, mfs))] := hD
  refine lv_aload_n hx hb dL_law_300 rfl (lv_at hl 2 rfl) ?_
  refine lv_aload_n hx hb dL_law_301 rfl (lv_at hl 4 rfl) ?_
  refine lv_iload hx hb dL_law_302 (lv_at hl 0 rfl) ?_
  refine lv_iconst (v := 1) hx hb dL_law_304 (by decide) ?_
  refine lv_iadd hx hb dL_law_305 ?_
  refine tq_i (w := 1) (by decide) ?_
  refine va_sld (i := 1) hx hb hX hbl hbA hS (tq_in (by decide)) dL_law_306 ?_
  refine tq_i (w := w1) hw1 ?_
  refine tq_ci (wr := []) hP hD hS hA [0] [] rfl rfl (by decide) (by decide) (va_runV (As := [.int w1]) (rest := [.int ((sp_fault w1))]) ⟨hx, hb, hml, hown, hT⟩ (c_X8_fault l G cA H.size mm w1 mfs (fh_sub hmf [0, 1] rfl)) (cwV 1 hT (tq_gV kw_27_19 kw_27_20 kw_27_21 kw_1_5 kw_27_22) rfl rfl rfl (by decide +kernel) ⟨Nat.le_of_ble_eq_true rfl, Nat.le_of_ble_eq_true rfl⟩) ⟨(tq_pre (isC := [0]) hP hD hK hN rfl (by decide)).1, va_recv hK hP (ci := 8) (q0 := 0) rfl rfl, (tq_pre (isC := [0]) hP hD hK hN rfl (by decide)).2⟩ rfl rfl hl.1 rfl (lv_room (Nat.le_of_ble_eq_true rfl)) dL_law_307 ⟨Nat.le_of_ble_eq_true rfl, Nat.le_of_ble_eq_true rfl⟩) (fun r105 u106 H locs hw107 hP hD hS => ?_)
  refine W.widen (k := 160) (n := 7660) (Nat.le_of_ble_eq_true rfl) (Nat.le_of_ble_eq_true rfl) ?_
  have hr108 := hw107
  subst hr108
  have hP : va_P G vwCl [] H := hP
  have hD : va_D A [] := hD
  refine lv_icmp_eq (tgt := 1246) hx hb dL_law_310 (by decide) (fun c109 => ?_) (fun c109 => absurd rfl c109)
  refine lv_iinc (v := 6) (lv' := [(4, .int 6), (3, .ref oa), (2, .ref mm), (1, .ref h0), (0, .ref b)]) hx hb dL_law_1246 hl (k := 0) rfl (by decide) (by decide) rfl (fun ls hl => ?_)
  refine lv_goto (tgt := 23) hx hb dL_law_1249 (by decide) ?_
  refine lv_iload hx hb dL_law_23 (lv_at hl 0 rfl) ?_
  refine lv_aload_n hx hb dL_law_25 rfl (lv_at hl 4 rfl) ?_
  refine va_slen hx hb hX hbl hbA hS dL_law_26 ?_
  refine tq_i (w := 6) (by decide) ?_
  refine lv_bipush (v := 6) hx hb dL_law_27 (by decide) ?_
  refine lv_isub hx hb dL_law_29 ?_
  refine tq_i (w := 0) (by decide) ?_
  refine lv_icmp_gt (tgt := 1252) hx hb dL_law_30 (by decide) (fun c110 => ?_) (fun c110 => absurd (by decide) c110)
  refine lv_iconst (v := 1) hx hb dL_law_1252 (by decide) ?_
  refine va_forget (fun q hq => by have h9 := hS.2.2 q hq; rw [hAe] at h9; exact h9) ?_
  refine W.widen (k := 600002) (n := 7302232) (Nat.le_of_ble_eq_true rfl) (Nat.le_of_ble_eq_true rfl) ?_
  exact lw_ret hx hb hr hlocks dL_law_1253

set_option maxHeartbeats 4000000 in
set_option maxRecDepth 100000 in
theorem law_3 {p : Program} {e : Env} {s : State} {m : MethodId} {below : List Frame} {meth : Method} {c : Code} (l : Launch) (hst : l.stackTraces = false) {b : Nat} {xs : Nat → Int32} (C0 : lw_At p s m meth c b 6 xs) (G : va_G) (cA : Nat → ClassId) {A : Nat → Prop} (hAe : A = fun q : Nat => s.heap.size ≤ q) (hK : va_K G vwCl (tyL cA) s) (hN : tqN s) (sP : Nat) (hXx : tqX sP A s s.heap) (w0 : Int32) (w1 : Int32) (w2 : Int32) (w3 : Int32) (w4 : Int32) (w5 : Int32) (hw0 : xs 0 = w0) (hw1 : xs 1 = w1) (hw2 : xs 2 = w2) (hw3 : xs 3 = w3) (hw4 : xs 4 = w4) (hw5 : xs 5 = w5) (h0 : Nat) (mm : Nat) (oa : Nat) (fs : List Value) (pa : Nat) (ps : List Value) (mfs : List Value) (m25 : Nat) {H : Heap} {locs : List Loc} {ls : Array Slot} (hf : fh fs 12 [(1, .ref pa)]) (hp : fh ps 19 [(1, .int 0)]) (hmf : fh mfs 91 [(25, .ref m25), (13, .int 0)]) (hP : va_P G vwCl [(h0, .inr (7, fs)), (pa, .inr (2, ps)), (mm, .inr (8, mfs))] H) (hD : va_D A [(h0, .inr (7, fs)), (pa, .inr (2, ps)), (mm, .inr (8, mfs))]) (hS : va_S A s.heap H locs) (hl : lv_has ls 7 [(4, .int 0), (3, .ref oa), (2, .ref mm), (1, .ref h0), (0, .ref b)]) : W p l e room_1 s m #[Value.ref b] below meth c H locs 160 7660 (lw_Z below #[Value.ref b] s) (F0 m 315 ls []) := by
  obtain ⟨hx, hb, hr, hml, hown, hts, hX, hbl, hlocks, hgv⟩ := id C0
  have hT : ∀ v ∈ T0, v.before #[Value.ref b] s = true := fun v h => hts v (tq_law_in v h)
  have hown : s.vm.findClass RL = some m.cls := hown
  have hA : ∀ q : Nat, s.heap.size ≤ q → A q := fun q h => by rw [hAe]; exact h
  have hbA : ¬ A b := by rw [hAe]; exact Nat.not_le.mpr hbl
  have hO := hN.2.2.2.2
  refine lv_aload_n hx hb dL_law_315 rfl (lv_at hl 3 rfl) ?_
  refine lv_aload_n hx hb dL_law_316 rfl (lv_at hl 4 rfl) ?_
  refine lv_iload hx hb dL_law_317 (lv_at hl 0 rfl) ?_
  refine lv_iconst (v := 1) hx hb dL_law_319 (by decide) ?_
  refine lv_iadd hx hb dL_law_320 ?_
  refine tq_i (w := 1) (by decide) ?_
  refine va_sld (i := 1) hx hb hX hbl hbA hS (tq_in (by decide)) dL_law_321 ?_
  refine tq_i (w := w1) hw1 ?_
  refine tq_ci (wr := [(mm, .inr (8, mfs))]) hP hD hS hA [0, 1] [2] rfl rfl (by decide) (by decide) (va_runV (As := [.int w1]) (rest := []) ⟨hx, hb, hml, hown, hT⟩ (c_X7_named l G cA H.size h0 w1 fs pa ps (fh_sub hf [0] rfl) (fh_sub hp [0] rfl)) (cwV 1 hT (tq_gV kw_27_23 kw_28_0 kw_28_1 kw_1_2 kw_28_2) rfl rfl rfl (by decide +kernel) ⟨Nat.le_of_ble_eq_true rfl, Nat.le_of_ble_eq_true rfl⟩) ⟨(tq_pre (isC := [0, 1]) hP hD hK hN rfl (by decide)).1, va_recv hK hP (ci := 7) (q0 := 0) rfl rfl, (tq_pre (isC := [0, 1]) hP hD hK hN rfl (by decide)).2⟩ rfl rfl hl.1 rfl (lv_room (Nat.le_of_ble_eq_true rfl)) dL_law_322 ⟨Nat.le_of_ble_eq_true rfl, Nat.le_of_ble_eq_true rfl⟩) (fun r101 u102 H locs hw103 hP hD hS => ?_)
  refine W.widen (k := 160) (n := 7660) (Nat.le_of_ble_eq_true rfl) (Nat.le_of_ble_eq_true rfl) ?_
  have hr104 := hw103
  subst hr104
  have hP : va_P G vwCl [(mm, .inr (8, mfs))] H := hP
  have hD : va_D A [(mm, .inr (8, mfs))] := hD
  refine lv_aload_n hx hb dL_law_325 rfl (lv_at hl 2 rfl) ?_
  refine lv_aload_n hx hb dL_law_326 rfl (lv_at hl 4 rfl) ?_
  refine lv_iload hx hb dL_law_327 (lv_at hl 0 rfl) ?_
  refine lv_iconst (v := 1) hx hb dL_law_329 (by decide) ?_
  refine lv_iadd hx hb dL_law_330 ?_
  refine tq_i (w := 1) (by decide) ?_
  refine va_sld (i := 1) hx hb hX hbl hbA hS (tq_in (by decide)) dL_law_331 ?_
  refine tq_i (w := w1) hw1 ?_
  refine tq_ci (wr := []) hP hD hS hA [0] [] rfl rfl (by decide) (by decide) (va_runV (As := [.int w1]) (rest := [.int (-1)]) ⟨hx, hb, hml, hown, hT⟩ (c_X8_named l G cA H.size mm w1 mfs m25 (fh_sub hmf [0, 1] rfl)) (cwV 1 hT (tq_gV kw_28_4 kw_28_5 kw_28_6 kw_1_5 kw_28_7) rfl rfl rfl (by decide +kernel) ⟨Nat.le_of_ble_eq_true rfl, Nat.le_of_ble_eq_true rfl⟩) ⟨(tq_pre (isC := [0]) hP hD hK hN rfl (by decide)).1, va_recv hK hP (ci := 8) (q0 := 0) rfl rfl, (tq_pre (isC := [0]) hP hD hK hN rfl (by decide)).2⟩ rfl rfl hl.1 rfl (lv_room (Nat.le_of_ble_eq_true rfl)) dL_law_332 ⟨Nat.le_of_ble_eq_true rfl, Nat.le_of_ble_eq_true rfl⟩) (fun r105 u106 H locs hw107 hP hD hS => ?_)
  refine W.widen (k := 160) (n := 7660) (Nat.le_of_ble_eq_true rfl) (Nat.le_of_ble_eq_true rfl) ?_
  have hr108 := hw107
  subst hr108
  have hP : va_P G vwCl [] H := hP
  have hD : va_D A [] := hD
  refine lv_icmp_eq (tgt := 1246) hx hb dL_law_335 (by decide) (fun c109 => ?_) (fun c109 => absurd (by decide) c109)
  refine lv_iinc (v := 6) (lv' := [(4, .int 6), (3, .ref oa), (2, .ref mm), (1, .ref h0), (0, .ref b)]) hx hb dL_law_1246 hl (k := 0) rfl (by decide) (by decide) rfl (fun ls hl => ?_)
  refine lv_goto (tgt := 23) hx hb dL_law_1249 (by decide) ?_
  refine lv_iload hx hb dL_law_23 (lv_at hl 0 rfl) ?_
  refine lv_aload_n hx hb dL_law_25 rfl (lv_at hl 4 rfl) ?_
  refine va_slen hx hb hX hbl hbA hS dL_law_26 ?_
  refine tq_i (w := 6) (by decide) ?_
  refine lv_bipush (v := 6) hx hb dL_law_27 (by decide) ?_
  refine lv_isub hx hb dL_law_29 ?_
  refine tq_i (w := 0) (by decide) ?_
  refine lv_icmp_gt (tgt := 1252) hx hb dL_law_30 (by decide) (fun c110 => ?_) (fun c110 => absurd (by decide) c110)
  refine lv_iconst (v := 1) hx hb dL_law_1252 (by decide) ?_
  refine va_forget (fun q hq => by have h9 := hS.2.2 q hq; rw [hAe] at h9; exact h9) ?_
  refine W.widen (k := 600002) (n := 7302232) (Nat.le_of_ble_eq_true rfl) (Nat.le_of_ble_eq_true rfl) ?_
  exact lw_ret hx hb hr hlocks dL_law_1253

set_option maxHeartbeats 4000000 in
set_option maxRecDepth 100000 in
theorem law_4 {p : Program} {e : Env} {s : State} {m : MethodId} {below : List Frame} {meth : Method} {c : Code} (l : Launch) (hst : l.stackTraces = false) {b : Nat} {xs : Nat → Int32} (C0 : lw_At p s m meth c b 6 xs) (G : va_G) (cA : Nat → ClassId) {A : Nat → Prop} (hAe : A = fun q : Nat => s.heap.size ≤ q) (hK : va_K G vwCl (tyL cA) s) (hN : tqN s) (sP : Nat) (hXx : tqX sP A s s.heap) (w0 : Int32) (w1 : Int32) (w2 : Int32) (w3 : Int32) (w4 : Int32) (w5 : Int32) (hw0 : xs 0 = w0) (hw1 : xs 1 = w1) (hw2 : xs 2 = w2) (hw3 : xs 3 = w3) (hw4 : xs 4 = w4) (hw5 : xs 5 = w5) (h0 : Nat) (mm : Nat) (oa : Nat) (fs : List Value) (pa : Nat) (ps : List Value) (mfs : List Value) {H : Heap} {locs : List Loc} {ls : Array Slot} (hf : fh fs 12 [(1, .ref pa)]) (hp : fh ps 19 [(1, .int 0)]) (hmf : fh mfs 91 [(13, .int 0)]) (hP : va_P G vwCl [(h0, .inr (7, fs)), (pa, .inr (2, ps)), (mm, .inr (8, mfs))] H) (hD : va_D A [(h0, .inr (7, fs)), (pa, .inr (2, ps)), (mm, .inr (8, mfs))]) (hS : va_S A s.heap H locs) (hl : lv_has ls 7 [(4, .int 0), (3, .ref oa), (2, .ref mm), (1, .ref h0), (0, .ref b)]) : W p l e room_1 s m #[Value.ref b] below meth c H locs 160 7660 (lw_Z below #[Value.ref b] s) (F0 m 340 ls []) := by
  obtain ⟨hx, hb, hr, hml, hown, hts, hX, hbl, hlocks, hgv⟩ := id C0
  have hT : ∀ v ∈ T0, v.before #[Value.ref b] s = true := fun v h => hts v (tq_law_in v h)
  have hown : s.vm.findClass RL = some m.cls := hown
  have hA : ∀ q : Nat, s.heap.size ≤ q → A q := fun q h => by rw [hAe]; exact h
  have hbA : ¬ A b := by rw [hAe]; exact Nat.not_le.mpr hbl
  have hO := hN.2.2.2.2
  have hT1 : ∀ v ∈ T1, v.before #[Value.ref b] s = true := fun v h => (List.mem_append.mp h).elim (fun q => hT v q) (fun q => hts v (wsL_law_x0 v q))
  refine lv_aload_n hx hb dL_law_340 rfl (lv_at hl 3 rfl) ?_
  refine lv_aload_n hx hb dL_law_341 rfl (lv_at hl 4 rfl) ?_
  refine lv_iload hx hb dL_law_342 (lv_at hl 0 rfl) ?_
  refine lv_iconst (v := 1) hx hb dL_law_344 (by decide) ?_
  refine lv_iadd hx hb dL_law_345 ?_
  refine tq_i (w := 1) (by decide) ?_
  refine va_sld (i := 1) hx hb hX hbl hbA hS (tq_in (by decide)) dL_law_346 ?_
  refine tq_i (w := w1) hw1 ?_
  refine lv_aload_n hx hb dL_law_347 rfl (lv_at hl 4 rfl) ?_
  refine lv_iload hx hb dL_law_348 (lv_at hl 0 rfl) ?_
  refine lv_iconst (v := 2) hx hb dL_law_350 (by decide) ?_
  refine lv_iadd hx hb dL_law_351 ?_
  refine tq_i (w := 2) (by decide) ?_
  refine va_sld (i := 2) hx hb hX hbl hbA hS (tq_in (by decide)) dL_law_352 ?_
  refine tq_i (w := w2) hw2 ?_
  refine lv_aload_n hx hb dL_law_353 rfl (lv_at hl 1 rfl) ?_
  have hG : GoodIn T1 (va_wsS RL 39 yL_person (.codeWith yL_person cL_person 5 (some .int) [(0, 10, 13, 13), (0, 10, 17, 15)] :: T1)) := by
    have key : ∀ v ∈ va_wsS RL 39 yL_person (.codeWith yL_person cL_person 5 (some .int) [(0, 10, 13, 13), (0, 10, 17, 15)] :: T1), v ∈ T1 := by
      intro v hv
      simp only [va_wsS, List.cons_append, List.nil_append, List.mem_cons] at hv
      rcases hv with rfl | rfl | rfl | rfl | hv
      · exact tq_T1 kw_28_8
      · exact tq_T1 kw_28_9
      · exact tq_T1 kw_28_10
      · exact tq_T1 kw_28_11
      · exact hv
    exact fun v hv => ⟨key v hv, good_of_word (tq_good1 v (key v hv))⟩
  refine tq_ci (wr := [(mm, .inr (8, mfs))]) hP hD hS hA [0, 1] [2] rfl rfl (by decide) (by decide) (vx_runSW (As := [.ref h0, .int w1, .int w2, .ref oa]) (rest := []) ⟨hx, hb, hml, hown, hT1⟩ (c_L_person l hst G cA H.size h0 w1 w2 oa fs pa ps sP (fh_sub hf [0] rfl) (fh_sub hp [0] rfl)) (vx_cwSW 4 hT1 hG rfl rfl rfl (by decide +kernel) ⟨Nat.le_of_ble_eq_true rfl, Nat.le_of_ble_eq_true rfl⟩) (tq_pre3 (isC := [0, 1]) hP hD hK hN rfl (by decide) hS hA hXx) rfl rfl hl.1 rfl (lv_room (Nat.le_of_ble_eq_true rfl)) dL_law_354 ⟨Nat.le_of_ble_eq_true rfl, Nat.le_of_ble_eq_true rfl⟩) (fun r102 u103 H locs hw101 hP hD hS => ?_)
  refine W.widen (k := 161) (n := 7666) (Nat.le_of_ble_eq_true rfl) (Nat.le_of_ble_eq_true rfl) ?_
  subst hw101
  have hP : va_P G vwCl [(mm, .inr (8, mfs))] H := hP
  have hD : va_D A [(mm, .inr (8, mfs))] := hD
  refine lv_istore (lv' := [(5, .int 1), (4, .int 0), (3, .ref oa), (2, .ref mm), (1, .ref h0), (0, .ref b)]) hx hb dL_law_357 hl (by decide) rfl (fun ls hl => ?_)
  refine lv_aload_n hx hb dL_law_359 rfl (lv_at hl 3 rfl) ?_
  refine lv_aload_n hx hb dL_law_360 rfl (lv_at hl 5 rfl) ?_
  refine lv_iload hx hb dL_law_361 (lv_at hl 1 rfl) ?_
  refine lv_iconst (v := 1) hx hb dL_law_363 (by decide) ?_
  refine lv_iadd hx hb dL_law_364 ?_
  refine tq_i (w := 1) (by decide) ?_
  refine va_sld (i := 1) hx hb hX hbl hbA hS (tq_in (by decide)) dL_law_365 ?_
  refine tq_i (w := w1) hw1 ?_
  refine lv_aload_n hx hb dL_law_366 rfl (lv_at hl 5 rfl) ?_
  refine lv_iload hx hb dL_law_367 (lv_at hl 1 rfl) ?_
  refine lv_iconst (v := 2) hx hb dL_law_369 (by decide) ?_
  refine lv_iadd hx hb dL_law_370 ?_
  refine tq_i (w := 2) (by decide) ?_
  refine va_sld (i := 2) hx hb hX hbl hbA hS (tq_in (by decide)) dL_law_371 ?_
  refine tq_i (w := w2) hw2 ?_
  refine tq_ci (wr := []) hP hD hS hA [0] [] rfl rfl (by decide) (by decide) (va_runV (As := [.int w1, .int w2]) (rest := []) ⟨hx, hb, hml, hown, hT⟩ (c_X8_person l G cA H.size mm w1 w2 mfs (fh_sub hmf [0] rfl)) (cwV 2 hT (tq_gV kw_29_8 kw_29_9 kw_29_10 kw_1_5 kw_29_11) rfl rfl rfl (by decide +kernel) ⟨Nat.le_of_ble_eq_true rfl, Nat.le_of_ble_eq_true rfl⟩) ⟨(tq_pre (isC := [0]) hP hD hK hN rfl (by decide)).1, va_recv hK hP (ci := 8) (q0 := 0) rfl rfl, (tq_pre (isC := [0]) hP hD hK hN rfl (by decide)).2⟩ rfl rfl hl.1 rfl (lv_room (Nat.le_of_ble_eq_true rfl)) dL_law_372 ⟨Nat.le_of_ble_eq_true rfl, Nat.le_of_ble_eq_true rfl⟩) (fun r104 u105 H locs hw106 hP hD hS => ?_)
  refine W.widen (k := 161) (n := 7666) (Nat.le_of_ble_eq_true rfl) (Nat.le_of_ble_eq_true rfl) ?_
  obtain ⟨hr108, ho109, hf110⟩ := hw106
  subst hr108
  have hf110 := fh_app (fo_fh (l' := [(13, .int 0)]) hmf ho109 rfl) hf110
  have hf110 : fh u105 91 [(13, .int 0), (2, .int 1)] := hf110
  have hP : va_P G vwCl [(mm, .inr (8, u105))] H := hP
  have hD : va_D A [(mm, .inr (8, u105))] := hD
  refine lv_istore (lv' := [(6, .int 0), (5, .int 1), (4, .int 0), (3, .ref oa), (2, .ref mm), (1, .ref h0), (0, .ref b)]) hx hb dL_law_375 hl (by decide) rfl (fun ls hl => ?_)
  refine lv_aload_n hx hb dL_law_377 rfl (lv_at hl 4 rfl) ?_
  refine tq_ci (wr := []) hP hD hS hA [0] [] rfl rfl (by decide) (by decide) (va_runV (As := []) (rest := []) ⟨hx, hb, hml, hown, hT⟩ (c_X8_thrown l G cA H.size mm u105 (fh_sub hf110 [1] rfl)) (cwV 0 hT (tq_gV kw_29_20 kw_29_21 kw_29_22 kw_1_5 kw_29_23) rfl rfl rfl (by decide +kernel) ⟨Nat.le_of_ble_eq_true rfl, Nat.le_of_ble_eq_true rfl⟩) ⟨(tq_pre (isC := [0]) hP hD hK hN rfl (by decide)).1, va_recv hK hP (ci := 8) (q0 := 0) rfl rfl, (tq_pre (isC := [0]) hP hD hK hN rfl (by decide)).2⟩ rfl rfl hl.1 rfl (lv_room (Nat.le_of_ble_eq_true rfl)) dL_law_378 ⟨Nat.le_of_ble_eq_true rfl, Nat.le_of_ble_eq_true rfl⟩) (fun r111 u112 H locs hw113 hP hD hS => ?_)
  refine W.widen (k := 161) (n := 7666) (Nat.le_of_ble_eq_true rfl) (Nat.le_of_ble_eq_true rfl) ?_
  have hr114 := hw113
  subst hr114
  have hP : va_P G vwCl [(mm, .inr (8, u105))] H := hP
  have hD : va_D A [(mm, .inr (8, u105))] := hD
  refine lv_iload hx hb dL_law_381 (lv_at hl 1 rfl) ?_
  refine lv_icmp_eq (tgt := 388) hx hb dL_law_383 (by decide) (fun c115 => ?_) (fun c115 => absurd (by decide) c115)
  refine lv_iload hx hb dL_law_388 (lv_at hl 1 rfl) ?_
  refine lv_if_ne (tgt := 405) hx hb dL_law_390 (by decide) (fun c116 => ?_) (fun c116 => absurd c116 (by decide))
  refine lv_goto (tgt := 1246) hx hb dL_law_405 (by decide) ?_
  refine lv_iinc (v := 6) (lv' := [(4, .int 6), (6, .int 0), (5, .int 1), (3, .ref oa), (2, .ref mm), (1, .ref h0), (0, .ref b)]) hx hb dL_law_1246 hl (k := 2) rfl (by decide) (by decide) rfl (fun ls hl => ?_)
  refine lv_goto (tgt := 23) hx hb dL_law_1249 (by decide) ?_
  refine lv_iload hx hb dL_law_23 (lv_at hl 0 rfl) ?_
  refine lv_aload_n hx hb dL_law_25 rfl (lv_at hl 6 rfl) ?_
  refine va_slen hx hb hX hbl hbA hS dL_law_26 ?_
  refine tq_i (w := 6) (by decide) ?_
  refine lv_bipush (v := 6) hx hb dL_law_27 (by decide) ?_
  refine lv_isub hx hb dL_law_29 ?_
  refine tq_i (w := 0) (by decide) ?_
  refine lv_icmp_gt (tgt := 1252) hx hb dL_law_30 (by decide) (fun c117 => ?_) (fun c117 => absurd (by decide) c117)
  refine lv_iconst (v := 1) hx hb dL_law_1252 (by decide) ?_
  refine va_forget (fun q hq => by have h9 := hS.2.2 q hq; rw [hAe] at h9; exact h9) ?_
  refine W.widen (k := 600002) (n := 7302232) (Nat.le_of_ble_eq_true rfl) (Nat.le_of_ble_eq_true rfl) ?_
  exact lw_ret hx hb hr hlocks dL_law_1253

set_option maxHeartbeats 4000000 in
set_option maxRecDepth 100000 in
theorem law_5 {p : Program} {e : Env} {s : State} {m : MethodId} {below : List Frame} {meth : Method} {c : Code} (l : Launch) (hst : l.stackTraces = false) {b : Nat} {xs : Nat → Int32} (C0 : lw_At p s m meth c b 6 xs) (G : va_G) (cA : Nat → ClassId) {A : Nat → Prop} (hAe : A = fun q : Nat => s.heap.size ≤ q) (hK : va_K G vwCl (tyL cA) s) (hN : tqN s) (sP : Nat) (hXx : tqX sP A s s.heap) (w0 : Int32) (w1 : Int32) (w2 : Int32) (w3 : Int32) (w4 : Int32) (w5 : Int32) (hw0 : xs 0 = w0) (hw1 : xs 1 = w1) (hw2 : xs 2 = w2) (hw3 : xs 3 = w3) (hw4 : xs 4 = w4) (hw5 : xs 5 = w5) (h0 : Nat) (mm : Nat) (oa : Nat) (fs : List Value) (pa : Nat) (ps : List Value) (mfs : List Value) {H : Heap} {locs : List Loc} {ls : Array Slot} (hf : fh fs 12 [(1, .ref pa)]) (hp : fh ps 19 [(2, .int 0)]) (hmf : fh mfs 91 [(14, .int 0)]) (hP : va_P G vwCl [(h0, .inr (7, fs)), (pa, .inr (2, ps)), (mm, .inr (8, mfs))] H) (hD : va_D A [(h0, .inr (7, fs)), (pa, .inr (2, ps)), (mm, .inr (8, mfs))]) (hS : va_S A s.heap H locs) (hl : lv_has ls 7 [(4, .int 0), (3, .ref oa), (2, .ref mm), (1, .ref h0), (0, .ref b)]) : W p l e room_1 s m #[Value.ref b] below meth c H locs 160 7660 (lw_Z below #[Value.ref b] s) (F0 m 408 ls []) := by
  obtain ⟨hx, hb, hr, hml, hown, hts, hX, hbl, hlocks, hgv⟩ := id C0
  have hT : ∀ v ∈ T0, v.before #[Value.ref b] s = true := fun v h => hts v (tq_law_in v h)
  have hown : s.vm.findClass RL = some m.cls := hown
  have hA : ∀ q : Nat, s.heap.size ≤ q → A q := fun q h => by rw [hAe]; exact h
  have hbA : ¬ A b := by rw [hAe]; exact Nat.not_le.mpr hbl
  have hO := hN.2.2.2.2
  refine lv_aload_n hx hb dL_law_408 rfl (lv_at hl 3 rfl) ?_
  refine lv_aload_n hx hb dL_law_409 rfl (lv_at hl 4 rfl) ?_
  refine lv_iload hx hb dL_law_410 (lv_at hl 0 rfl) ?_
  refine lv_iconst (v := 1) hx hb dL_law_412 (by decide) ?_
  refine lv_iadd hx hb dL_law_413 ?_
  refine tq_i (w := 1) (by decide) ?_
  refine va_sld (i := 1) hx hb hX hbl hbA hS (tq_in (by decide)) dL_law_414 ?_
  refine tq_i (w := w1) hw1 ?_
  refine lv_aload_n hx hb dL_law_415 rfl (lv_at hl 4 rfl) ?_
  refine lv_iload hx hb dL_law_416 (lv_at hl 0 rfl) ?_
  refine lv_iconst (v := 2) hx hb dL_law_418 (by decide) ?_
  refine lv_iadd hx hb dL_law_419 ?_
  refine tq_i (w := 2) (by decide) ?_
  refine va_sld (i := 2) hx hb hX hbl hbA hS (tq_in (by decide)) dL_law_420 ?_
  refine tq_i (w := w2) hw2 ?_
  refine tq_ci (wr := [(mm, .inr (8, mfs))]) hP hD hS hA [0, 1] [2] rfl rfl (by decide) (by decide) (va_runV (As := [.int w1, .int w2]) (rest := []) ⟨hx, hb, hml, hown, hT⟩ (c_X7_piece l G cA H.size h0 w1 w2 fs pa ps (fh_sub hf [0] rfl) (fh_sub hp [0] rfl)) (cwV 2 hT (tq_gV kw_30_0 kw_30_1 kw_30_2 kw_1_2 kw_30_3) rfl rfl rfl (by decide +kernel) ⟨Nat.le_of_ble_eq_true rfl, Nat.le_of_ble_eq_true rfl⟩) ⟨(tq_pre (isC := [0, 1]) hP hD hK hN rfl (by decide)).1, va_recv hK hP (ci := 7) (q0 := 0) rfl rfl, (tq_pre (isC := [0, 1]) hP hD hK hN rfl (by decide)).2⟩ rfl rfl hl.1 rfl (lv_room (Nat.le_of_ble_eq_true rfl)) dL_law_421 ⟨Nat.le_of_ble_eq_true rfl, Nat.le_of_ble_eq_true rfl⟩) (fun r101 u102 H locs hw103 hP hD hS => ?_)
  refine W.widen (k := 160) (n := 7660) (Nat.le_of_ble_eq_true rfl) (Nat.le_of_ble_eq_true rfl) ?_
  have hr104 := hw103
  subst hr104
  have hP : va_P G vwCl [(mm, .inr (8, mfs))] H := hP
  have hD : va_D A [(mm, .inr (8, mfs))] := hD
  refine lv_aload_n hx hb dL_law_424 rfl (lv_at hl 2 rfl) ?_
  refine lv_aload_n hx hb dL_law_425 rfl (lv_at hl 4 rfl) ?_
  refine lv_iload hx hb dL_law_426 (lv_at hl 0 rfl) ?_
  refine lv_iconst (v := 1) hx hb dL_law_428 (by decide) ?_
  refine lv_iadd hx hb dL_law_429 ?_
  refine tq_i (w := 1) (by decide) ?_
  refine va_sld (i := 1) hx hb hX hbl hbA hS (tq_in (by decide)) dL_law_430 ?_
  refine tq_i (w := w1) hw1 ?_
  refine lv_aload_n hx hb dL_law_431 rfl (lv_at hl 4 rfl) ?_
  refine lv_iload hx hb dL_law_432 (lv_at hl 0 rfl) ?_
  refine lv_iconst (v := 2) hx hb dL_law_434 (by decide) ?_
  refine lv_iadd hx hb dL_law_435 ?_
  refine tq_i (w := 2) (by decide) ?_
  refine va_sld (i := 2) hx hb hX hbl hbA hS (tq_in (by decide)) dL_law_436 ?_
  refine tq_i (w := w2) hw2 ?_
  refine tq_ci (wr := []) hP hD hS hA [0] [] rfl rfl (by decide) (by decide) (va_runV (As := [.int w1, .int w2]) (rest := [.int (-1)]) ⟨hx, hb, hml, hown, hT⟩ (c_X8_piece l G cA H.size mm w1 w2 mfs (fh_sub hmf [0] rfl)) (cwV 2 hT (tq_gV kw_30_22 kw_30_23 kw_31_0 kw_1_5 kw_31_1) rfl rfl rfl (by decide +kernel) ⟨Nat.le_of_ble_eq_true rfl, Nat.le_of_ble_eq_true rfl⟩) ⟨(tq_pre (isC := [0]) hP hD hK hN rfl (by decide)).1, va_recv hK hP (ci := 8) (q0 := 0) rfl rfl, (tq_pre (isC := [0]) hP hD hK hN rfl (by decide)).2⟩ rfl rfl hl.1 rfl (lv_room (Nat.le_of_ble_eq_true rfl)) dL_law_437 ⟨Nat.le_of_ble_eq_true rfl, Nat.le_of_ble_eq_true rfl⟩) (fun r105 u106 H locs hw107 hP hD hS => ?_)
  refine W.widen (k := 160) (n := 7660) (Nat.le_of_ble_eq_true rfl) (Nat.le_of_ble_eq_true rfl) ?_
  have hr108 := hw107
  subst hr108
  have hP : va_P G vwCl [] H := hP
  have hD : va_D A [] := hD
  refine lv_icmp_eq (tgt := 1246) hx hb dL_law_440 (by decide) (fun c109 => ?_) (fun c109 => absurd (by decide) c109)
  refine lv_iinc (v := 6) (lv' := [(4, .int 6), (3, .ref oa), (2, .ref mm), (1, .ref h0), (0, .ref b)]) hx hb dL_law_1246 hl (k := 0) rfl (by decide) (by decide) rfl (fun ls hl => ?_)
  refine lv_goto (tgt := 23) hx hb dL_law_1249 (by decide) ?_
  refine lv_iload hx hb dL_law_23 (lv_at hl 0 rfl) ?_
  refine lv_aload_n hx hb dL_law_25 rfl (lv_at hl 4 rfl) ?_
  refine va_slen hx hb hX hbl hbA hS dL_law_26 ?_
  refine tq_i (w := 6) (by decide) ?_
  refine lv_bipush (v := 6) hx hb dL_law_27 (by decide) ?_
  refine lv_isub hx hb dL_law_29 ?_
  refine tq_i (w := 0) (by decide) ?_
  refine lv_icmp_gt (tgt := 1252) hx hb dL_law_30 (by decide) (fun c110 => ?_) (fun c110 => absurd (by decide) c110)
  refine lv_iconst (v := 1) hx hb dL_law_1252 (by decide) ?_
  refine va_forget (fun q hq => by have h9 := hS.2.2 q hq; rw [hAe] at h9; exact h9) ?_
  refine W.widen (k := 600002) (n := 7302232) (Nat.le_of_ble_eq_true rfl) (Nat.le_of_ble_eq_true rfl) ?_
  exact lw_ret hx hb hr hlocks dL_law_1253

set_option maxHeartbeats 4000000 in
set_option maxRecDepth 100000 in
theorem law_6 {p : Program} {e : Env} {s : State} {m : MethodId} {below : List Frame} {meth : Method} {c : Code} (l : Launch) (hst : l.stackTraces = false) {b : Nat} {xs : Nat → Int32} (C0 : lw_At p s m meth c b 6 xs) (G : va_G) (cA : Nat → ClassId) {A : Nat → Prop} (hAe : A = fun q : Nat => s.heap.size ≤ q) (hK : va_K G vwCl (tyL cA) s) (hN : tqN s) (sP : Nat) (hXx : tqX sP A s s.heap) (w0 : Int32) (w1 : Int32) (w2 : Int32) (w3 : Int32) (w4 : Int32) (w5 : Int32) (hw0 : xs 0 = w0) (hw1 : xs 1 = w1) (hw2 : xs 2 = w2) (hw3 : xs 3 = w3) (hw4 : xs 4 = w4) (hw5 : xs 5 = w5) (h0 : Nat) (mm : Nat) (oa : Nat) (fs : List Value) (pa : Nat) (ps : List Value) (mfs : List Value) {H : Heap} {locs : List Loc} {ls : Array Slot} (hf : fh fs 12 [(1, .ref pa)]) (hp : fh ps 19 [(0, .int 0)]) (hmf : fh mfs 91 [(12, .int 0)]) (hP : va_P G vwCl [(h0, .inr (7, fs)), (pa, .inr (2, ps)), (mm, .inr (8, mfs))] H) (hD : va_D A [(h0, .inr (7, fs)), (pa, .inr (2, ps)), (mm, .inr (8, mfs))]) (hS : va_S A s.heap H locs) (hl : lv_has ls 7 [(4, .int 0), (3, .ref oa), (2, .ref mm), (1, .ref h0), (0, .ref b)]) : W p l e room_1 s m #[Value.ref b] below meth c H locs 160 7660 (lw_Z below #[Value.ref b] s) (F0 m 445 ls []) := by
  obtain ⟨hx, hb, hr, hml, hown, hts, hX, hbl, hlocks, hgv⟩ := id C0
  have hT : ∀ v ∈ T0, v.before #[Value.ref b] s = true := fun v h => hts v (tq_law_in v h)
  have hown : s.vm.findClass RL = some m.cls := hown
  have hA : ∀ q : Nat, s.heap.size ≤ q → A q := fun q h => by rw [hAe]; exact h
  have hbA : ¬ A b := by rw [hAe]; exact Nat.not_le.mpr hbl
  have hO := hN.2.2.2.2
  refine lv_aload_n hx hb dL_law_445 rfl (lv_at hl 3 rfl) ?_
  refine lv_aload_n hx hb dL_law_446 rfl (lv_at hl 4 rfl) ?_
  refine lv_iload hx hb dL_law_447 (lv_at hl 0 rfl) ?_
  refine lv_iconst (v := 1) hx hb dL_law_449 (by decide) ?_
  refine lv_iadd hx hb dL_law_450 ?_
  refine tq_i (w := 1) (by decide) ?_
  refine va_sld (i := 1) hx hb hX hbl hbA hS (tq_in (by decide)) dL_law_451 ?_
  refine tq_i (w := w1) hw1 ?_
  refine lv_aload_n hx hb dL_law_452 rfl (lv_at hl 4 rfl) ?_
  refine lv_iload hx hb dL_law_453 (lv_at hl 0 rfl) ?_
  refine lv_iconst (v := 2) hx hb dL_law_455 (by decide) ?_
  refine lv_iadd hx hb dL_law_456 ?_
  refine tq_i (w := 2) (by decide) ?_
  refine va_sld (i := 2) hx hb hX hbl hbA hS (tq_in (by decide)) dL_law_457 ?_
  refine tq_i (w := w2) hw2 ?_
  refine tq_ci (wr := [(mm, .inr (8, mfs))]) hP hD hS hA [0, 1] [2] rfl rfl (by decide) (by decide) (va_runV (As := [.int w1, .int w2]) (rest := []) ⟨hx, hb, hml, hown, hT⟩ (c_X7_place l G cA H.size h0 w1 w2 fs pa ps (fh_sub hf [0] rfl) (fh_sub hp [0] rfl)) (cwV 2 hT (tq_gV kw_31_18 kw_31_19 kw_31_20 kw_1_2 kw_31_21) rfl rfl rfl (by decide +kernel) ⟨Nat.le_of_ble_eq_true rfl, Nat.le_of_ble_eq_true rfl⟩) ⟨(tq_pre (isC := [0, 1]) hP hD hK hN rfl (by decide)).1, va_recv hK hP (ci := 7) (q0 := 0) rfl rfl, (tq_pre (isC := [0, 1]) hP hD hK hN rfl (by decide)).2⟩ rfl rfl hl.1 rfl (lv_room (Nat.le_of_ble_eq_true rfl)) dL_law_458 ⟨Nat.le_of_ble_eq_true rfl, Nat.le_of_ble_eq_true rfl⟩) (fun r101 u102 H locs hw103 hP hD hS => ?_)
  refine W.widen (k := 160) (n := 7660) (Nat.le_of_ble_eq_true rfl) (Nat.le_of_ble_eq_true rfl) ?_
  have hr104 := hw103
  subst hr104
  have hP : va_P G vwCl [(mm, .inr (8, mfs))] H := hP
  have hD : va_D A [(mm, .inr (8, mfs))] := hD
  refine lv_aload_n hx hb dL_law_461 rfl (lv_at hl 2 rfl) ?_
  refine lv_aload_n hx hb dL_law_462 rfl (lv_at hl 4 rfl) ?_
  refine lv_iload hx hb dL_law_463 (lv_at hl 0 rfl) ?_
  refine lv_iconst (v := 1) hx hb dL_law_465 (by decide) ?_
  refine lv_iadd hx hb dL_law_466 ?_
  refine tq_i (w := 1) (by decide) ?_
  refine va_sld (i := 1) hx hb hX hbl hbA hS (tq_in (by decide)) dL_law_467 ?_
  refine tq_i (w := w1) hw1 ?_
  refine lv_aload_n hx hb dL_law_468 rfl (lv_at hl 4 rfl) ?_
  refine lv_iload hx hb dL_law_469 (lv_at hl 0 rfl) ?_
  refine lv_iconst (v := 2) hx hb dL_law_471 (by decide) ?_
  refine lv_iadd hx hb dL_law_472 ?_
  refine tq_i (w := 2) (by decide) ?_
  refine va_sld (i := 2) hx hb hX hbl hbA hS (tq_in (by decide)) dL_law_473 ?_
  refine tq_i (w := w2) hw2 ?_
  refine tq_ci (wr := []) hP hD hS hA [0] [] rfl rfl (by decide) (by decide) (va_runV (As := [.int w1, .int w2]) (rest := [.int (-1)]) ⟨hx, hb, hml, hown, hT⟩ (c_X8_place l G cA H.size mm w1 w2 mfs (fh_sub hmf [0] rfl)) (cwV 2 hT (tq_gV kw_32_11 kw_32_12 kw_32_13 kw_1_5 kw_32_14) rfl rfl rfl (by decide +kernel) ⟨Nat.le_of_ble_eq_true rfl, Nat.le_of_ble_eq_true rfl⟩) ⟨(tq_pre (isC := [0]) hP hD hK hN rfl (by decide)).1, va_recv hK hP (ci := 8) (q0 := 0) rfl rfl, (tq_pre (isC := [0]) hP hD hK hN rfl (by decide)).2⟩ rfl rfl hl.1 rfl (lv_room (Nat.le_of_ble_eq_true rfl)) dL_law_474 ⟨Nat.le_of_ble_eq_true rfl, Nat.le_of_ble_eq_true rfl⟩) (fun r105 u106 H locs hw107 hP hD hS => ?_)
  refine W.widen (k := 160) (n := 7660) (Nat.le_of_ble_eq_true rfl) (Nat.le_of_ble_eq_true rfl) ?_
  have hr108 := hw107
  subst hr108
  have hP : va_P G vwCl [] H := hP
  have hD : va_D A [] := hD
  refine lv_icmp_eq (tgt := 1246) hx hb dL_law_477 (by decide) (fun c109 => ?_) (fun c109 => absurd (by decide) c109)
  refine lv_iinc (v := 6) (lv' := [(4, .int 6), (3, .ref oa), (2, .ref mm), (1, .ref h0), (0, .ref b)]) hx hb dL_law_1246 hl (k := 0) rfl (by decide) (by decide) rfl (fun ls hl => ?_)
  refine lv_goto (tgt := 23) hx hb dL_law_1249 (by decide) ?_
  refine lv_iload hx hb dL_law_23 (lv_at hl 0 rfl) ?_
  refine lv_aload_n hx hb dL_law_25 rfl (lv_at hl 4 rfl) ?_
  refine va_slen hx hb hX hbl hbA hS dL_law_26 ?_
  refine tq_i (w := 6) (by decide) ?_
  refine lv_bipush (v := 6) hx hb dL_law_27 (by decide) ?_
  refine lv_isub hx hb dL_law_29 ?_
  refine tq_i (w := 0) (by decide) ?_
  refine lv_icmp_gt (tgt := 1252) hx hb dL_law_30 (by decide) (fun c110 => ?_) (fun c110 => absurd (by decide) c110)
  refine lv_iconst (v := 1) hx hb dL_law_1252 (by decide) ?_
  refine va_forget (fun q hq => by have h9 := hS.2.2 q hq; rw [hAe] at h9; exact h9) ?_
  refine W.widen (k := 600002) (n := 7302232) (Nat.le_of_ble_eq_true rfl) (Nat.le_of_ble_eq_true rfl) ?_
  exact lw_ret hx hb hr hlocks dL_law_1253

set_option maxHeartbeats 4000000 in
set_option maxRecDepth 100000 in
theorem law_7 {p : Program} {e : Env} {s : State} {m : MethodId} {below : List Frame} {meth : Method} {c : Code} (l : Launch) (hst : l.stackTraces = false) {b : Nat} {xs : Nat → Int32} (C0 : lw_At p s m meth c b 6 xs) (G : va_G) (cA : Nat → ClassId) {A : Nat → Prop} (hAe : A = fun q : Nat => s.heap.size ≤ q) (hK : va_K G vwCl (tyL cA) s) (hN : tqN s) (sP : Nat) (hXx : tqX sP A s s.heap) (w0 : Int32) (w1 : Int32) (w2 : Int32) (w3 : Int32) (w4 : Int32) (w5 : Int32) (hw0 : xs 0 = w0) (hw1 : xs 1 = w1) (hw2 : xs 2 = w2) (hw3 : xs 3 = w3) (hw4 : xs 4 = w4) (hw5 : xs 5 = w5) (h0 : Nat) (mm : Nat) (oa : Nat) (fs : List Value) (pa : Nat) (ps : List Value) (sa : Nat) (fsec : Nat → Int32) (mfs : List Value) (m33 : Nat) (mf33 : Nat → Int32) {H : Heap} {locs : List Loc} {ls : Array Slot} (hf : fh fs 12 [(1, .ref pa)]) (hp : fh ps 19 [(17, .ref sa)]) (hsec : ∀ j, j < 21 → fsec j = 60) (hmf : fh mfs 91 [(33, .ref m33)]) (hwa : ∀ j, j < 21 → mf33 j = 60) (hP : va_P G vwCl [(h0, .inr (7, fs)), (pa, .inr (2, ps)), (sa, .inl (cA 0, 21, .inl fsec)), (mm, .inr (8, mfs)), (m33, .inl (cA 0, 42, .inl mf33))] H) (hD : va_D A [(h0, .inr (7, fs)), (pa, .inr (2, ps)), (sa, .inl (cA 0, 21, .inl fsec)), (mm, .inr (8, mfs)), (m33, .inl (cA 0, 42, .inl mf33))]) (hS : va_S A s.heap H locs) (hl : lv_has ls 7 [(4, .int 0), (3, .ref oa), (2, .ref mm), (1, .ref h0), (0, .ref b)]) : W p l e room_1 s m #[Value.ref b] below meth c H locs 160 7660 (lw_Z below #[Value.ref b] s) (F0 m 482 ls []) := by
  obtain ⟨hx, hb, hr, hml, hown, hts, hX, hbl, hlocks, hgv⟩ := id C0
  have hT : ∀ v ∈ T0, v.before #[Value.ref b] s = true := fun v h => hts v (tq_law_in v h)
  have hown : s.vm.findClass RL = some m.cls := hown
  have hA : ∀ q : Nat, s.heap.size ≤ q → A q := fun q h => by rw [hAe]; exact h
  have hbA : ¬ A b := by rw [hAe]; exact Nat.not_le.mpr hbl
  have hO := hN.2.2.2.2
  refine lv_aload_n hx hb dL_law_482 rfl (lv_at hl 3 rfl) ?_
  refine lv_aload_n hx hb dL_law_483 rfl (lv_at hl 4 rfl) ?_
  refine lv_iload hx hb dL_law_484 (lv_at hl 0 rfl) ?_
  refine lv_iconst (v := 1) hx hb dL_law_486 (by decide) ?_
  refine lv_iadd hx hb dL_law_487 ?_
  refine tq_i (w := 1) (by decide) ?_
  refine va_sld (i := 1) hx hb hX hbl hbA hS (tq_in (by decide)) dL_law_488 ?_
  refine tq_i (w := w1) hw1 ?_
  refine tq_ci (wr := [(mm, .inr (8, mfs)), (m33, .inl (cA 0, 42, .inl mf33))]) hP hD hS hA [0, 1, 2] [3, 4] rfl rfl (by decide) (by decide) (va_runV (As := [.int w1]) (rest := []) ⟨hx, hb, hml, hown, hT⟩ (c_X7_waits l G cA H.size h0 w1 fs pa ps sa fsec (fh_sub hf [0] rfl) (fh_sub hp [0] rfl) hsec) (cwV 1 hT (tq_gV kw_32_23 kw_33_0 kw_33_1 kw_1_2 kw_33_2) rfl rfl rfl (by decide +kernel) ⟨Nat.le_of_ble_eq_true rfl, Nat.le_of_ble_eq_true rfl⟩) ⟨(tq_pre (isC := [0, 1, 2]) hP hD hK hN rfl (by decide)).1, va_recv hK hP (ci := 7) (q0 := 0) rfl rfl, (tq_pre (isC := [0, 1, 2]) hP hD hK hN rfl (by decide)).2⟩ rfl rfl hl.1 rfl (lv_room (Nat.le_of_ble_eq_true rfl)) dL_law_489 ⟨Nat.le_of_ble_eq_true rfl, Nat.le_of_ble_eq_true rfl⟩) (fun r101 u102 H locs hw103 hP hD hS => ?_)
  refine W.widen (k := 160) (n := 7660) (Nat.le_of_ble_eq_true rfl) (Nat.le_of_ble_eq_true rfl) ?_
  have hr104 := hw103
  subst hr104
  have hP : va_P G vwCl [(mm, .inr (8, mfs)), (m33, .inl (cA 0, 42, .inl mf33))] H := hP
  have hD : va_D A [(mm, .inr (8, mfs)), (m33, .inl (cA 0, 42, .inl mf33))] := hD
  refine lv_aload_n hx hb dL_law_492 rfl (lv_at hl 2 rfl) ?_
  refine lv_aload_n hx hb dL_law_493 rfl (lv_at hl 4 rfl) ?_
  refine lv_iload hx hb dL_law_494 (lv_at hl 0 rfl) ?_
  refine lv_iconst (v := 1) hx hb dL_law_496 (by decide) ?_
  refine lv_iadd hx hb dL_law_497 ?_
  refine tq_i (w := 1) (by decide) ?_
  refine va_sld (i := 1) hx hb hX hbl hbA hS (tq_in (by decide)) dL_law_498 ?_
  refine tq_i (w := w1) hw1 ?_
  refine tq_ci (wr := []) hP hD hS hA [0, 1] [] rfl rfl (by decide) (by decide) (va_runV (As := [.int w1]) (rest := [.int ((sp_waits w1))]) ⟨hx, hb, hml, hown, hT⟩ (c_X8_waits l G cA H.size mm w1 mfs m33 mf33 (fh_sub hmf [0] rfl) hwa) (cwV 1 hT (tq_gV kw_33_4 kw_33_5 kw_33_6 kw_1_5 kw_33_7) rfl rfl rfl (by decide +kernel) ⟨Nat.le_of_ble_eq_true rfl, Nat.le_of_ble_eq_true rfl⟩) ⟨(tq_pre (isC := [0, 1]) hP hD hK hN rfl (by decide)).1, va_recv hK hP (ci := 8) (q0 := 0) rfl rfl, (tq_pre (isC := [0, 1]) hP hD hK hN rfl (by decide)).2⟩ rfl rfl hl.1 rfl (lv_room (Nat.le_of_ble_eq_true rfl)) dL_law_499 ⟨Nat.le_of_ble_eq_true rfl, Nat.le_of_ble_eq_true rfl⟩) (fun r105 u106 H locs hw107 hP hD hS => ?_)
  refine W.widen (k := 160) (n := 7660) (Nat.le_of_ble_eq_true rfl) (Nat.le_of_ble_eq_true rfl) ?_
  have hr108 := hw107
  subst hr108
  have hP : va_P G vwCl [] H := hP
  have hD : va_D A [] := hD
  refine lv_icmp_eq (tgt := 1246) hx hb dL_law_502 (by decide) (fun c109 => ?_) (fun c109 => absurd rfl c109)
  refine lv_iinc (v := 6) (lv' := [(4, .int 6), (3, .ref oa), (2, .ref mm), (1, .ref h0), (0, .ref b)]) hx hb dL_law_1246 hl (k := 0) rfl (by decide) (by decide) rfl (fun ls hl => ?_)
  refine lv_goto (tgt := 23) hx hb dL_law_1249 (by decide) ?_
  refine lv_iload hx hb dL_law_23 (lv_at hl 0 rfl) ?_
  refine lv_aload_n hx hb dL_law_25 rfl (lv_at hl 4 rfl) ?_
  refine va_slen hx hb hX hbl hbA hS dL_law_26 ?_
  refine tq_i (w := 6) (by decide) ?_
  refine lv_bipush (v := 6) hx hb dL_law_27 (by decide) ?_
  refine lv_isub hx hb dL_law_29 ?_
  refine tq_i (w := 0) (by decide) ?_
  refine lv_icmp_gt (tgt := 1252) hx hb dL_law_30 (by decide) (fun c110 => ?_) (fun c110 => absurd (by decide) c110)
  refine lv_iconst (v := 1) hx hb dL_law_1252 (by decide) ?_
  refine va_forget (fun q hq => by have h9 := hS.2.2 q hq; rw [hAe] at h9; exact h9) ?_
  refine W.widen (k := 600002) (n := 7302232) (Nat.le_of_ble_eq_true rfl) (Nat.le_of_ble_eq_true rfl) ?_
  exact lw_ret hx hb hr hlocks dL_law_1253

set_option maxHeartbeats 4000000 in
set_option maxRecDepth 100000 in
theorem law_8 {p : Program} {e : Env} {s : State} {m : MethodId} {below : List Frame} {meth : Method} {c : Code} (l : Launch) (hst : l.stackTraces = false) {b : Nat} {xs : Nat → Int32} (C0 : lw_At p s m meth c b 6 xs) (G : va_G) (cA : Nat → ClassId) {A : Nat → Prop} (hAe : A = fun q : Nat => s.heap.size ≤ q) (hK : va_K G vwCl (tyL cA) s) (hN : tqN s) (sP : Nat) (hXx : tqX sP A s s.heap) (w0 : Int32) (w1 : Int32) (w2 : Int32) (w3 : Int32) (w4 : Int32) (w5 : Int32) (hw0 : xs 0 = w0) (hw1 : xs 1 = w1) (hw2 : xs 2 = w2) (hw3 : xs 3 = w3) (hw4 : xs 4 = w4) (hw5 : xs 5 = w5) (h0 : Nat) (mm : Nat) (oa : Nat) (fs : List Value) (pa : Nat) (ps : List Value) (mfs : List Value) (m35 : Nat) (mf35 : Nat → Int32) {H : Heap} {locs : List Loc} {ls : Array Slot} (hf : fh fs 12 [(1, .ref pa)]) (hp : fh ps 19 [(2, .int 0)]) (hmf : fh mfs 91 [(35, .ref m35), (14, .int 0)]) (hP : va_P G vwCl [(h0, .inr (7, fs)), (pa, .inr (2, ps)), (mm, .inr (8, mfs)), (m35, .inl (cA 1, 6, .inl mf35))] H) (hD : va_D A [(h0, .inr (7, fs)), (pa, .inr (2, ps)), (mm, .inr (8, mfs)), (m35, .inl (cA 1, 6, .inl mf35))]) (hS : va_S A s.heap H locs) (hl : lv_has ls 7 [(4, .int 0), (3, .ref oa), (2, .ref mm), (1, .ref h0), (0, .ref b)]) : W p l e room_1 s m #[Value.ref b] below meth c H locs 160 7660 (lw_Z below #[Value.ref b] s) (F0 m 507 ls []) := by
  obtain ⟨hx, hb, hr, hml, hown, hts, hX, hbl, hlocks, hgv⟩ := id C0
  have hT : ∀ v ∈ T0, v.before #[Value.ref b] s = true := fun v h => hts v (tq_law_in v h)
  have hown : s.vm.findClass RL = some m.cls := hown
  have hA : ∀ q : Nat, s.heap.size ≤ q → A q := fun q h => by rw [hAe]; exact h
  have hbA : ¬ A b := by rw [hAe]; exact Nat.not_le.mpr hbl
  have hO := hN.2.2.2.2
  refine lv_aload_n hx hb dL_law_507 rfl (lv_at hl 3 rfl) ?_
  refine lv_aload_n hx hb dL_law_508 rfl (lv_at hl 4 rfl) ?_
  refine lv_iload hx hb dL_law_509 (lv_at hl 0 rfl) ?_
  refine lv_iconst (v := 1) hx hb dL_law_511 (by decide) ?_
  refine lv_iadd hx hb dL_law_512 ?_
  refine tq_i (w := 1) (by decide) ?_
  refine va_sld (i := 1) hx hb hX hbl hbA hS (tq_in (by decide)) dL_law_513 ?_
  refine tq_i (w := w1) hw1 ?_
  refine lv_aload_n hx hb dL_law_514 rfl (lv_at hl 4 rfl) ?_
  refine lv_iload hx hb dL_law_515 (lv_at hl 0 rfl) ?_
  refine lv_iconst (v := 2) hx hb dL_law_517 (by decide) ?_
  refine lv_iadd hx hb dL_law_518 ?_
  refine tq_i (w := 2) (by decide) ?_
  refine va_sld (i := 2) hx hb hX hbl hbA hS (tq_in (by decide)) dL_law_519 ?_
  refine tq_i (w := w2) hw2 ?_
  refine tq_cl (wr := [(mm, .inr (8, mfs)), (m35, .inl (cA 1, 6, .inl mf35))]) hP hD hS hA [0, 1] [2, 3] rfl rfl (by decide) (by decide) (va_runV (As := [.int w1, .int w2]) (rest := []) ⟨hx, hb, hml, hown, hT⟩ (c_X7_law l G cA H.size h0 w1 w2 fs pa ps (fh_sub hf [0] rfl) (fh_sub hp [0] rfl)) (cwV 2 hT (tq_gV kw_33_8 kw_33_9 kw_33_10 kw_1_2 kw_33_11) rfl rfl rfl (by decide +kernel) ⟨Nat.le_of_ble_eq_true rfl, Nat.le_of_ble_eq_true rfl⟩) ⟨(tq_pre (isC := [0, 1]) hP hD hK hN rfl (by decide)).1, va_recv hK hP (ci := 7) (q0 := 0) rfl rfl, (tq_pre (isC := [0, 1]) hP hD hK hN rfl (by decide)).2⟩ rfl rfl hl.1 rfl (lv_room (Nat.le_of_ble_eq_true rfl)) dL_law_520 ⟨Nat.le_of_ble_eq_true rfl, Nat.le_of_ble_eq_true rfl⟩) (fun r101 u102 H locs hw103 hP hD hS => ?_)
  refine W.widen (k := 160) (n := 7660) (Nat.le_of_ble_eq_true rfl) (Nat.le_of_ble_eq_true rfl) ?_
  have hr104 := hw103
  subst hr104
  have hP : va_P G vwCl [(mm, .inr (8, mfs)), (m35, .inl (cA 1, 6, .inl mf35))] H := hP
  have hD : va_D A [(mm, .inr (8, mfs)), (m35, .inl (cA 1, 6, .inl mf35))] := hD
  refine lv_aload_n hx hb dL_law_523 rfl (lv_at hl 2 rfl) ?_
  refine lv_aload_n hx hb dL_law_524 rfl (lv_at hl 4 rfl) ?_
  refine lv_iload hx hb dL_law_525 (lv_at hl 0 rfl) ?_
  refine lv_iconst (v := 1) hx hb dL_law_527 (by decide) ?_
  refine lv_iadd hx hb dL_law_528 ?_
  refine tq_i (w := 1) (by decide) ?_
  refine va_sld (i := 1) hx hb hX hbl hbA hS (tq_in (by decide)) dL_law_529 ?_
  refine tq_i (w := w1) hw1 ?_
  refine lv_aload_n hx hb dL_law_530 rfl (lv_at hl 4 rfl) ?_
  refine lv_iload hx hb dL_law_531 (lv_at hl 0 rfl) ?_
  refine lv_iconst (v := 2) hx hb dL_law_533 (by decide) ?_
  refine lv_iadd hx hb dL_law_534 ?_
  refine tq_i (w := 2) (by decide) ?_
  refine va_sld (i := 2) hx hb hX hbl hbA hS (tq_in (by decide)) dL_law_535 ?_
  refine tq_i (w := w2) hw2 ?_
  refine tq_cl (wr := []) hP hD hS hA [0, 1] [] rfl rfl (by decide) (by decide) (va_runV (As := [.int w1, .int w2]) (rest := [.long (-9223372036854775808)]) ⟨hx, hb, hml, hown, hT⟩ (c_X8_law l G cA H.size mm w1 w2 mfs m35 mf35 (fh_sub hmf [0, 1] rfl)) (cwV 2 hT (tq_gV kw_34_9 kw_34_10 kw_34_11 kw_1_5 kw_34_12) rfl rfl rfl (by decide +kernel) ⟨Nat.le_of_ble_eq_true rfl, Nat.le_of_ble_eq_true rfl⟩) ⟨(tq_pre (isC := [0, 1]) hP hD hK hN rfl (by decide)).1, va_recv hK hP (ci := 8) (q0 := 0) rfl rfl, (tq_pre (isC := [0, 1]) hP hD hK hN rfl (by decide)).2⟩ rfl rfl hl.1 rfl (lv_room (Nat.le_of_ble_eq_true rfl)) dL_law_536 ⟨Nat.le_of_ble_eq_true rfl, Nat.le_of_ble_eq_true rfl⟩) (fun r105 u106 H locs hw107 hP hD hS => ?_)
  refine W.widen (k := 160) (n := 7660) (Nat.le_of_ble_eq_true rfl) (Nat.le_of_ble_eq_true rfl) ?_
  have hr108 := hw107
  subst hr108
  have hP : va_P G vwCl [] H := hP
  have hD : va_D A [] := hD
  refine W.lcmp hx hb dL_law_539 ?_
  refine tq_i (w := 0) (by decide) ?_
  refine lv_if_eq (tgt := 1246) hx hb dL_law_540 (by decide) (fun c109 => ?_) (fun c109 => absurd (by decide) c109)
  refine lv_iinc (v := 6) (lv' := [(4, .int 6), (3, .ref oa), (2, .ref mm), (1, .ref h0), (0, .ref b)]) hx hb dL_law_1246 hl (k := 0) rfl (by decide) (by decide) rfl (fun ls hl => ?_)
  refine lv_goto (tgt := 23) hx hb dL_law_1249 (by decide) ?_
  refine lv_iload hx hb dL_law_23 (lv_at hl 0 rfl) ?_
  refine lv_aload_n hx hb dL_law_25 rfl (lv_at hl 4 rfl) ?_
  refine va_slen hx hb hX hbl hbA hS dL_law_26 ?_
  refine tq_i (w := 6) (by decide) ?_
  refine lv_bipush (v := 6) hx hb dL_law_27 (by decide) ?_
  refine lv_isub hx hb dL_law_29 ?_
  refine tq_i (w := 0) (by decide) ?_
  refine lv_icmp_gt (tgt := 1252) hx hb dL_law_30 (by decide) (fun c110 => ?_) (fun c110 => absurd (by decide) c110)
  refine lv_iconst (v := 1) hx hb dL_law_1252 (by decide) ?_
  refine va_forget (fun q hq => by have h9 := hS.2.2 q hq; rw [hAe] at h9; exact h9) ?_
  refine W.widen (k := 600002) (n := 7302232) (Nat.le_of_ble_eq_true rfl) (Nat.le_of_ble_eq_true rfl) ?_
  exact lw_ret hx hb hr hlocks dL_law_1253
