-- 67.l0
set_option maxHeartbeats 4000000 in
set_option maxRecDepth 100000 in
theorem lc_0 {p : Program} {e : Env} {s : State} {m : MethodId} {below : List Frame} {meth : Method} {c : Code} (l : Launch) {b Ln : Nat} {xs : Nat → Int32} (C0 : lw_At p s m meth c b Ln xs) (G : va_G) (cA : Nat → ClassId) {A : Nat → Prop} (hAe : A = fun q : Nat => s.heap.size ≤ q) (hK : va_K G vwCl (tyL cA) s) (hN : tqN s) {bA : Nat} (hB : tqB bA A s s.heap) {H : Heap} {locs : List Loc} {ls : Array Slot} {kc ks : Nat} (hfit : kc ≤ 601024 ∧ ks ≤ 7293034) {i : Int32} (hi : 0 ≤ i.toInt ∧ i.toInt + 6 ≤ (Ln : Int)) (hLn : Ln ≤ 3072) {x0 mm oa : Nat} (hI : lwP G cA A x0 mm oa H) (hS : va_S A s.heap H locs) (hl : lv_has ls 7 [(4, .int i), (3, .ref oa), (2, .ref mm), (1, .ref x0), (0, .ref b)]) (hk : (∀ (H : Heap) (locs : List Loc) (ls : Array Slot), lwP G cA A x0 mm oa H → va_S A s.heap H locs → lv_has ls 7 [(4, .int i), (3, .ref oa), (2, .ref mm), (1, .ref x0), (0, .ref b)] → W p l e room_1 s m #[Value.ref b] below meth c H locs kc ks (lw_Z below #[Value.ref b] s) (F0 m 1217 ls []))) : W p l e room_1 s m #[Value.ref b] below meth c H locs kc ks (lw_Z below #[Value.ref b] s) (F0 m 192 ls []) := by
  obtain ⟨hx, hb, hr, hml, hown, hts, hX, hbl, hlocks, hgv⟩ := id C0
  have hT : ∀ v ∈ T0, v.before #[Value.ref b] s = true := fun v h => hts v (tq_law_in v h)
  have hown : s.vm.findClass RL = some m.cls := hown
  have hA : ∀ q : Nat, s.heap.size ≤ q → A q := fun q h => by rw [hAe]; exact h
  have hbA : ¬ A b := by rw [hAe]; exact Nat.not_le.mpr hbl
  obtain ⟨xa, ka, ra, na, ia, ua, va, ca, za, pa, qa, aa, X, K, R, P, L, P2, L2, Tn, Ti, Tu, Tv, C, Z, q0, q1, q2, q3, q4, q5, S, LM, og, rfl, rfl, hok, jx, hrel, hP, hD⟩ := hI
  obtain ⟨bX, bK, bR, bP, bP2, bTn, bTi, bTu, bTv, bC, bZ, dz, e0, e4, e5, e1⟩ := id hok
  obtain ⟨w1, hw1⟩ : ∃ z, xs (i + 1).toNatClampNeg = z := ⟨_, rfl⟩
  obtain ⟨w2, hw2⟩ : ∃ z, xs (i + 2).toNatClampNeg = z := ⟨_, rfl⟩
  obtain ⟨w3, hw3⟩ : ∃ z, xs (i + 3).toNatClampNeg = z := ⟨_, rfl⟩
  obtain ⟨w4, hw4⟩ : ∃ z, xs (i + 4).toNatClampNeg = z := ⟨_, rfl⟩
  obtain ⟨w5, hw5⟩ : ∃ z, xs (i + 5).toNatClampNeg = z := ⟨_, rfl⟩
  refine lv_aload_n hx hb dL_law_192 rfl (lv_at hl 3 rfl) ?_
  refine lv_aload_n hx hb dL_law_193 rfl (lv_at hl 4 rfl) ?_
  refine lv_iload hx hb dL_law_194 (lv_at hl 0 rfl) ?_
  refine lv_iconst (v := 1) hx hb dL_law_196 (by decide) ?_
  refine lv_iadd hx hb dL_law_197 ?_
  refine va_sld (i := i + 1) hx hb hX hbl hbA hS (lw_in hi (by decide)) dL_law_198 ?_
  refine tq_i (w := w1) hw1 ?_
  refine lv_aload_n hx hb dL_law_199 rfl (lv_at hl 4 rfl) ?_
  refine lv_iload hx hb dL_law_200 (lv_at hl 0 rfl) ?_
  refine lv_iconst (v := 2) hx hb dL_law_202 (by decide) ?_
  refine lv_iadd hx hb dL_law_203 ?_
  refine va_sld (i := i + 2) hx hb hX hbl hbA hS (lw_in hi (by decide)) dL_law_204 ?_
  refine tq_i (w := w2) hw2 ?_
  refine lv_aload_n hx hb dL_law_205 rfl (lv_at hl 4 rfl) ?_
  refine lv_iload hx hb dL_law_206 (lv_at hl 0 rfl) ?_
  refine lv_iconst (v := 3) hx hb dL_law_208 (by decide) ?_
  refine lv_iadd hx hb dL_law_209 ?_
  refine va_sld (i := i + 3) hx hb hX hbl hbA hS (lw_in hi (by decide)) dL_law_210 ?_
  refine tq_i (w := w3) hw3 ?_
  refine lv_aload_n hx hb dL_law_211 rfl (lv_at hl 4 rfl) ?_
  refine lv_iload hx hb dL_law_212 (lv_at hl 0 rfl) ?_
  refine lv_iconst (v := 4) hx hb dL_law_214 (by decide) ?_
  refine lv_iadd hx hb dL_law_215 ?_
  refine va_sld (i := i + 4) hx hb hX hbl hbA hS (lw_in hi (by decide)) dL_law_216 ?_
  refine tq_i (w := w4) hw4 ?_
  refine lv_aload_n hx hb dL_law_217 rfl (lv_at hl 4 rfl) ?_
  refine lv_iload hx hb dL_law_218 (lv_at hl 0 rfl) ?_
  refine lv_iconst (v := 5) hx hb dL_law_220 (by decide) ?_
  refine lv_iadd hx hb dL_law_221 ?_
  refine va_sld (i := i + 5) hx hb hX hbl hbA hS (lw_in hi (by decide)) dL_law_222 ?_
  refine tq_i (w := w5) hw5 ?_
  obtain ⟨⟨r1, K_2⟩, hcx, hq3⟩ := (D_Ep (t_X7_feed pa qa K w1 w2 w3 w4 w5 bK) (e_feed pa qa K w1 w2 w3 w4 w5 (bK 0 0)))
  refine lw_ci (As := [.int w1, .int w2, .int w3, .int w4, .int w5]) (rest := []) hP hD hS hA hK hN ⟨hx, hb, hml, hown, hT⟩ (c_X7_feed l G cA H.size xa ka ra na ia ua va ca za pa qa X K R P L P2 L2 Tn Ti Tu Tv C Z q0 q1 q2 q3 q4 q5 w1 w2 w3 w4 w5 r1 K_2 hcx) (cwV 5 hT (tq_gV kw_13_9 kw_13_10 kw_13_11 kw_1_2 kw_13_12) rfl rfl rfl dkdV_yX7_feed_5 ⟨Nat.le_of_ble_eq_true rfl, Nat.le_of_ble_eq_true rfl⟩) (wX_rec hK hP) rfl hl.1 rfl (lv_room (Nat.le_of_ble_eq_true rfl)) dL_law_223 hfit (fun _ _ H locs z9 hP hD hS => ?_)
  have z9 := z9.symm
  subst z9
  refine lv_pop hx hb dL_law_226 rfl ?_
  refine lv_aload_n hx hb dL_law_227 rfl (lv_at hl 2 rfl) ?_
  refine lv_aload_n hx hb dL_law_228 rfl (lv_at hl 4 rfl) ?_
  refine lv_iload hx hb dL_law_229 (lv_at hl 0 rfl) ?_
  refine lv_iconst (v := 1) hx hb dL_law_231 (by decide) ?_
  refine lv_iadd hx hb dL_law_232 ?_
  refine va_sld (i := i + 1) hx hb hX hbl hbA hS (lw_in hi (by decide)) dL_law_233 ?_
  refine tq_i (w := w1) hw1 ?_
  refine lv_aload_n hx hb dL_law_234 rfl (lv_at hl 4 rfl) ?_
  refine lv_iload hx hb dL_law_235 (lv_at hl 0 rfl) ?_
  refine lv_iconst (v := 2) hx hb dL_law_237 (by decide) ?_
  refine lv_iadd hx hb dL_law_238 ?_
  refine va_sld (i := i + 2) hx hb hX hbl hbA hS (lw_in hi (by decide)) dL_law_239 ?_
  refine tq_i (w := w2) hw2 ?_
  refine lv_aload_n hx hb dL_law_240 rfl (lv_at hl 4 rfl) ?_
  refine lv_iload hx hb dL_law_241 (lv_at hl 0 rfl) ?_
  refine lv_iconst (v := 3) hx hb dL_law_243 (by decide) ?_
  refine lv_iadd hx hb dL_law_244 ?_
  refine va_sld (i := i + 3) hx hb hX hbl hbA hS (lw_in hi (by decide)) dL_law_245 ?_
  refine tq_i (w := w3) hw3 ?_
  refine lv_aload_n hx hb dL_law_246 rfl (lv_at hl 4 rfl) ?_
  refine lv_iload hx hb dL_law_247 (lv_at hl 0 rfl) ?_
  refine lv_iconst (v := 4) hx hb dL_law_249 (by decide) ?_
  refine lv_iadd hx hb dL_law_250 ?_
  refine va_sld (i := i + 4) hx hb hX hbl hbA hS (lw_in hi (by decide)) dL_law_251 ?_
  refine tq_i (w := w4) hw4 ?_
  refine lv_aload_n hx hb dL_law_252 rfl (lv_at hl 4 rfl) ?_
  refine lv_iload hx hb dL_law_253 (lv_at hl 0 rfl) ?_
  refine lv_iconst (v := 5) hx hb dL_law_255 (by decide) ?_
  refine lv_iadd hx hb dL_law_256 ?_
  refine va_sld (i := i + 5) hx hb hX hbl hbA hS (lw_in hi (by decide)) dL_law_257 ?_
  refine tq_i (w := w5) hw5 ?_
  obtain ⟨⟨r4, S_5⟩, hcm, hq6⟩ := (Q_feed S w1 w2 w3 w4 w5 jx)
  replace hP : va_P G vwCl (wM cA aa S LM ++ (wX cA xa ka ra na ia ua va ca za pa qa X K_2 R P L P2 L2 Tn Ti Tu Tv C Z q0 q1 q2 q3 q4 q5 ++ [(oa, .inl (cA 2, 1, .inr (.inl og)))])) H := tw_P wl_rot hP
  replace hD : va_D A (wM cA aa S LM ++ (wX cA xa ka ra na ia ua va ca za pa qa X K_2 R P L P2 L2 Tn Ti Tu Tv C Z q0 q1 q2 q3 q4 q5 ++ [(oa, .inl (cA 2, 1, .inr (.inl og)))])) := tw_D wl_rot hD
  refine lw_ci (As := [.int w1, .int w2, .int w3, .int w4, .int w5]) (rest := []) hP hD hS hA hK hN ⟨hx, hb, hml, hown, hT⟩ (c_X8_feed l G cA H.size aa S LM w1 w2 w3 w4 w5 r4 S_5 hcm) (cwV 5 hT (tq_gV kw_13_20 kw_13_21 kw_13_22 kw_1_5 kw_13_23) rfl rfl rfl dkdV_yX8_feed_5 ⟨Nat.le_of_ble_eq_true rfl, Nat.le_of_ble_eq_true rfl⟩) (wM_rec hK hP) rfl hl.1 rfl (lv_room (Nat.le_of_ble_eq_true rfl)) dL_law_258 hfit (fun _ _ H locs z9 hP hD hS => ?_)
  have z9 := z9.symm
  subst z9
  replace hP : va_P G vwCl (wX cA xa ka ra na ia ua va ca za pa qa X K_2 R P L P2 L2 Tn Ti Tu Tv C Z q0 q1 q2 q3 q4 q5 ++ (wM cA aa S_5 LM ++ [(oa, .inl (cA 2, 1, .inr (.inl og)))])) H := tw_P wl_rot hP
  replace hD : va_D A (wX cA xa ka ra na ia ua va ca za pa qa X K_2 R P L P2 L2 Tn Ti Tu Tv C Z q0 q1 q2 q3 q4 q5 ++ (wM cA aa S_5 LM ++ [(oa, .inl (cA 2, 1, .inr (.inl og)))])) := tw_D wl_rot hD
  refine lv_pop hx hb dL_law_261 rfl ?_
  refine lv_goto (tgt := 1217) hx hb dL_law_262 (by decide) ?_
  exact hk H locs ls ⟨xa, ka, ra, na, ia, ua, va, ca, za, pa, qa, aa, X, K_2, R, P, L, P2, L2, Tn, Ti, Tu, Tv, C, Z, q0, q1, q2, q3, q4, q5, S_5, LM, og, rfl, rfl, ⟨bX, hq3.1, bR, bP, bP2, bTn, bTi, bTu, bTv, bC, bZ, dz, e0, e4, e5, e1⟩, hq6.1, (E_feed hok jx hrel hcx hcm), hP, hD⟩ hS hl
set_option maxHeartbeats 4000000 in
set_option maxRecDepth 100000 in
theorem lc_1 {p : Program} {e : Env} {s : State} {m : MethodId} {below : List Frame} {meth : Method} {c : Code} (l : Launch) {b Ln : Nat} {xs : Nat → Int32} (C0 : lw_At p s m meth c b Ln xs) (G : va_G) (cA : Nat → ClassId) {A : Nat → Prop} (hAe : A = fun q : Nat => s.heap.size ≤ q) (hK : va_K G vwCl (tyL cA) s) (hN : tqN s) {bA : Nat} (hB : tqB bA A s s.heap) {H : Heap} {locs : List Loc} {ls : Array Slot} {kc ks : Nat} (hfit : kc ≤ 601024 ∧ ks ≤ 7293034) {i : Int32} (hi : 0 ≤ i.toInt ∧ i.toInt + 6 ≤ (Ln : Int)) (hLn : Ln ≤ 3072) {x0 mm oa : Nat} (hI : lwP G cA A x0 mm oa H) (hS : va_S A s.heap H locs) (hl : lv_has ls 7 [(4, .int i), (3, .ref oa), (2, .ref mm), (1, .ref x0), (0, .ref b)]) (hk : (∀ (H : Heap) (locs : List Loc) (ls : Array Slot), lwP G cA A x0 mm oa H → va_S A s.heap H locs → lv_has ls 7 [(4, .int i), (3, .ref oa), (2, .ref mm), (1, .ref x0), (0, .ref b)] → W p l e room_1 s m #[Value.ref b] below meth c H locs kc ks (lw_Z below #[Value.ref b] s) (F0 m 1217 ls []))) : W p l e room_1 s m #[Value.ref b] below meth c H locs kc ks (lw_Z below #[Value.ref b] s) (F0 m 265 ls []) := by
  obtain ⟨hx, hb, hr, hml, hown, hts, hX, hbl, hlocks, hgv⟩ := id C0
  have hT : ∀ v ∈ T0, v.before #[Value.ref b] s = true := fun v h => hts v (tq_law_in v h)
  have hown : s.vm.findClass RL = some m.cls := hown
  have hA : ∀ q : Nat, s.heap.size ≤ q → A q := fun q h => by rw [hAe]; exact h
  have hbA : ¬ A b := by rw [hAe]; exact Nat.not_le.mpr hbl
  obtain ⟨xa, ka, ra, na, ia, ua, va, ca, za, pa, qa, aa, X, K, R, P, L, P2, L2, Tn, Ti, Tu, Tv, C, Z, q0, q1, q2, q3, q4, q5, S, LM, og, rfl, rfl, hok, jx, hrel, hP, hD⟩ := hI
  obtain ⟨bX, bK, bR, bP, bP2, bTn, bTi, bTu, bTv, bC, bZ, dz, e0, e4, e5, e1⟩ := id hok
  obtain ⟨w1, hw1⟩ : ∃ z, xs (i + 1).toNatClampNeg = z := ⟨_, rfl⟩
  obtain ⟨w2, hw2⟩ : ∃ z, xs (i + 2).toNatClampNeg = z := ⟨_, rfl⟩
  obtain ⟨w3, hw3⟩ : ∃ z, xs (i + 3).toNatClampNeg = z := ⟨_, rfl⟩
  obtain ⟨w4, hw4⟩ : ∃ z, xs (i + 4).toNatClampNeg = z := ⟨_, rfl⟩
  obtain ⟨w5, hw5⟩ : ∃ z, xs (i + 5).toNatClampNeg = z := ⟨_, rfl⟩
  refine lv_aload_n hx hb dL_law_265 rfl (lv_at hl 3 rfl) ?_
  refine lv_aload_n hx hb dL_law_266 rfl (lv_at hl 4 rfl) ?_
  refine lv_iload hx hb dL_law_267 (lv_at hl 0 rfl) ?_
  refine lv_iconst (v := 1) hx hb dL_law_269 (by decide) ?_
  refine lv_iadd hx hb dL_law_270 ?_
  refine va_sld (i := i + 1) hx hb hX hbl hbA hS (lw_in hi (by decide)) dL_law_271 ?_
  refine tq_i (w := w1) hw1 ?_
  obtain ⟨⟨r1, X_2, K_3, R_4, P2_5, Tn_6, C_7, Z_8, q0_9, q4_10, q5_11⟩, hcx, hq12⟩ := (t_X7_text pa qa X K R P2 Tn C Z q0 q4 q5 w1 bX bK bR bP2 bTn bC bZ dz e0 e4 e5)
  refine lw_ciB (As := [.int w1]) (rest := []) hP hD hS hA hK hN hB ⟨hx, hb, hml, hown, hT⟩ (c_X7_text l G cA H.size bA xa ka ra na ia ua va ca za pa qa X K R P L P2 L2 Tn Ti Tu Tv C Z q0 q1 q2 q3 q4 q5 w1 r1 X_2 K_3 R_4 P2_5 Tn_6 C_7 Z_8 q0_9 q4_10 q5_11 hcx) (cwV 1 hT (tq_gV kw_14_2 kw_14_3 kw_14_4 kw_1_2 kw_14_5) rfl rfl rfl dkdV_yX7_text_1 ⟨Nat.le_of_ble_eq_true rfl, Nat.le_of_ble_eq_true rfl⟩) (wX_rec hK hP) rfl hl.1 rfl (lv_room (Nat.le_of_ble_eq_true rfl)) dL_law_272 hfit (fun _ _ H locs z9 hP hD hS => ?_)
  have z9 := z9.symm
  subst z9
  refine lv_pop hx hb dL_law_275 rfl ?_
  refine lv_aload_n hx hb dL_law_276 rfl (lv_at hl 2 rfl) ?_
  refine lv_aload_n hx hb dL_law_277 rfl (lv_at hl 4 rfl) ?_
  refine lv_iload hx hb dL_law_278 (lv_at hl 0 rfl) ?_
  refine lv_iconst (v := 1) hx hb dL_law_280 (by decide) ?_
  refine lv_iadd hx hb dL_law_281 ?_
  refine va_sld (i := i + 1) hx hb hX hbl hbA hS (lw_in hi (by decide)) dL_law_282 ?_
  refine tq_i (w := w1) hw1 ?_
  obtain ⟨⟨r13, S_14, LM_15⟩, hcm, hq16⟩ := (Q_text S LM w1 jx)
  replace hP : va_P G vwCl (wM cA aa S LM ++ (wX cA xa ka ra na ia ua va ca za pa qa X_2 K_3 R_4 P L P2_5 L2 Tn_6 Ti Tu Tv C_7 Z_8 q0_9 q1 q2 q3 q4_10 q5_11 ++ [(oa, .inl (cA 2, 1, .inr (.inl og)))])) H := tw_P wl_rot hP
  replace hD : va_D A (wM cA aa S LM ++ (wX cA xa ka ra na ia ua va ca za pa qa X_2 K_3 R_4 P L P2_5 L2 Tn_6 Ti Tu Tv C_7 Z_8 q0_9 q1 q2 q3 q4_10 q5_11 ++ [(oa, .inl (cA 2, 1, .inr (.inl og)))])) := tw_D wl_rot hD
  refine lw_ci (As := [.int w1]) (rest := []) hP hD hS hA hK hN ⟨hx, hb, hml, hown, hT⟩ (c_X8_text l G cA H.size aa S LM w1 r13 S_14 LM_15 hcm) (cwV 1 hT (tq_gV kw_22_7 kw_22_8 kw_22_9 kw_1_5 kw_22_10) rfl rfl rfl dkdV_yX8_text_1 ⟨Nat.le_of_ble_eq_true rfl, Nat.le_of_ble_eq_true rfl⟩) (wM_rec hK hP) rfl hl.1 rfl (lv_room (Nat.le_of_ble_eq_true rfl)) dL_law_283 hfit (fun _ _ H locs z9 hP hD hS => ?_)
  have z9 := z9.symm
  subst z9
  replace hP : va_P G vwCl (wX cA xa ka ra na ia ua va ca za pa qa X_2 K_3 R_4 P L P2_5 L2 Tn_6 Ti Tu Tv C_7 Z_8 q0_9 q1 q2 q3 q4_10 q5_11 ++ (wM cA aa S_14 LM_15 ++ [(oa, .inl (cA 2, 1, .inr (.inl og)))])) H := tw_P wl_rot hP
  replace hD : va_D A (wX cA xa ka ra na ia ua va ca za pa qa X_2 K_3 R_4 P L P2_5 L2 Tn_6 Ti Tu Tv C_7 Z_8 q0_9 q1 q2 q3 q4_10 q5_11 ++ (wM cA aa S_14 LM_15 ++ [(oa, .inl (cA 2, 1, .inr (.inl og)))])) := tw_D wl_rot hD
  refine lv_pop hx hb dL_law_286 rfl ?_
  refine lv_goto (tgt := 1217) hx hb dL_law_287 (by decide) ?_
  rcases (E_text hok jx hrel hcx hcm) with ⟨f0, f4, f5, fX, hr⟩ | ⟨f0, f4, f5, fX, hr⟩
  · exact hk H locs ls ⟨xa, ka, ra, na, ia, ua, va, ca, za, pa, qa, aa, X_2, K_3, R_4, P, L, P2_5, L2, Tn_6, Ti, Tu, Tv, C_7, Z_8, q0_9, q1, q2, q3, q4_10, q5_11, S_14, LM_15, og, rfl, rfl, ⟨hq12.1, hq12.2.1, hq12.2.2.1, bP, hq12.2.2.2.1, hq12.2.2.2.2.1, bTi, bTu, bTv, hq12.2.2.2.2.2.1, hq12.2.2.2.2.2.2.1, hq12.2.2.2.2.2.2.2.1, f0.trans e0, f4.trans e4, f5, fun hz => e1 (fun h9 => hz ((congrFun (congrFun fX 0) 4).trans h9))⟩, hq16.1, hr, hP, hD⟩ hS hl
  · exact hk H locs ls ⟨xa, ka, ra, na, ia, ua, va, ca, za, qa, pa, aa, X_2, K_3, R_4, P2_5, L2, P, L, Tn_6, Ti, Tu, Tv, C_7, Z_8, q0_9, q1, q2, q3, q4_10, q5_11, S_14, LM_15, og, rfl, rfl, ⟨hq12.1, hq12.2.1, hq12.2.2.1, hq12.2.2.2.1, bP, hq12.2.2.2.2.1, bTi, bTu, bTv, hq12.2.2.2.2.2.1, hq12.2.2.2.2.2.2.1, hq12.2.2.2.2.2.2.2.1, f0, f4, f5.trans e4, fun hz => absurd fX hz⟩, hq16.1, hr, tw_P (wX_sw.append_right _) hP, tw_D (wX_sw.append_right _) hD⟩ hS hl
set_option maxHeartbeats 4000000 in
set_option maxRecDepth 100000 in
theorem lc_2 {p : Program} {e : Env} {s : State} {m : MethodId} {below : List Frame} {meth : Method} {c : Code} (l : Launch) {b Ln : Nat} {xs : Nat → Int32} (C0 : lw_At p s m meth c b Ln xs) (G : va_G) (cA : Nat → ClassId) {A : Nat → Prop} (hAe : A = fun q : Nat => s.heap.size ≤ q) (hK : va_K G vwCl (tyL cA) s) (hN : tqN s) {bA : Nat} (hB : tqB bA A s s.heap) {H : Heap} {locs : List Loc} {ls : Array Slot} {kc ks : Nat} (hfit : kc ≤ 601024 ∧ ks ≤ 7293034) {i : Int32} (hi : 0 ≤ i.toInt ∧ i.toInt + 6 ≤ (Ln : Int)) (hLn : Ln ≤ 3072) {x0 mm oa : Nat} (hI : lwP G cA A x0 mm oa H) (hS : va_S A s.heap H locs) (hl : lv_has ls 7 [(4, .int i), (3, .ref oa), (2, .ref mm), (1, .ref x0), (0, .ref b)]) (hk : (∀ (H : Heap) (locs : List Loc) (ls : Array Slot), lwP G cA A x0 mm oa H → va_S A s.heap H locs → lv_has ls 7 [(4, .int i), (3, .ref oa), (2, .ref mm), (1, .ref x0), (0, .ref b)] → W p l e room_1 s m #[Value.ref b] below meth c H locs kc ks (lw_Z below #[Value.ref b] s) (F0 m 1217 ls []))) : W p l e room_1 s m #[Value.ref b] below meth c H locs kc ks (lw_Z below #[Value.ref b] s) (F0 m 290 ls []) := by
  obtain ⟨hx, hb, hr, hml, hown, hts, hX, hbl, hlocks, hgv⟩ := id C0
  have hT : ∀ v ∈ T0, v.before #[Value.ref b] s = true := fun v h => hts v (tq_law_in v h)
  have hown : s.vm.findClass RL = some m.cls := hown
  have hA : ∀ q : Nat, s.heap.size ≤ q → A q := fun q h => by rw [hAe]; exact h
  have hbA : ¬ A b := by rw [hAe]; exact Nat.not_le.mpr hbl
  obtain ⟨xa, ka, ra, na, ia, ua, va, ca, za, pa, qa, aa, X, K, R, P, L, P2, L2, Tn, Ti, Tu, Tv, C, Z, q0, q1, q2, q3, q4, q5, S, LM, og, rfl, rfl, hok, jx, hrel, hP, hD⟩ := hI
  obtain ⟨bX, bK, bR, bP, bP2, bTn, bTi, bTu, bTv, bC, bZ, dz, e0, e4, e5, e1⟩ := id hok
  obtain ⟨w1, hw1⟩ : ∃ z, xs (i + 1).toNatClampNeg = z := ⟨_, rfl⟩
  obtain ⟨w2, hw2⟩ : ∃ z, xs (i + 2).toNatClampNeg = z := ⟨_, rfl⟩
  obtain ⟨w3, hw3⟩ : ∃ z, xs (i + 3).toNatClampNeg = z := ⟨_, rfl⟩
  obtain ⟨w4, hw4⟩ : ∃ z, xs (i + 4).toNatClampNeg = z := ⟨_, rfl⟩
  obtain ⟨w5, hw5⟩ : ∃ z, xs (i + 5).toNatClampNeg = z := ⟨_, rfl⟩
  refine lv_aload_n hx hb dL_law_290 rfl (lv_at hl 3 rfl) ?_
  refine lv_aload_n hx hb dL_law_291 rfl (lv_at hl 4 rfl) ?_
  refine lv_iload hx hb dL_law_292 (lv_at hl 0 rfl) ?_
  refine lv_iconst (v := 1) hx hb dL_law_294 (by decide) ?_
  refine lv_iadd hx hb dL_law_295 ?_
  refine va_sld (i := i + 1) hx hb hX hbl hbA hS (lw_in hi (by decide)) dL_law_296 ?_
  refine tq_i (w := w1) hw1 ?_
  obtain ⟨r1, hcx, hq2⟩ := (t_X7_fault pa qa R w1 bR)
  refine lw_ci (As := [.int w1]) (rest := []) hP hD hS hA hK hN ⟨hx, hb, hml, hown, hT⟩ (c_X7_fault l G cA H.size xa ka ra na ia ua va ca za pa qa X K R P L P2 L2 Tn Ti Tu Tv C Z q0 q1 q2 q3 q4 q5 w1 r1 hcx) (cwV 1 hT (tq_gV kw_27_13 kw_27_14 kw_27_15 kw_1_2 kw_27_16) rfl rfl rfl dkdV_yX7_fault_1 ⟨Nat.le_of_ble_eq_true rfl, Nat.le_of_ble_eq_true rfl⟩) (wX_rec hK hP) rfl hl.1 rfl (lv_room (Nat.le_of_ble_eq_true rfl)) dL_law_297 hfit (fun _ _ H locs z9 hP hD hS => ?_)
  have z9 := z9.symm
  subst z9
  refine lv_pop hx hb dL_law_300 rfl ?_
  refine lv_aload_n hx hb dL_law_301 rfl (lv_at hl 2 rfl) ?_
  refine lv_aload_n hx hb dL_law_302 rfl (lv_at hl 4 rfl) ?_
  refine lv_iload hx hb dL_law_303 (lv_at hl 0 rfl) ?_
  refine lv_iconst (v := 1) hx hb dL_law_305 (by decide) ?_
  refine lv_iadd hx hb dL_law_306 ?_
  refine va_sld (i := i + 1) hx hb hX hbl hbA hS (lw_in hi (by decide)) dL_law_307 ?_
  refine tq_i (w := w1) hw1 ?_
  obtain ⟨⟨r3, S_4⟩, hcm, hq5⟩ := (Q_fault S w1 jx)
  replace hP : va_P G vwCl (wM cA aa S LM ++ (wX cA xa ka ra na ia ua va ca za pa qa X K R P L P2 L2 Tn Ti Tu Tv C Z q0 q1 q2 q3 q4 q5 ++ [(oa, .inl (cA 2, 1, .inr (.inl og)))])) H := tw_P wl_rot hP
  replace hD : va_D A (wM cA aa S LM ++ (wX cA xa ka ra na ia ua va ca za pa qa X K R P L P2 L2 Tn Ti Tu Tv C Z q0 q1 q2 q3 q4 q5 ++ [(oa, .inl (cA 2, 1, .inr (.inl og)))])) := tw_D wl_rot hD
  refine lw_ci (As := [.int w1]) (rest := []) hP hD hS hA hK hN ⟨hx, hb, hml, hown, hT⟩ (c_X8_fault l G cA H.size aa S LM w1 r3 S_4 hcm) (cwV 1 hT (tq_gV kw_27_19 kw_27_20 kw_27_21 kw_1_5 kw_27_22) rfl rfl rfl dkdV_yX8_fault_1 ⟨Nat.le_of_ble_eq_true rfl, Nat.le_of_ble_eq_true rfl⟩) (wM_rec hK hP) rfl hl.1 rfl (lv_room (Nat.le_of_ble_eq_true rfl)) dL_law_308 hfit (fun _ _ H locs z9 hP hD hS => ?_)
  have z9 := z9.symm
  subst z9
  replace hP : va_P G vwCl (wX cA xa ka ra na ia ua va ca za pa qa X K R P L P2 L2 Tn Ti Tu Tv C Z q0 q1 q2 q3 q4 q5 ++ (wM cA aa S_4 LM ++ [(oa, .inl (cA 2, 1, .inr (.inl og)))])) H := tw_P wl_rot hP
  replace hD : va_D A (wX cA xa ka ra na ia ua va ca za pa qa X K R P L P2 L2 Tn Ti Tu Tv C Z q0 q1 q2 q3 q4 q5 ++ (wM cA aa S_4 LM ++ [(oa, .inl (cA 2, 1, .inr (.inl og)))])) := tw_D wl_rot hD
  refine lv_pop hx hb dL_law_311 rfl ?_
  refine lv_goto (tgt := 1217) hx hb dL_law_312 (by decide) ?_
  exact hk H locs ls ⟨xa, ka, ra, na, ia, ua, va, ca, za, pa, qa, aa, X, K, R, P, L, P2, L2, Tn, Ti, Tu, Tv, C, Z, q0, q1, q2, q3, q4, q5, S_4, LM, og, rfl, rfl, ⟨bX, bK, bR, bP, bP2, bTn, bTi, bTu, bTv, bC, bZ, dz, e0, e4, e5, e1⟩, hq5.1, (E_fault hok jx hrel hcx hcm), hP, hD⟩ hS hl
set_option maxHeartbeats 4000000 in
set_option maxRecDepth 100000 in
theorem lc_3 {p : Program} {e : Env} {s : State} {m : MethodId} {below : List Frame} {meth : Method} {c : Code} (l : Launch) {b Ln : Nat} {xs : Nat → Int32} (C0 : lw_At p s m meth c b Ln xs) (G : va_G) (cA : Nat → ClassId) {A : Nat → Prop} (hAe : A = fun q : Nat => s.heap.size ≤ q) (hK : va_K G vwCl (tyL cA) s) (hN : tqN s) {bA : Nat} (hB : tqB bA A s s.heap) {H : Heap} {locs : List Loc} {ls : Array Slot} {kc ks : Nat} (hfit : kc ≤ 601024 ∧ ks ≤ 7293034) {i : Int32} (hi : 0 ≤ i.toInt ∧ i.toInt + 6 ≤ (Ln : Int)) (hLn : Ln ≤ 3072) {x0 mm oa : Nat} (hI : lwP G cA A x0 mm oa H) (hS : va_S A s.heap H locs) (hl : lv_has ls 7 [(4, .int i), (3, .ref oa), (2, .ref mm), (1, .ref x0), (0, .ref b)]) (hk : (∀ (H : Heap) (locs : List Loc) (ls : Array Slot), lwP G cA A x0 mm oa H → va_S A s.heap H locs → lv_has ls 7 [(4, .int i), (3, .ref oa), (2, .ref mm), (1, .ref x0), (0, .ref b)] → W p l e room_1 s m #[Value.ref b] below meth c H locs kc ks (lw_Z below #[Value.ref b] s) (F0 m 1217 ls []))) : W p l e room_1 s m #[Value.ref b] below meth c H locs kc ks (lw_Z below #[Value.ref b] s) (F0 m 315 ls []) := by
  obtain ⟨hx, hb, hr, hml, hown, hts, hX, hbl, hlocks, hgv⟩ := id C0
  have hT : ∀ v ∈ T0, v.before #[Value.ref b] s = true := fun v h => hts v (tq_law_in v h)
  have hown : s.vm.findClass RL = some m.cls := hown
  have hA : ∀ q : Nat, s.heap.size ≤ q → A q := fun q h => by rw [hAe]; exact h
  have hbA : ¬ A b := by rw [hAe]; exact Nat.not_le.mpr hbl
  obtain ⟨xa, ka, ra, na, ia, ua, va, ca, za, pa, qa, aa, X, K, R, P, L, P2, L2, Tn, Ti, Tu, Tv, C, Z, q0, q1, q2, q3, q4, q5, S, LM, og, rfl, rfl, hok, jx, hrel, hP, hD⟩ := hI
  obtain ⟨bX, bK, bR, bP, bP2, bTn, bTi, bTu, bTv, bC, bZ, dz, e0, e4, e5, e1⟩ := id hok
  obtain ⟨w1, hw1⟩ : ∃ z, xs (i + 1).toNatClampNeg = z := ⟨_, rfl⟩
  obtain ⟨w2, hw2⟩ : ∃ z, xs (i + 2).toNatClampNeg = z := ⟨_, rfl⟩
  obtain ⟨w3, hw3⟩ : ∃ z, xs (i + 3).toNatClampNeg = z := ⟨_, rfl⟩
  obtain ⟨w4, hw4⟩ : ∃ z, xs (i + 4).toNatClampNeg = z := ⟨_, rfl⟩
  obtain ⟨w5, hw5⟩ : ∃ z, xs (i + 5).toNatClampNeg = z := ⟨_, rfl⟩
  refine lv_aload_n hx hb dL_law_315 rfl (lv_at hl 3 rfl) ?_
  refine lv_aload_n hx hb dL_law_316 rfl (lv_at hl 4 rfl) ?_
  refine lv_iload hx hb dL_law_317 (lv_at hl 0 rfl) ?_
  refine lv_iconst (v := 1) hx hb dL_law_319 (by decide) ?_
  refine lv_iadd hx hb dL_law_320 ?_
  refine va_sld (i := i + 1) hx hb hX hbl hbA hS (lw_in hi (by decide)) dL_law_321 ?_
  refine tq_i (w := w1) hw1 ?_
  obtain ⟨r1, hcx, hq2⟩ := (t_X7_named pa qa P q4 w1 bP e4)
  refine lw_ci (As := [.int w1]) (rest := []) hP hD hS hA hK hN ⟨hx, hb, hml, hown, hT⟩ (c_X7_named l G cA H.size xa ka ra na ia ua va ca za pa qa X K R P L P2 L2 Tn Ti Tu Tv C Z q0 q1 q2 q3 q4 q5 w1 r1 hcx) (cwV 1 hT (tq_gV kw_27_23 kw_28_0 kw_28_1 kw_1_2 kw_28_2) rfl rfl rfl dkdV_yX7_named_1 ⟨Nat.le_of_ble_eq_true rfl, Nat.le_of_ble_eq_true rfl⟩) (wX_rec hK hP) rfl hl.1 rfl (lv_room (Nat.le_of_ble_eq_true rfl)) dL_law_322 hfit (fun _ _ H locs z9 hP hD hS => ?_)
  have z9 := z9.symm
  subst z9
  refine lv_pop hx hb dL_law_325 rfl ?_
  refine lv_aload_n hx hb dL_law_326 rfl (lv_at hl 2 rfl) ?_
  refine lv_aload_n hx hb dL_law_327 rfl (lv_at hl 4 rfl) ?_
  refine lv_iload hx hb dL_law_328 (lv_at hl 0 rfl) ?_
  refine lv_iconst (v := 1) hx hb dL_law_330 (by decide) ?_
  refine lv_iadd hx hb dL_law_331 ?_
  refine va_sld (i := i + 1) hx hb hX hbl hbA hS (lw_in hi (by decide)) dL_law_332 ?_
  refine tq_i (w := w1) hw1 ?_
  obtain ⟨⟨r3, S_4⟩, hcm, hq5⟩ := (Q_named S w1 jx)
  replace hP : va_P G vwCl (wM cA aa S LM ++ (wX cA xa ka ra na ia ua va ca za pa qa X K R P L P2 L2 Tn Ti Tu Tv C Z q0 q1 q2 q3 q4 q5 ++ [(oa, .inl (cA 2, 1, .inr (.inl og)))])) H := tw_P wl_rot hP
  replace hD : va_D A (wM cA aa S LM ++ (wX cA xa ka ra na ia ua va ca za pa qa X K R P L P2 L2 Tn Ti Tu Tv C Z q0 q1 q2 q3 q4 q5 ++ [(oa, .inl (cA 2, 1, .inr (.inl og)))])) := tw_D wl_rot hD
  refine lw_ci (As := [.int w1]) (rest := []) hP hD hS hA hK hN ⟨hx, hb, hml, hown, hT⟩ (c_X8_named l G cA H.size aa S LM w1 r3 S_4 hcm) (cwV 1 hT (tq_gV kw_28_4 kw_28_5 kw_28_6 kw_1_5 kw_28_7) rfl rfl rfl dkdV_yX8_named_1 ⟨Nat.le_of_ble_eq_true rfl, Nat.le_of_ble_eq_true rfl⟩) (wM_rec hK hP) rfl hl.1 rfl (lv_room (Nat.le_of_ble_eq_true rfl)) dL_law_333 hfit (fun _ _ H locs z9 hP hD hS => ?_)
  have z9 := z9.symm
  subst z9
  replace hP : va_P G vwCl (wX cA xa ka ra na ia ua va ca za pa qa X K R P L P2 L2 Tn Ti Tu Tv C Z q0 q1 q2 q3 q4 q5 ++ (wM cA aa S_4 LM ++ [(oa, .inl (cA 2, 1, .inr (.inl og)))])) H := tw_P wl_rot hP
  replace hD : va_D A (wX cA xa ka ra na ia ua va ca za pa qa X K R P L P2 L2 Tn Ti Tu Tv C Z q0 q1 q2 q3 q4 q5 ++ (wM cA aa S_4 LM ++ [(oa, .inl (cA 2, 1, .inr (.inl og)))])) := tw_D wl_rot hD
  refine lv_pop hx hb dL_law_336 rfl ?_
  refine lv_goto (tgt := 1217) hx hb dL_law_337 (by decide) ?_
  exact hk H locs ls ⟨xa, ka, ra, na, ia, ua, va, ca, za, pa, qa, aa, X, K, R, P, L, P2, L2, Tn, Ti, Tu, Tv, C, Z, q0, q1, q2, q3, q4, q5, S_4, LM, og, rfl, rfl, ⟨bX, bK, bR, bP, bP2, bTn, bTi, bTu, bTv, bC, bZ, dz, e0, e4, e5, e1⟩, hq5.1, (E_named hok jx hrel hcx hcm), hP, hD⟩ hS hl
set_option maxHeartbeats 4000000 in
set_option maxRecDepth 100000 in
theorem lc_5 {p : Program} {e : Env} {s : State} {m : MethodId} {below : List Frame} {meth : Method} {c : Code} (l : Launch) {b Ln : Nat} {xs : Nat → Int32} (C0 : lw_At p s m meth c b Ln xs) (G : va_G) (cA : Nat → ClassId) {A : Nat → Prop} (hAe : A = fun q : Nat => s.heap.size ≤ q) (hK : va_K G vwCl (tyL cA) s) (hN : tqN s) {bA : Nat} (hB : tqB bA A s s.heap) {H : Heap} {locs : List Loc} {ls : Array Slot} {kc ks : Nat} (hfit : kc ≤ 601024 ∧ ks ≤ 7293034) {i : Int32} (hi : 0 ≤ i.toInt ∧ i.toInt + 6 ≤ (Ln : Int)) (hLn : Ln ≤ 3072) {x0 mm oa : Nat} (hI : lwP G cA A x0 mm oa H) (hS : va_S A s.heap H locs) (hl : lv_has ls 7 [(4, .int i), (3, .ref oa), (2, .ref mm), (1, .ref x0), (0, .ref b)]) (hk : (∀ (H : Heap) (locs : List Loc) (ls : Array Slot), lwP G cA A x0 mm oa H → va_S A s.heap H locs → lv_has ls 7 [(4, .int i), (3, .ref oa), (2, .ref mm), (1, .ref x0), (0, .ref b)] → W p l e room_1 s m #[Value.ref b] below meth c H locs kc ks (lw_Z below #[Value.ref b] s) (F0 m 1217 ls []))) : W p l e room_1 s m #[Value.ref b] below meth c H locs kc ks (lw_Z below #[Value.ref b] s) (F0 m 380 ls []) := by
  obtain ⟨hx, hb, hr, hml, hown, hts, hX, hbl, hlocks, hgv⟩ := id C0
  have hT : ∀ v ∈ T0, v.before #[Value.ref b] s = true := fun v h => hts v (tq_law_in v h)
  have hown : s.vm.findClass RL = some m.cls := hown
  have hA : ∀ q : Nat, s.heap.size ≤ q → A q := fun q h => by rw [hAe]; exact h
  have hbA : ¬ A b := by rw [hAe]; exact Nat.not_le.mpr hbl
  obtain ⟨xa, ka, ra, na, ia, ua, va, ca, za, pa, qa, aa, X, K, R, P, L, P2, L2, Tn, Ti, Tu, Tv, C, Z, q0, q1, q2, q3, q4, q5, S, LM, og, rfl, rfl, hok, jx, hrel, hP, hD⟩ := hI
  obtain ⟨bX, bK, bR, bP, bP2, bTn, bTi, bTu, bTv, bC, bZ, dz, e0, e4, e5, e1⟩ := id hok
  obtain ⟨w1, hw1⟩ : ∃ z, xs (i + 1).toNatClampNeg = z := ⟨_, rfl⟩
  obtain ⟨w2, hw2⟩ : ∃ z, xs (i + 2).toNatClampNeg = z := ⟨_, rfl⟩
  obtain ⟨w3, hw3⟩ : ∃ z, xs (i + 3).toNatClampNeg = z := ⟨_, rfl⟩
  obtain ⟨w4, hw4⟩ : ∃ z, xs (i + 4).toNatClampNeg = z := ⟨_, rfl⟩
  obtain ⟨w5, hw5⟩ : ∃ z, xs (i + 5).toNatClampNeg = z := ⟨_, rfl⟩
  refine lv_aload_n hx hb dL_law_380 rfl (lv_at hl 3 rfl) ?_
  refine lv_aload_n hx hb dL_law_381 rfl (lv_at hl 4 rfl) ?_
  refine lv_iload hx hb dL_law_382 (lv_at hl 0 rfl) ?_
  refine lv_iconst (v := 1) hx hb dL_law_384 (by decide) ?_
  refine lv_iadd hx hb dL_law_385 ?_
  refine va_sld (i := i + 1) hx hb hX hbl hbA hS (lw_in hi (by decide)) dL_law_386 ?_
  refine tq_i (w := w1) hw1 ?_
  refine lv_aload_n hx hb dL_law_387 rfl (lv_at hl 4 rfl) ?_
  refine lv_iload hx hb dL_law_388 (lv_at hl 0 rfl) ?_
  refine lv_iconst (v := 2) hx hb dL_law_390 (by decide) ?_
  refine lv_iadd hx hb dL_law_391 ?_
  refine va_sld (i := i + 2) hx hb hX hbl hbA hS (lw_in hi (by decide)) dL_law_392 ?_
  refine tq_i (w := w2) hw2 ?_
  obtain ⟨r1, hcx, hq2⟩ := (t_X7_piece pa qa P Tn q0 q4 w1 w2 bP bTn e0 e4)
  refine lw_ci (As := [.int w1, .int w2]) (rest := []) hP hD hS hA hK hN ⟨hx, hb, hml, hown, hT⟩ (c_X7_piece l G cA H.size xa ka ra na ia ua va ca za pa qa X K R P L P2 L2 Tn Ti Tu Tv C Z q0 q1 q2 q3 q4 q5 w1 w2 r1 hcx) (cwV 2 hT (tq_gV kw_29_20 kw_29_21 kw_29_22 kw_1_2 kw_29_23) rfl rfl rfl dkdV_yX7_piece_2 ⟨Nat.le_of_ble_eq_true rfl, Nat.le_of_ble_eq_true rfl⟩) (wX_rec hK hP) rfl hl.1 rfl (lv_room (Nat.le_of_ble_eq_true rfl)) dL_law_393 hfit (fun _ _ H locs z9 hP hD hS => ?_)
  have z9 := z9.symm
  subst z9
  refine lv_pop hx hb dL_law_396 rfl ?_
  refine lv_aload_n hx hb dL_law_397 rfl (lv_at hl 2 rfl) ?_
  refine lv_aload_n hx hb dL_law_398 rfl (lv_at hl 4 rfl) ?_
  refine lv_iload hx hb dL_law_399 (lv_at hl 0 rfl) ?_
  refine lv_iconst (v := 1) hx hb dL_law_401 (by decide) ?_
  refine lv_iadd hx hb dL_law_402 ?_
  refine va_sld (i := i + 1) hx hb hX hbl hbA hS (lw_in hi (by decide)) dL_law_403 ?_
  refine tq_i (w := w1) hw1 ?_
  refine lv_aload_n hx hb dL_law_404 rfl (lv_at hl 4 rfl) ?_
  refine lv_iload hx hb dL_law_405 (lv_at hl 0 rfl) ?_
  refine lv_iconst (v := 2) hx hb dL_law_407 (by decide) ?_
  refine lv_iadd hx hb dL_law_408 ?_
  refine va_sld (i := i + 2) hx hb hX hbl hbA hS (lw_in hi (by decide)) dL_law_409 ?_
  refine tq_i (w := w2) hw2 ?_
  obtain ⟨⟨r3, S_4⟩, hcm, hq5⟩ := (Q_piece S w1 w2 jx)
  replace hP : va_P G vwCl (wM cA aa S LM ++ (wX cA xa ka ra na ia ua va ca za pa qa X K R P L P2 L2 Tn Ti Tu Tv C Z q0 q1 q2 q3 q4 q5 ++ [(oa, .inl (cA 2, 1, .inr (.inl og)))])) H := tw_P wl_rot hP
  replace hD : va_D A (wM cA aa S LM ++ (wX cA xa ka ra na ia ua va ca za pa qa X K R P L P2 L2 Tn Ti Tu Tv C Z q0 q1 q2 q3 q4 q5 ++ [(oa, .inl (cA 2, 1, .inr (.inl og)))])) := tw_D wl_rot hD
  refine lw_ci (As := [.int w1, .int w2]) (rest := []) hP hD hS hA hK hN ⟨hx, hb, hml, hown, hT⟩ (c_X8_piece l G cA H.size aa S LM w1 w2 r3 S_4 hcm) (cwV 2 hT (tq_gV kw_30_18 kw_30_19 kw_30_20 kw_1_5 kw_30_21) rfl rfl rfl dkdV_yX8_piece_2 ⟨Nat.le_of_ble_eq_true rfl, Nat.le_of_ble_eq_true rfl⟩) (wM_rec hK hP) rfl hl.1 rfl (lv_room (Nat.le_of_ble_eq_true rfl)) dL_law_410 hfit (fun _ _ H locs z9 hP hD hS => ?_)
  have z9 := z9.symm
  subst z9
  replace hP : va_P G vwCl (wX cA xa ka ra na ia ua va ca za pa qa X K R P L P2 L2 Tn Ti Tu Tv C Z q0 q1 q2 q3 q4 q5 ++ (wM cA aa S_4 LM ++ [(oa, .inl (cA 2, 1, .inr (.inl og)))])) H := tw_P wl_rot hP
  replace hD : va_D A (wX cA xa ka ra na ia ua va ca za pa qa X K R P L P2 L2 Tn Ti Tu Tv C Z q0 q1 q2 q3 q4 q5 ++ (wM cA aa S_4 LM ++ [(oa, .inl (cA 2, 1, .inr (.inl og)))])) := tw_D wl_rot hD
  refine lv_pop hx hb dL_law_413 rfl ?_
  refine lv_goto (tgt := 1217) hx hb dL_law_414 (by decide) ?_
  exact hk H locs ls ⟨xa, ka, ra, na, ia, ua, va, ca, za, pa, qa, aa, X, K, R, P, L, P2, L2, Tn, Ti, Tu, Tv, C, Z, q0, q1, q2, q3, q4, q5, S_4, LM, og, rfl, rfl, ⟨bX, bK, bR, bP, bP2, bTn, bTi, bTu, bTv, bC, bZ, dz, e0, e4, e5, e1⟩, hq5.1, (E_piece hok jx hrel hcx hcm), hP, hD⟩ hS hl
set_option maxHeartbeats 4000000 in
set_option maxRecDepth 100000 in
theorem lc_6 {p : Program} {e : Env} {s : State} {m : MethodId} {below : List Frame} {meth : Method} {c : Code} (l : Launch) {b Ln : Nat} {xs : Nat → Int32} (C0 : lw_At p s m meth c b Ln xs) (G : va_G) (cA : Nat → ClassId) {A : Nat → Prop} (hAe : A = fun q : Nat => s.heap.size ≤ q) (hK : va_K G vwCl (tyL cA) s) (hN : tqN s) {bA : Nat} (hB : tqB bA A s s.heap) {H : Heap} {locs : List Loc} {ls : Array Slot} {kc ks : Nat} (hfit : kc ≤ 601024 ∧ ks ≤ 7293034) {i : Int32} (hi : 0 ≤ i.toInt ∧ i.toInt + 6 ≤ (Ln : Int)) (hLn : Ln ≤ 3072) {x0 mm oa : Nat} (hI : lwP G cA A x0 mm oa H) (hS : va_S A s.heap H locs) (hl : lv_has ls 7 [(4, .int i), (3, .ref oa), (2, .ref mm), (1, .ref x0), (0, .ref b)]) (hk : (∀ (H : Heap) (locs : List Loc) (ls : Array Slot), lwP G cA A x0 mm oa H → va_S A s.heap H locs → lv_has ls 7 [(4, .int i), (3, .ref oa), (2, .ref mm), (1, .ref x0), (0, .ref b)] → W p l e room_1 s m #[Value.ref b] below meth c H locs kc ks (lw_Z below #[Value.ref b] s) (F0 m 1217 ls []))) : W p l e room_1 s m #[Value.ref b] below meth c H locs kc ks (lw_Z below #[Value.ref b] s) (F0 m 417 ls []) := by
  obtain ⟨hx, hb, hr, hml, hown, hts, hX, hbl, hlocks, hgv⟩ := id C0
  have hT : ∀ v ∈ T0, v.before #[Value.ref b] s = true := fun v h => hts v (tq_law_in v h)
  have hown : s.vm.findClass RL = some m.cls := hown
  have hA : ∀ q : Nat, s.heap.size ≤ q → A q := fun q h => by rw [hAe]; exact h
  have hbA : ¬ A b := by rw [hAe]; exact Nat.not_le.mpr hbl
  obtain ⟨xa, ka, ra, na, ia, ua, va, ca, za, pa, qa, aa, X, K, R, P, L, P2, L2, Tn, Ti, Tu, Tv, C, Z, q0, q1, q2, q3, q4, q5, S, LM, og, rfl, rfl, hok, jx, hrel, hP, hD⟩ := hI
  obtain ⟨bX, bK, bR, bP, bP2, bTn, bTi, bTu, bTv, bC, bZ, dz, e0, e4, e5, e1⟩ := id hok
  obtain ⟨w1, hw1⟩ : ∃ z, xs (i + 1).toNatClampNeg = z := ⟨_, rfl⟩
  obtain ⟨w2, hw2⟩ : ∃ z, xs (i + 2).toNatClampNeg = z := ⟨_, rfl⟩
  obtain ⟨w3, hw3⟩ : ∃ z, xs (i + 3).toNatClampNeg = z := ⟨_, rfl⟩
  obtain ⟨w4, hw4⟩ : ∃ z, xs (i + 4).toNatClampNeg = z := ⟨_, rfl⟩
  obtain ⟨w5, hw5⟩ : ∃ z, xs (i + 5).toNatClampNeg = z := ⟨_, rfl⟩
  refine lv_aload_n hx hb dL_law_417 rfl (lv_at hl 3 rfl) ?_
  refine lv_aload_n hx hb dL_law_418 rfl (lv_at hl 4 rfl) ?_
  refine lv_iload hx hb dL_law_419 (lv_at hl 0 rfl) ?_
  refine lv_iconst (v := 1) hx hb dL_law_421 (by decide) ?_
  refine lv_iadd hx hb dL_law_422 ?_
  refine va_sld (i := i + 1) hx hb hX hbl hbA hS (lw_in hi (by decide)) dL_law_423 ?_
  refine tq_i (w := w1) hw1 ?_
  refine lv_aload_n hx hb dL_law_424 rfl (lv_at hl 4 rfl) ?_
  refine lv_iload hx hb dL_law_425 (lv_at hl 0 rfl) ?_
  refine lv_iconst (v := 2) hx hb dL_law_427 (by decide) ?_
  refine lv_iadd hx hb dL_law_428 ?_
  refine va_sld (i := i + 2) hx hb hX hbl hbA hS (lw_in hi (by decide)) dL_law_429 ?_
  refine tq_i (w := w2) hw2 ?_
  obtain ⟨r1, hcx, hq2⟩ := (t_X7_place pa qa P Tn q0 q4 w1 w2 bP bTn e0 e4)
  refine lw_ci (As := [.int w1, .int w2]) (rest := []) hP hD hS hA hK hN ⟨hx, hb, hml, hown, hT⟩ (c_X7_place l G cA H.size xa ka ra na ia ua va ca za pa qa X K R P L P2 L2 Tn Ti Tu Tv C Z q0 q1 q2 q3 q4 q5 w1 w2 r1 hcx) (cwV 2 hT (tq_gV kw_31_14 kw_31_15 kw_31_16 kw_1_2 kw_31_17) rfl rfl rfl dkdV_yX7_place_2 ⟨Nat.le_of_ble_eq_true rfl, Nat.le_of_ble_eq_true rfl⟩) (wX_rec hK hP) rfl hl.1 rfl (lv_room (Nat.le_of_ble_eq_true rfl)) dL_law_430 hfit (fun _ _ H locs z9 hP hD hS => ?_)
  have z9 := z9.symm
  subst z9
  refine lv_pop hx hb dL_law_433 rfl ?_
  refine lv_aload_n hx hb dL_law_434 rfl (lv_at hl 2 rfl) ?_
  refine lv_aload_n hx hb dL_law_435 rfl (lv_at hl 4 rfl) ?_
  refine lv_iload hx hb dL_law_436 (lv_at hl 0 rfl) ?_
  refine lv_iconst (v := 1) hx hb dL_law_438 (by decide) ?_
  refine lv_iadd hx hb dL_law_439 ?_
  refine va_sld (i := i + 1) hx hb hX hbl hbA hS (lw_in hi (by decide)) dL_law_440 ?_
  refine tq_i (w := w1) hw1 ?_
  refine lv_aload_n hx hb dL_law_441 rfl (lv_at hl 4 rfl) ?_
  refine lv_iload hx hb dL_law_442 (lv_at hl 0 rfl) ?_
  refine lv_iconst (v := 2) hx hb dL_law_444 (by decide) ?_
  refine lv_iadd hx hb dL_law_445 ?_
  refine va_sld (i := i + 2) hx hb hX hbl hbA hS (lw_in hi (by decide)) dL_law_446 ?_
  refine tq_i (w := w2) hw2 ?_
  obtain ⟨⟨r3, S_4⟩, hcm, hq5⟩ := (Q_place S w1 w2 jx)
  replace hP : va_P G vwCl (wM cA aa S LM ++ (wX cA xa ka ra na ia ua va ca za pa qa X K R P L P2 L2 Tn Ti Tu Tv C Z q0 q1 q2 q3 q4 q5 ++ [(oa, .inl (cA 2, 1, .inr (.inl og)))])) H := tw_P wl_rot hP
  replace hD : va_D A (wM cA aa S LM ++ (wX cA xa ka ra na ia ua va ca za pa qa X K R P L P2 L2 Tn Ti Tu Tv C Z q0 q1 q2 q3 q4 q5 ++ [(oa, .inl (cA 2, 1, .inr (.inl og)))])) := tw_D wl_rot hD
  refine lw_ci (As := [.int w1, .int w2]) (rest := []) hP hD hS hA hK hN ⟨hx, hb, hml, hown, hT⟩ (c_X8_place l G cA H.size aa S LM w1 w2 r3 S_4 hcm) (cwV 2 hT (tq_gV kw_32_7 kw_32_8 kw_32_9 kw_1_5 kw_32_10) rfl rfl rfl dkdV_yX8_place_2 ⟨Nat.le_of_ble_eq_true rfl, Nat.le_of_ble_eq_true rfl⟩) (wM_rec hK hP) rfl hl.1 rfl (lv_room (Nat.le_of_ble_eq_true rfl)) dL_law_447 hfit (fun _ _ H locs z9 hP hD hS => ?_)
  have z9 := z9.symm
  subst z9
  replace hP : va_P G vwCl (wX cA xa ka ra na ia ua va ca za pa qa X K R P L P2 L2 Tn Ti Tu Tv C Z q0 q1 q2 q3 q4 q5 ++ (wM cA aa S_4 LM ++ [(oa, .inl (cA 2, 1, .inr (.inl og)))])) H := tw_P wl_rot hP
  replace hD : va_D A (wX cA xa ka ra na ia ua va ca za pa qa X K R P L P2 L2 Tn Ti Tu Tv C Z q0 q1 q2 q3 q4 q5 ++ (wM cA aa S_4 LM ++ [(oa, .inl (cA 2, 1, .inr (.inl og)))])) := tw_D wl_rot hD
  refine lv_pop hx hb dL_law_450 rfl ?_
  refine lv_goto (tgt := 1217) hx hb dL_law_451 (by decide) ?_
  exact hk H locs ls ⟨xa, ka, ra, na, ia, ua, va, ca, za, pa, qa, aa, X, K, R, P, L, P2, L2, Tn, Ti, Tu, Tv, C, Z, q0, q1, q2, q3, q4, q5, S_4, LM, og, rfl, rfl, ⟨bX, bK, bR, bP, bP2, bTn, bTi, bTu, bTv, bC, bZ, dz, e0, e4, e5, e1⟩, hq5.1, (E_place hok jx hrel hcx hcm), hP, hD⟩ hS hl
set_option maxHeartbeats 4000000 in
set_option maxRecDepth 100000 in
theorem lc_7 {p : Program} {e : Env} {s : State} {m : MethodId} {below : List Frame} {meth : Method} {c : Code} (l : Launch) {b Ln : Nat} {xs : Nat → Int32} (C0 : lw_At p s m meth c b Ln xs) (G : va_G) (cA : Nat → ClassId) {A : Nat → Prop} (hAe : A = fun q : Nat => s.heap.size ≤ q) (hK : va_K G vwCl (tyL cA) s) (hN : tqN s) {bA : Nat} (hB : tqB bA A s s.heap) {H : Heap} {locs : List Loc} {ls : Array Slot} {kc ks : Nat} (hfit : kc ≤ 601024 ∧ ks ≤ 7293034) {i : Int32} (hi : 0 ≤ i.toInt ∧ i.toInt + 6 ≤ (Ln : Int)) (hLn : Ln ≤ 3072) {x0 mm oa : Nat} (hI : lwP G cA A x0 mm oa H) (hS : va_S A s.heap H locs) (hl : lv_has ls 7 [(4, .int i), (3, .ref oa), (2, .ref mm), (1, .ref x0), (0, .ref b)]) (hk : (∀ (H : Heap) (locs : List Loc) (ls : Array Slot), lwP G cA A x0 mm oa H → va_S A s.heap H locs → lv_has ls 7 [(4, .int i), (3, .ref oa), (2, .ref mm), (1, .ref x0), (0, .ref b)] → W p l e room_1 s m #[Value.ref b] below meth c H locs kc ks (lw_Z below #[Value.ref b] s) (F0 m 1217 ls []))) : W p l e room_1 s m #[Value.ref b] below meth c H locs kc ks (lw_Z below #[Value.ref b] s) (F0 m 454 ls []) := by
  obtain ⟨hx, hb, hr, hml, hown, hts, hX, hbl, hlocks, hgv⟩ := id C0
  have hT : ∀ v ∈ T0, v.before #[Value.ref b] s = true := fun v h => hts v (tq_law_in v h)
  have hown : s.vm.findClass RL = some m.cls := hown
  have hA : ∀ q : Nat, s.heap.size ≤ q → A q := fun q h => by rw [hAe]; exact h
  have hbA : ¬ A b := by rw [hAe]; exact Nat.not_le.mpr hbl
  obtain ⟨xa, ka, ra, na, ia, ua, va, ca, za, pa, qa, aa, X, K, R, P, L, P2, L2, Tn, Ti, Tu, Tv, C, Z, q0, q1, q2, q3, q4, q5, S, LM, og, rfl, rfl, hok, jx, hrel, hP, hD⟩ := hI
  obtain ⟨bX, bK, bR, bP, bP2, bTn, bTi, bTu, bTv, bC, bZ, dz, e0, e4, e5, e1⟩ := id hok
  obtain ⟨w1, hw1⟩ : ∃ z, xs (i + 1).toNatClampNeg = z := ⟨_, rfl⟩
  obtain ⟨w2, hw2⟩ : ∃ z, xs (i + 2).toNatClampNeg = z := ⟨_, rfl⟩
  obtain ⟨w3, hw3⟩ : ∃ z, xs (i + 3).toNatClampNeg = z := ⟨_, rfl⟩
  obtain ⟨w4, hw4⟩ : ∃ z, xs (i + 4).toNatClampNeg = z := ⟨_, rfl⟩
  obtain ⟨w5, hw5⟩ : ∃ z, xs (i + 5).toNatClampNeg = z := ⟨_, rfl⟩
  refine lv_aload_n hx hb dL_law_454 rfl (lv_at hl 3 rfl) ?_
  refine lv_aload_n hx hb dL_law_455 rfl (lv_at hl 4 rfl) ?_
  refine lv_iload hx hb dL_law_456 (lv_at hl 0 rfl) ?_
  refine lv_iconst (v := 1) hx hb dL_law_458 (by decide) ?_
  refine lv_iadd hx hb dL_law_459 ?_
  refine va_sld (i := i + 1) hx hb hX hbl hbA hS (lw_in hi (by decide)) dL_law_460 ?_
  refine tq_i (w := w1) hw1 ?_
  obtain ⟨r1, hcx, hq2⟩ := (t_X7_waits pa qa P q4 w1 bP e4)
  refine lw_ci (As := [.int w1]) (rest := []) hP hD hS hA hK hN ⟨hx, hb, hml, hown, hT⟩ (c_X7_waits l G cA H.size xa ka ra na ia ua va ca za pa qa X K R P L P2 L2 Tn Ti Tu Tv C Z q0 q1 q2 q3 q4 q5 w1 r1 hcx) (cwV 1 hT (tq_gV kw_32_19 kw_32_20 kw_32_21 kw_1_2 kw_32_22) rfl rfl rfl dkdV_yX7_waits_1 ⟨Nat.le_of_ble_eq_true rfl, Nat.le_of_ble_eq_true rfl⟩) (wX_rec hK hP) rfl hl.1 rfl (lv_room (Nat.le_of_ble_eq_true rfl)) dL_law_461 hfit (fun _ _ H locs z9 hP hD hS => ?_)
  have z9 := z9.symm
  subst z9
  refine lv_pop hx hb dL_law_464 rfl ?_
  refine lv_aload_n hx hb dL_law_465 rfl (lv_at hl 2 rfl) ?_
  refine lv_aload_n hx hb dL_law_466 rfl (lv_at hl 4 rfl) ?_
  refine lv_iload hx hb dL_law_467 (lv_at hl 0 rfl) ?_
  refine lv_iconst (v := 1) hx hb dL_law_469 (by decide) ?_
  refine lv_iadd hx hb dL_law_470 ?_
  refine va_sld (i := i + 1) hx hb hX hbl hbA hS (lw_in hi (by decide)) dL_law_471 ?_
  refine tq_i (w := w1) hw1 ?_
  obtain ⟨⟨r3, S_4⟩, hcm, hq5⟩ := (Q_waits S w1 jx)
  replace hP : va_P G vwCl (wM cA aa S LM ++ (wX cA xa ka ra na ia ua va ca za pa qa X K R P L P2 L2 Tn Ti Tu Tv C Z q0 q1 q2 q3 q4 q5 ++ [(oa, .inl (cA 2, 1, .inr (.inl og)))])) H := tw_P wl_rot hP
  replace hD : va_D A (wM cA aa S LM ++ (wX cA xa ka ra na ia ua va ca za pa qa X K R P L P2 L2 Tn Ti Tu Tv C Z q0 q1 q2 q3 q4 q5 ++ [(oa, .inl (cA 2, 1, .inr (.inl og)))])) := tw_D wl_rot hD
  refine lw_ci (As := [.int w1]) (rest := []) hP hD hS hA hK hN ⟨hx, hb, hml, hown, hT⟩ (c_X8_waits l G cA H.size aa S LM w1 r3 S_4 hcm) (cwV 1 hT (tq_gV kw_33_0 kw_33_1 kw_33_2 kw_1_5 kw_33_3) rfl rfl rfl dkdV_yX8_waits_1 ⟨Nat.le_of_ble_eq_true rfl, Nat.le_of_ble_eq_true rfl⟩) (wM_rec hK hP) rfl hl.1 rfl (lv_room (Nat.le_of_ble_eq_true rfl)) dL_law_472 hfit (fun _ _ H locs z9 hP hD hS => ?_)
  have z9 := z9.symm
  subst z9
  replace hP : va_P G vwCl (wX cA xa ka ra na ia ua va ca za pa qa X K R P L P2 L2 Tn Ti Tu Tv C Z q0 q1 q2 q3 q4 q5 ++ (wM cA aa S_4 LM ++ [(oa, .inl (cA 2, 1, .inr (.inl og)))])) H := tw_P wl_rot hP
  replace hD : va_D A (wX cA xa ka ra na ia ua va ca za pa qa X K R P L P2 L2 Tn Ti Tu Tv C Z q0 q1 q2 q3 q4 q5 ++ (wM cA aa S_4 LM ++ [(oa, .inl (cA 2, 1, .inr (.inl og)))])) := tw_D wl_rot hD
  refine lv_pop hx hb dL_law_475 rfl ?_
  refine lv_goto (tgt := 1217) hx hb dL_law_476 (by decide) ?_
  exact hk H locs ls ⟨xa, ka, ra, na, ia, ua, va, ca, za, pa, qa, aa, X, K, R, P, L, P2, L2, Tn, Ti, Tu, Tv, C, Z, q0, q1, q2, q3, q4, q5, S_4, LM, og, rfl, rfl, ⟨bX, bK, bR, bP, bP2, bTn, bTi, bTu, bTv, bC, bZ, dz, e0, e4, e5, e1⟩, hq5.1, (E_waits hok jx hrel hcx hcm), hP, hD⟩ hS hl
set_option maxHeartbeats 4000000 in
set_option maxRecDepth 100000 in
theorem lc_8 {p : Program} {e : Env} {s : State} {m : MethodId} {below : List Frame} {meth : Method} {c : Code} (l : Launch) {b Ln : Nat} {xs : Nat → Int32} (C0 : lw_At p s m meth c b Ln xs) (G : va_G) (cA : Nat → ClassId) {A : Nat → Prop} (hAe : A = fun q : Nat => s.heap.size ≤ q) (hK : va_K G vwCl (tyL cA) s) (hN : tqN s) {bA : Nat} (hB : tqB bA A s s.heap) {H : Heap} {locs : List Loc} {ls : Array Slot} {kc ks : Nat} (hfit : kc ≤ 601024 ∧ ks ≤ 7293034) {i : Int32} (hi : 0 ≤ i.toInt ∧ i.toInt + 6 ≤ (Ln : Int)) (hLn : Ln ≤ 3072) {x0 mm oa : Nat} (hI : lwP G cA A x0 mm oa H) (hS : va_S A s.heap H locs) (hl : lv_has ls 7 [(4, .int i), (3, .ref oa), (2, .ref mm), (1, .ref x0), (0, .ref b)]) (hk : (∀ (H : Heap) (locs : List Loc) (ls : Array Slot), lwP G cA A x0 mm oa H → va_S A s.heap H locs → lv_has ls 7 [(4, .int i), (3, .ref oa), (2, .ref mm), (1, .ref x0), (0, .ref b)] → W p l e room_1 s m #[Value.ref b] below meth c H locs kc ks (lw_Z below #[Value.ref b] s) (F0 m 1217 ls []))) : W p l e room_1 s m #[Value.ref b] below meth c H locs kc ks (lw_Z below #[Value.ref b] s) (F0 m 479 ls []) := by
  obtain ⟨hx, hb, hr, hml, hown, hts, hX, hbl, hlocks, hgv⟩ := id C0
  have hT : ∀ v ∈ T0, v.before #[Value.ref b] s = true := fun v h => hts v (tq_law_in v h)
  have hown : s.vm.findClass RL = some m.cls := hown
  have hA : ∀ q : Nat, s.heap.size ≤ q → A q := fun q h => by rw [hAe]; exact h
  have hbA : ¬ A b := by rw [hAe]; exact Nat.not_le.mpr hbl
  obtain ⟨xa, ka, ra, na, ia, ua, va, ca, za, pa, qa, aa, X, K, R, P, L, P2, L2, Tn, Ti, Tu, Tv, C, Z, q0, q1, q2, q3, q4, q5, S, LM, og, rfl, rfl, hok, jx, hrel, hP, hD⟩ := hI
  obtain ⟨bX, bK, bR, bP, bP2, bTn, bTi, bTu, bTv, bC, bZ, dz, e0, e4, e5, e1⟩ := id hok
  obtain ⟨w1, hw1⟩ : ∃ z, xs (i + 1).toNatClampNeg = z := ⟨_, rfl⟩
  obtain ⟨w2, hw2⟩ : ∃ z, xs (i + 2).toNatClampNeg = z := ⟨_, rfl⟩
  obtain ⟨w3, hw3⟩ : ∃ z, xs (i + 3).toNatClampNeg = z := ⟨_, rfl⟩
  obtain ⟨w4, hw4⟩ : ∃ z, xs (i + 4).toNatClampNeg = z := ⟨_, rfl⟩
  obtain ⟨w5, hw5⟩ : ∃ z, xs (i + 5).toNatClampNeg = z := ⟨_, rfl⟩
  refine lv_aload_n hx hb dL_law_479 rfl (lv_at hl 3 rfl) ?_
  refine lv_aload_n hx hb dL_law_480 rfl (lv_at hl 4 rfl) ?_
  refine lv_iload hx hb dL_law_481 (lv_at hl 0 rfl) ?_
  refine lv_iconst (v := 1) hx hb dL_law_483 (by decide) ?_
  refine lv_iadd hx hb dL_law_484 ?_
  refine va_sld (i := i + 1) hx hb hX hbl hbA hS (lw_in hi (by decide)) dL_law_485 ?_
  refine tq_i (w := w1) hw1 ?_
  refine lv_aload_n hx hb dL_law_486 rfl (lv_at hl 4 rfl) ?_
  refine lv_iload hx hb dL_law_487 (lv_at hl 0 rfl) ?_
  refine lv_iconst (v := 2) hx hb dL_law_489 (by decide) ?_
  refine lv_iadd hx hb dL_law_490 ?_
  refine va_sld (i := i + 2) hx hb hX hbl hbA hS (lw_in hi (by decide)) dL_law_491 ?_
  refine tq_i (w := w2) hw2 ?_
  obtain ⟨⟨r1, L_2, Tn_3⟩, hcx, hq4⟩ := (t_X7_law pa qa P L Tn q0 q4 w1 w2 bP bTn e0 e4)
  refine lw_cl (As := [.int w1, .int w2]) (rest := []) hP hD hS hA hK hN ⟨hx, hb, hml, hown, hT⟩ (c_X7_law l G cA H.size xa ka ra na ia ua va ca za pa qa X K R P L P2 L2 Tn Ti Tu Tv C Z q0 q1 q2 q3 q4 q5 w1 w2 r1 L_2 Tn_3 hcx) (cwV 2 hT (tq_gV kw_33_4 kw_33_5 kw_33_6 kw_1_2 kw_33_7) rfl rfl rfl dkdV_yX7_law_2 ⟨Nat.le_of_ble_eq_true rfl, Nat.le_of_ble_eq_true rfl⟩) (wX_rec hK hP) rfl hl.1 rfl (lv_room (Nat.le_of_ble_eq_true rfl)) dL_law_492 hfit (fun _ _ H locs z9 hP hD hS => ?_)
  have z9 := z9.symm
  subst z9
  refine lv_pop2_2 hx hb dL_law_495 rfl ?_
  refine lv_aload_n hx hb dL_law_496 rfl (lv_at hl 2 rfl) ?_
  refine lv_aload_n hx hb dL_law_497 rfl (lv_at hl 4 rfl) ?_
  refine lv_iload hx hb dL_law_498 (lv_at hl 0 rfl) ?_
  refine lv_iconst (v := 1) hx hb dL_law_500 (by decide) ?_
  refine lv_iadd hx hb dL_law_501 ?_
  refine va_sld (i := i + 1) hx hb hX hbl hbA hS (lw_in hi (by decide)) dL_law_502 ?_
  refine tq_i (w := w1) hw1 ?_
  refine lv_aload_n hx hb dL_law_503 rfl (lv_at hl 4 rfl) ?_
  refine lv_iload hx hb dL_law_504 (lv_at hl 0 rfl) ?_
  refine lv_iconst (v := 2) hx hb dL_law_506 (by decide) ?_
  refine lv_iadd hx hb dL_law_507 ?_
  refine va_sld (i := i + 2) hx hb hX hbl hbA hS (lw_in hi (by decide)) dL_law_508 ?_
  refine tq_i (w := w2) hw2 ?_
  obtain ⟨⟨r5, S_6, LM_7⟩, hcm, hq8⟩ := (Q_law S LM w1 w2 jx)
  replace hP : va_P G vwCl (wM cA aa S LM ++ (wX cA xa ka ra na ia ua va ca za pa qa X K R P L_2 P2 L2 Tn_3 Ti Tu Tv C Z q0 q1 q2 q3 q4 q5 ++ [(oa, .inl (cA 2, 1, .inr (.inl og)))])) H := tw_P wl_rot hP
  replace hD : va_D A (wM cA aa S LM ++ (wX cA xa ka ra na ia ua va ca za pa qa X K R P L_2 P2 L2 Tn_3 Ti Tu Tv C Z q0 q1 q2 q3 q4 q5 ++ [(oa, .inl (cA 2, 1, .inr (.inl og)))])) := tw_D wl_rot hD
  refine lw_cl (As := [.int w1, .int w2]) (rest := []) hP hD hS hA hK hN ⟨hx, hb, hml, hown, hT⟩ (c_X8_law l G cA H.size aa S LM w1 w2 r5 S_6 LM_7 hcm) (cwV 2 hT (tq_gV kw_34_5 kw_34_6 kw_34_7 kw_1_5 kw_34_8) rfl rfl rfl dkdV_yX8_law_2 ⟨Nat.le_of_ble_eq_true rfl, Nat.le_of_ble_eq_true rfl⟩) (wM_rec hK hP) rfl hl.1 rfl (lv_room (Nat.le_of_ble_eq_true rfl)) dL_law_509 hfit (fun _ _ H locs z9 hP hD hS => ?_)
  have z9 := z9.symm
  subst z9
  replace hP : va_P G vwCl (wX cA xa ka ra na ia ua va ca za pa qa X K R P L_2 P2 L2 Tn_3 Ti Tu Tv C Z q0 q1 q2 q3 q4 q5 ++ (wM cA aa S_6 LM_7 ++ [(oa, .inl (cA 2, 1, .inr (.inl og)))])) H := tw_P wl_rot hP
  replace hD : va_D A (wX cA xa ka ra na ia ua va ca za pa qa X K R P L_2 P2 L2 Tn_3 Ti Tu Tv C Z q0 q1 q2 q3 q4 q5 ++ (wM cA aa S_6 LM_7 ++ [(oa, .inl (cA 2, 1, .inr (.inl og)))])) := tw_D wl_rot hD
  refine lv_pop2_2 hx hb dL_law_512 rfl ?_
  refine lv_goto (tgt := 1217) hx hb dL_law_513 (by decide) ?_
  exact hk H locs ls ⟨xa, ka, ra, na, ia, ua, va, ca, za, pa, qa, aa, X, K, R, P, L_2, P2, L2, Tn_3, Ti, Tu, Tv, C, Z, q0, q1, q2, q3, q4, q5, S_6, LM_7, og, rfl, rfl, ⟨bX, bK, bR, bP, bP2, hq4, bTi, bTu, bTv, bC, bZ, dz, e0, e4, e5, e1⟩, hq8.1, (E_law hok jx hrel hcx hcm), hP, hD⟩ hS hl
set_option maxHeartbeats 4000000 in
set_option maxRecDepth 100000 in
theorem lc_9 {p : Program} {e : Env} {s : State} {m : MethodId} {below : List Frame} {meth : Method} {c : Code} (l : Launch) {b Ln : Nat} {xs : Nat → Int32} (C0 : lw_At p s m meth c b Ln xs) (G : va_G) (cA : Nat → ClassId) {A : Nat → Prop} (hAe : A = fun q : Nat => s.heap.size ≤ q) (hK : va_K G vwCl (tyL cA) s) (hN : tqN s) {bA : Nat} (hB : tqB bA A s s.heap) {H : Heap} {locs : List Loc} {ls : Array Slot} {kc ks : Nat} (hfit : kc ≤ 601024 ∧ ks ≤ 7293034) {i : Int32} (hi : 0 ≤ i.toInt ∧ i.toInt + 6 ≤ (Ln : Int)) (hLn : Ln ≤ 3072) {x0 mm oa : Nat} (hI : lwP G cA A x0 mm oa H) (hS : va_S A s.heap H locs) (hl : lv_has ls 7 [(4, .int i), (3, .ref oa), (2, .ref mm), (1, .ref x0), (0, .ref b)]) (hk : (∀ (H : Heap) (locs : List Loc) (ls : Array Slot), lwP G cA A x0 mm oa H → va_S A s.heap H locs → lv_has ls 7 [(4, .int i), (3, .ref oa), (2, .ref mm), (1, .ref x0), (0, .ref b)] → W p l e room_1 s m #[Value.ref b] below meth c H locs kc ks (lw_Z below #[Value.ref b] s) (F0 m 1217 ls []))) : W p l e room_1 s m #[Value.ref b] below meth c H locs kc ks (lw_Z below #[Value.ref b] s) (F0 m 516 ls []) := by
  obtain ⟨hx, hb, hr, hml, hown, hts, hX, hbl, hlocks, hgv⟩ := id C0
  have hT : ∀ v ∈ T0, v.before #[Value.ref b] s = true := fun v h => hts v (tq_law_in v h)
  have hown : s.vm.findClass RL = some m.cls := hown
  have hA : ∀ q : Nat, s.heap.size ≤ q → A q := fun q h => by rw [hAe]; exact h
  have hbA : ¬ A b := by rw [hAe]; exact Nat.not_le.mpr hbl
  obtain ⟨xa, ka, ra, na, ia, ua, va, ca, za, pa, qa, aa, X, K, R, P, L, P2, L2, Tn, Ti, Tu, Tv, C, Z, q0, q1, q2, q3, q4, q5, S, LM, og, rfl, rfl, hok, jx, hrel, hP, hD⟩ := hI
  obtain ⟨bX, bK, bR, bP, bP2, bTn, bTi, bTu, bTv, bC, bZ, dz, e0, e4, e5, e1⟩ := id hok
  obtain ⟨w1, hw1⟩ : ∃ z, xs (i + 1).toNatClampNeg = z := ⟨_, rfl⟩
  obtain ⟨w2, hw2⟩ : ∃ z, xs (i + 2).toNatClampNeg = z := ⟨_, rfl⟩
  obtain ⟨w3, hw3⟩ : ∃ z, xs (i + 3).toNatClampNeg = z := ⟨_, rfl⟩
  obtain ⟨w4, hw4⟩ : ∃ z, xs (i + 4).toNatClampNeg = z := ⟨_, rfl⟩
  obtain ⟨w5, hw5⟩ : ∃ z, xs (i + 5).toNatClampNeg = z := ⟨_, rfl⟩
  refine lv_aload_n hx hb dL_law_516 rfl (lv_at hl 3 rfl) ?_
  refine lv_aload_n hx hb dL_law_517 rfl (lv_at hl 4 rfl) ?_
  refine lv_iload hx hb dL_law_518 (lv_at hl 0 rfl) ?_
  refine lv_iconst (v := 1) hx hb dL_law_520 (by decide) ?_
  refine lv_iadd hx hb dL_law_521 ?_
  refine va_sld (i := i + 1) hx hb hX hbl hbA hS (lw_in hi (by decide)) dL_law_522 ?_
  refine tq_i (w := w1) hw1 ?_
  refine lv_aload_n hx hb dL_law_523 rfl (lv_at hl 4 rfl) ?_
  refine lv_iload hx hb dL_law_524 (lv_at hl 0 rfl) ?_
  refine lv_iconst (v := 2) hx hb dL_law_526 (by decide) ?_
  refine lv_iadd hx hb dL_law_527 ?_
  refine va_sld (i := i + 2) hx hb hX hbl hbA hS (lw_in hi (by decide)) dL_law_528 ?_
  refine tq_i (w := w2) hw2 ?_
  obtain ⟨⟨r1, Tn_2, C_3⟩, hcx, hq4⟩ := (t_X7_move pa qa P Tn C q0 q4 w1 w2 bP bTn bC e0 e4)
  refine lw_ci (As := [.int w1, .int w2]) (rest := []) hP hD hS hA hK hN ⟨hx, hb, hml, hown, hT⟩ (c_X7_move l G cA H.size xa ka ra na ia ua va ca za pa qa X K R P L P2 L2 Tn Ti Tu Tv C Z q0 q1 q2 q3 q4 q5 w1 w2 r1 Tn_2 C_3 hcx) (cwV 2 hT (tq_gV kw_35_16 kw_35_17 kw_35_18 kw_1_2 kw_35_19) rfl rfl rfl dkdV_yX7_move_2 ⟨Nat.le_of_ble_eq_true rfl, Nat.le_of_ble_eq_true rfl⟩) (wX_rec hK hP) rfl hl.1 rfl (lv_room (Nat.le_of_ble_eq_true rfl)) dL_law_529 hfit (fun _ _ H locs z9 hP hD hS => ?_)
  have z9 := z9.symm
  subst z9
  refine lv_pop hx hb dL_law_532 rfl ?_
  refine lv_aload_n hx hb dL_law_533 rfl (lv_at hl 2 rfl) ?_
  refine lv_aload_n hx hb dL_law_534 rfl (lv_at hl 4 rfl) ?_
  refine lv_iload hx hb dL_law_535 (lv_at hl 0 rfl) ?_
  refine lv_iconst (v := 1) hx hb dL_law_537 (by decide) ?_
  refine lv_iadd hx hb dL_law_538 ?_
  refine va_sld (i := i + 1) hx hb hX hbl hbA hS (lw_in hi (by decide)) dL_law_539 ?_
  refine tq_i (w := w1) hw1 ?_
  refine lv_aload_n hx hb dL_law_540 rfl (lv_at hl 4 rfl) ?_
  refine lv_iload hx hb dL_law_541 (lv_at hl 0 rfl) ?_
  refine lv_iconst (v := 2) hx hb dL_law_543 (by decide) ?_
  refine lv_iadd hx hb dL_law_544 ?_
  refine va_sld (i := i + 2) hx hb hX hbl hbA hS (lw_in hi (by decide)) dL_law_545 ?_
  refine tq_i (w := w2) hw2 ?_
  obtain ⟨⟨r5, S_6⟩, hcm, hq7⟩ := (Q_move S w1 w2 jx)
  replace hP : va_P G vwCl (wM cA aa S LM ++ (wX cA xa ka ra na ia ua va ca za pa qa X K R P L P2 L2 Tn_2 Ti Tu Tv C_3 Z q0 q1 q2 q3 q4 q5 ++ [(oa, .inl (cA 2, 1, .inr (.inl og)))])) H := tw_P wl_rot hP
  replace hD : va_D A (wM cA aa S LM ++ (wX cA xa ka ra na ia ua va ca za pa qa X K R P L P2 L2 Tn_2 Ti Tu Tv C_3 Z q0 q1 q2 q3 q4 q5 ++ [(oa, .inl (cA 2, 1, .inr (.inl og)))])) := tw_D wl_rot hD
  refine lw_ci (As := [.int w1, .int w2]) (rest := []) hP hD hS hA hK hN ⟨hx, hb, hml, hown, hT⟩ (c_X8_move l G cA H.size aa S LM w1 w2 r5 S_6 hcm) (cwV 2 hT (tq_gV kw_37_2 kw_37_3 kw_37_4 kw_1_5 kw_37_5) rfl rfl rfl dkdV_yX8_move_2 ⟨Nat.le_of_ble_eq_true rfl, Nat.le_of_ble_eq_true rfl⟩) (wM_rec hK hP) rfl hl.1 rfl (lv_room (Nat.le_of_ble_eq_true rfl)) dL_law_546 hfit (fun _ _ H locs z9 hP hD hS => ?_)
  have z9 := z9.symm
  subst z9
  replace hP : va_P G vwCl (wX cA xa ka ra na ia ua va ca za pa qa X K R P L P2 L2 Tn_2 Ti Tu Tv C_3 Z q0 q1 q2 q3 q4 q5 ++ (wM cA aa S_6 LM ++ [(oa, .inl (cA 2, 1, .inr (.inl og)))])) H := tw_P wl_rot hP
  replace hD : va_D A (wX cA xa ka ra na ia ua va ca za pa qa X K R P L P2 L2 Tn_2 Ti Tu Tv C_3 Z q0 q1 q2 q3 q4 q5 ++ (wM cA aa S_6 LM ++ [(oa, .inl (cA 2, 1, .inr (.inl og)))])) := tw_D wl_rot hD
  refine lv_pop hx hb dL_law_549 rfl ?_
  refine lv_goto (tgt := 1217) hx hb dL_law_550 (by decide) ?_
  exact hk H locs ls ⟨xa, ka, ra, na, ia, ua, va, ca, za, pa, qa, aa, X, K, R, P, L, P2, L2, Tn_2, Ti, Tu, Tv, C_3, Z, q0, q1, q2, q3, q4, q5, S_6, LM, og, rfl, rfl, ⟨bX, bK, bR, bP, bP2, hq4.2.1, bTi, bTu, bTv, hq4.2.2, bZ, dz, e0, e4, e5, e1⟩, hq7.1, (E_move hok jx hrel hcx hcm), hP, hD⟩ hS hl
set_option maxHeartbeats 4000000 in
set_option maxRecDepth 100000 in
theorem lc_10 {p : Program} {e : Env} {s : State} {m : MethodId} {below : List Frame} {meth : Method} {c : Code} (l : Launch) {b Ln : Nat} {xs : Nat → Int32} (C0 : lw_At p s m meth c b Ln xs) (G : va_G) (cA : Nat → ClassId) {A : Nat → Prop} (hAe : A = fun q : Nat => s.heap.size ≤ q) (hK : va_K G vwCl (tyL cA) s) (hN : tqN s) {bA : Nat} (hB : tqB bA A s s.heap) {H : Heap} {locs : List Loc} {ls : Array Slot} {kc ks : Nat} (hfit : kc ≤ 601024 ∧ ks ≤ 7293034) {i : Int32} (hi : 0 ≤ i.toInt ∧ i.toInt + 6 ≤ (Ln : Int)) (hLn : Ln ≤ 3072) {x0 mm oa : Nat} (hI : lwP G cA A x0 mm oa H) (hS : va_S A s.heap H locs) (hl : lv_has ls 7 [(4, .int i), (3, .ref oa), (2, .ref mm), (1, .ref x0), (0, .ref b)]) (hk : (∀ (H : Heap) (locs : List Loc) (ls : Array Slot), lwP G cA A x0 mm oa H → va_S A s.heap H locs → lv_has ls 7 [(4, .int i), (3, .ref oa), (2, .ref mm), (1, .ref x0), (0, .ref b)] → W p l e room_1 s m #[Value.ref b] below meth c H locs kc ks (lw_Z below #[Value.ref b] s) (F0 m 1217 ls []))) : W p l e room_1 s m #[Value.ref b] below meth c H locs kc ks (lw_Z below #[Value.ref b] s) (F0 m 553 ls []) := by
  obtain ⟨hx, hb, hr, hml, hown, hts, hX, hbl, hlocks, hgv⟩ := id C0
  have hT : ∀ v ∈ T0, v.before #[Value.ref b] s = true := fun v h => hts v (tq_law_in v h)
  have hown : s.vm.findClass RL = some m.cls := hown
  have hA : ∀ q : Nat, s.heap.size ≤ q → A q := fun q h => by rw [hAe]; exact h
  have hbA : ¬ A b := by rw [hAe]; exact Nat.not_le.mpr hbl
  obtain ⟨xa, ka, ra, na, ia, ua, va, ca, za, pa, qa, aa, X, K, R, P, L, P2, L2, Tn, Ti, Tu, Tv, C, Z, q0, q1, q2, q3, q4, q5, S, LM, og, rfl, rfl, hok, jx, hrel, hP, hD⟩ := hI
  obtain ⟨bX, bK, bR, bP, bP2, bTn, bTi, bTu, bTv, bC, bZ, dz, e0, e4, e5, e1⟩ := id hok
  obtain ⟨w1, hw1⟩ : ∃ z, xs (i + 1).toNatClampNeg = z := ⟨_, rfl⟩
  obtain ⟨w2, hw2⟩ : ∃ z, xs (i + 2).toNatClampNeg = z := ⟨_, rfl⟩
  obtain ⟨w3, hw3⟩ : ∃ z, xs (i + 3).toNatClampNeg = z := ⟨_, rfl⟩
  obtain ⟨w4, hw4⟩ : ∃ z, xs (i + 4).toNatClampNeg = z := ⟨_, rfl⟩
  obtain ⟨w5, hw5⟩ : ∃ z, xs (i + 5).toNatClampNeg = z := ⟨_, rfl⟩
  refine lv_aload_n hx hb dL_law_553 rfl (lv_at hl 3 rfl) ?_
  refine lv_aload_n hx hb dL_law_554 rfl (lv_at hl 4 rfl) ?_
  refine lv_iload hx hb dL_law_555 (lv_at hl 0 rfl) ?_
  refine lv_iconst (v := 1) hx hb dL_law_557 (by decide) ?_
  refine lv_iadd hx hb dL_law_558 ?_
  refine va_sld (i := i + 1) hx hb hX hbl hbA hS (lw_in hi (by decide)) dL_law_559 ?_
  refine tq_i (w := w1) hw1 ?_
  obtain ⟨⟨r1, Tn_2, Tv_3, C_4, q3_5⟩, hcx, hq6⟩ := (t_X7_turn pa qa P Tn Tv C q0 q3 q4 w1 bP bTn bTv bC e0 e4)
  refine lw_ci (As := [.int w1]) (rest := []) hP hD hS hA hK hN ⟨hx, hb, hml, hown, hT⟩ (c_X7_turn l G cA H.size xa ka ra na ia ua va ca za pa qa X K R P L P2 L2 Tn Ti Tu Tv C Z q0 q1 q2 q3 q4 q5 w1 r1 Tn_2 Tv_3 C_4 q3_5 hcx) (cwV 1 hT (tq_gV kw_38_2 kw_38_3 kw_38_4 kw_1_2 kw_38_5) rfl rfl rfl dkdV_yX7_turn_1 ⟨Nat.le_of_ble_eq_true rfl, Nat.le_of_ble_eq_true rfl⟩) (wX_rec hK hP) rfl hl.1 rfl (lv_room (Nat.le_of_ble_eq_true rfl)) dL_law_560 hfit (fun _ _ H locs z9 hP hD hS => ?_)
  have z9 := z9.symm
  subst z9
  refine lv_pop hx hb dL_law_563 rfl ?_
  refine lv_aload_n hx hb dL_law_564 rfl (lv_at hl 2 rfl) ?_
  refine lv_aload_n hx hb dL_law_565 rfl (lv_at hl 4 rfl) ?_
  refine lv_iload hx hb dL_law_566 (lv_at hl 0 rfl) ?_
  refine lv_iconst (v := 1) hx hb dL_law_568 (by decide) ?_
  refine lv_iadd hx hb dL_law_569 ?_
  refine va_sld (i := i + 1) hx hb hX hbl hbA hS (lw_in hi (by decide)) dL_law_570 ?_
  refine tq_i (w := w1) hw1 ?_
  obtain ⟨⟨r7, S_8⟩, hcm, hq9⟩ := (Q_turn S w1 jx)
  replace hP : va_P G vwCl (wM cA aa S LM ++ (wX cA xa ka ra na ia ua va ca za pa qa X K R P L P2 L2 Tn_2 Ti Tu Tv_3 C_4 Z q0 q1 q2 q3_5 q4 q5 ++ [(oa, .inl (cA 2, 1, .inr (.inl og)))])) H := tw_P wl_rot hP
  replace hD : va_D A (wM cA aa S LM ++ (wX cA xa ka ra na ia ua va ca za pa qa X K R P L P2 L2 Tn_2 Ti Tu Tv_3 C_4 Z q0 q1 q2 q3_5 q4 q5 ++ [(oa, .inl (cA 2, 1, .inr (.inl og)))])) := tw_D wl_rot hD
  refine lw_ci (As := [.int w1]) (rest := []) hP hD hS hA hK hN ⟨hx, hb, hml, hown, hT⟩ (c_X8_turn l G cA H.size aa S LM w1 r7 S_8 hcm) (cwV 1 hT (tq_gV kw_39_1 kw_39_2 kw_39_3 kw_1_5 kw_39_4) rfl rfl rfl dkdV_yX8_turn_1 ⟨Nat.le_of_ble_eq_true rfl, Nat.le_of_ble_eq_true rfl⟩) (wM_rec hK hP) rfl hl.1 rfl (lv_room (Nat.le_of_ble_eq_true rfl)) dL_law_571 hfit (fun _ _ H locs z9 hP hD hS => ?_)
  have z9 := z9.symm
  subst z9
  replace hP : va_P G vwCl (wX cA xa ka ra na ia ua va ca za pa qa X K R P L P2 L2 Tn_2 Ti Tu Tv_3 C_4 Z q0 q1 q2 q3_5 q4 q5 ++ (wM cA aa S_8 LM ++ [(oa, .inl (cA 2, 1, .inr (.inl og)))])) H := tw_P wl_rot hP
  replace hD : va_D A (wX cA xa ka ra na ia ua va ca za pa qa X K R P L P2 L2 Tn_2 Ti Tu Tv_3 C_4 Z q0 q1 q2 q3_5 q4 q5 ++ (wM cA aa S_8 LM ++ [(oa, .inl (cA 2, 1, .inr (.inl og)))])) := tw_D wl_rot hD
  refine lv_pop hx hb dL_law_574 rfl ?_
  refine lv_goto (tgt := 1217) hx hb dL_law_575 (by decide) ?_
  exact hk H locs ls ⟨xa, ka, ra, na, ia, ua, va, ca, za, pa, qa, aa, X, K, R, P, L, P2, L2, Tn_2, Ti, Tu, Tv_3, C_4, Z, q0, q1, q2, q3_5, q4, q5, S_8, LM, og, rfl, rfl, ⟨bX, bK, bR, bP, bP2, hq6.1, bTi, bTu, hq6.2.1, hq6.2.2, bZ, dz, e0, e4, e5, e1⟩, hq9.1, (E_turn hok jx hrel hcx hcm), hP, hD⟩ hS hl
set_option maxHeartbeats 4000000 in
set_option maxRecDepth 100000 in
theorem lc_11 {p : Program} {e : Env} {s : State} {m : MethodId} {below : List Frame} {meth : Method} {c : Code} (l : Launch) {b Ln : Nat} {xs : Nat → Int32} (C0 : lw_At p s m meth c b Ln xs) (G : va_G) (cA : Nat → ClassId) {A : Nat → Prop} (hAe : A = fun q : Nat => s.heap.size ≤ q) (hK : va_K G vwCl (tyL cA) s) (hN : tqN s) {bA : Nat} (hB : tqB bA A s s.heap) {H : Heap} {locs : List Loc} {ls : Array Slot} {kc ks : Nat} (hfit : kc ≤ 601024 ∧ ks ≤ 7293034) {i : Int32} (hi : 0 ≤ i.toInt ∧ i.toInt + 6 ≤ (Ln : Int)) (hLn : Ln ≤ 3072) {x0 mm oa : Nat} (hI : lwP G cA A x0 mm oa H) (hS : va_S A s.heap H locs) (hl : lv_has ls 7 [(4, .int i), (3, .ref oa), (2, .ref mm), (1, .ref x0), (0, .ref b)]) (hk : (∀ (H : Heap) (locs : List Loc) (ls : Array Slot), lwP G cA A x0 mm oa H → va_S A s.heap H locs → lv_has ls 7 [(4, .int i), (3, .ref oa), (2, .ref mm), (1, .ref x0), (0, .ref b)] → W p l e room_1 s m #[Value.ref b] below meth c H locs kc ks (lw_Z below #[Value.ref b] s) (F0 m 1217 ls []))) : W p l e room_1 s m #[Value.ref b] below meth c H locs kc ks (lw_Z below #[Value.ref b] s) (F0 m 578 ls []) := by
  obtain ⟨hx, hb, hr, hml, hown, hts, hX, hbl, hlocks, hgv⟩ := id C0
  have hT : ∀ v ∈ T0, v.before #[Value.ref b] s = true := fun v h => hts v (tq_law_in v h)
  have hown : s.vm.findClass RL = some m.cls := hown
  have hA : ∀ q : Nat, s.heap.size ≤ q → A q := fun q h => by rw [hAe]; exact h
  have hbA : ¬ A b := by rw [hAe]; exact Nat.not_le.mpr hbl
  obtain ⟨xa, ka, ra, na, ia, ua, va, ca, za, pa, qa, aa, X, K, R, P, L, P2, L2, Tn, Ti, Tu, Tv, C, Z, q0, q1, q2, q3, q4, q5, S, LM, og, rfl, rfl, hok, jx, hrel, hP, hD⟩ := hI
  obtain ⟨bX, bK, bR, bP, bP2, bTn, bTi, bTu, bTv, bC, bZ, dz, e0, e4, e5, e1⟩ := id hok
  obtain ⟨w1, hw1⟩ : ∃ z, xs (i + 1).toNatClampNeg = z := ⟨_, rfl⟩
  obtain ⟨w2, hw2⟩ : ∃ z, xs (i + 2).toNatClampNeg = z := ⟨_, rfl⟩
  obtain ⟨w3, hw3⟩ : ∃ z, xs (i + 3).toNatClampNeg = z := ⟨_, rfl⟩
  obtain ⟨w4, hw4⟩ : ∃ z, xs (i + 4).toNatClampNeg = z := ⟨_, rfl⟩
  obtain ⟨w5, hw5⟩ : ∃ z, xs (i + 5).toNatClampNeg = z := ⟨_, rfl⟩
  refine lv_aload_n hx hb dL_law_578 rfl (lv_at hl 3 rfl) ?_
  refine lv_aload_n hx hb dL_law_579 rfl (lv_at hl 4 rfl) ?_
  refine lv_iload hx hb dL_law_580 (lv_at hl 0 rfl) ?_
  refine lv_iconst (v := 1) hx hb dL_law_582 (by decide) ?_
  refine lv_iadd hx hb dL_law_583 ?_
  refine va_sld (i := i + 1) hx hb hX hbl hbA hS (lw_in hi (by decide)) dL_law_584 ?_
  refine tq_i (w := w1) hw1 ?_
  refine lv_aload_n hx hb dL_law_585 rfl (lv_at hl 4 rfl) ?_
  refine lv_iload hx hb dL_law_586 (lv_at hl 0 rfl) ?_
  refine lv_iconst (v := 2) hx hb dL_law_588 (by decide) ?_
  refine lv_iadd hx hb dL_law_589 ?_
  refine va_sld (i := i + 2) hx hb hX hbl hbA hS (lw_in hi (by decide)) dL_law_590 ?_
  refine tq_i (w := w2) hw2 ?_
  obtain ⟨⟨r1, Tn_2, C_3⟩, hcx, hq4⟩ := (t_X7_help pa qa P Tn C q4 w1 w2 bP bTn bC e4)
  refine lw_ci (As := [.int w1, .int w2]) (rest := []) hP hD hS hA hK hN ⟨hx, hb, hml, hown, hT⟩ (c_X7_help l G cA H.size xa ka ra na ia ua va ca za pa qa X K R P L P2 L2 Tn Ti Tu Tv C Z q0 q1 q2 q3 q4 q5 w1 w2 r1 Tn_2 C_3 hcx) (cwV 2 hT (tq_gV kw_39_17 kw_39_18 kw_39_19 kw_1_2 kw_39_20) rfl rfl rfl dkdV_yX7_help_2 ⟨Nat.le_of_ble_eq_true rfl, Nat.le_of_ble_eq_true rfl⟩) (wX_rec hK hP) rfl hl.1 rfl (lv_room (Nat.le_of_ble_eq_true rfl)) dL_law_591 hfit (fun _ _ H locs z9 hP hD hS => ?_)
  have z9 := z9.symm
  subst z9
  refine lv_pop hx hb dL_law_594 rfl ?_
  refine lv_aload_n hx hb dL_law_595 rfl (lv_at hl 2 rfl) ?_
  refine lv_aload_n hx hb dL_law_596 rfl (lv_at hl 4 rfl) ?_
  refine lv_iload hx hb dL_law_597 (lv_at hl 0 rfl) ?_
  refine lv_iconst (v := 1) hx hb dL_law_599 (by decide) ?_
  refine lv_iadd hx hb dL_law_600 ?_
  refine va_sld (i := i + 1) hx hb hX hbl hbA hS (lw_in hi (by decide)) dL_law_601 ?_
  refine tq_i (w := w1) hw1 ?_
  refine lv_aload_n hx hb dL_law_602 rfl (lv_at hl 4 rfl) ?_
  refine lv_iload hx hb dL_law_603 (lv_at hl 0 rfl) ?_
  refine lv_iconst (v := 2) hx hb dL_law_605 (by decide) ?_
  refine lv_iadd hx hb dL_law_606 ?_
  refine va_sld (i := i + 2) hx hb hX hbl hbA hS (lw_in hi (by decide)) dL_law_607 ?_
  refine tq_i (w := w2) hw2 ?_
  obtain ⟨⟨r5, S_6⟩, hcm, hq7⟩ := (Q_help S w1 w2 jx)
  replace hP : va_P G vwCl (wM cA aa S LM ++ (wX cA xa ka ra na ia ua va ca za pa qa X K R P L P2 L2 Tn_2 Ti Tu Tv C_3 Z q0 q1 q2 q3 q4 q5 ++ [(oa, .inl (cA 2, 1, .inr (.inl og)))])) H := tw_P wl_rot hP
  replace hD : va_D A (wM cA aa S LM ++ (wX cA xa ka ra na ia ua va ca za pa qa X K R P L P2 L2 Tn_2 Ti Tu Tv C_3 Z q0 q1 q2 q3 q4 q5 ++ [(oa, .inl (cA 2, 1, .inr (.inl og)))])) := tw_D wl_rot hD
  refine lw_ci (As := [.int w1, .int w2]) (rest := []) hP hD hS hA hK hN ⟨hx, hb, hml, hown, hT⟩ (c_X8_help l G cA H.size aa S LM w1 w2 r5 S_6 hcm) (cwV 2 hT (tq_gV kw_39_21 kw_39_22 kw_39_23 kw_1_5 kw_40_0) rfl rfl rfl dkdV_yX8_help_2 ⟨Nat.le_of_ble_eq_true rfl, Nat.le_of_ble_eq_true rfl⟩) (wM_rec hK hP) rfl hl.1 rfl (lv_room (Nat.le_of_ble_eq_true rfl)) dL_law_608 hfit (fun _ _ H locs z9 hP hD hS => ?_)
  have z9 := z9.symm
  subst z9
  replace hP : va_P G vwCl (wX cA xa ka ra na ia ua va ca za pa qa X K R P L P2 L2 Tn_2 Ti Tu Tv C_3 Z q0 q1 q2 q3 q4 q5 ++ (wM cA aa S_6 LM ++ [(oa, .inl (cA 2, 1, .inr (.inl og)))])) H := tw_P wl_rot hP
  replace hD : va_D A (wX cA xa ka ra na ia ua va ca za pa qa X K R P L P2 L2 Tn_2 Ti Tu Tv C_3 Z q0 q1 q2 q3 q4 q5 ++ (wM cA aa S_6 LM ++ [(oa, .inl (cA 2, 1, .inr (.inl og)))])) := tw_D wl_rot hD
  refine lv_pop hx hb dL_law_611 rfl ?_
  refine lv_goto (tgt := 1217) hx hb dL_law_612 (by decide) ?_
  exact hk H locs ls ⟨xa, ka, ra, na, ia, ua, va, ca, za, pa, qa, aa, X, K, R, P, L, P2, L2, Tn_2, Ti, Tu, Tv, C_3, Z, q0, q1, q2, q3, q4, q5, S_6, LM, og, rfl, rfl, ⟨bX, bK, bR, bP, bP2, hq4.2.1, bTi, bTu, bTv, hq4.2.2, bZ, dz, e0, e4, e5, e1⟩, hq7.1, (E_help hok jx hrel hcx hcm), hP, hD⟩ hS hl
-- 67.l1
set_option maxHeartbeats 4000000 in
set_option maxRecDepth 100000 in
theorem lc_12 {p : Program} {e : Env} {s : State} {m : MethodId} {below : List Frame} {meth : Method} {c : Code} (l : Launch) {b Ln : Nat} {xs : Nat → Int32} (C0 : lw_At p s m meth c b Ln xs) (G : va_G) (cA : Nat → ClassId) {A : Nat → Prop} (hAe : A = fun q : Nat => s.heap.size ≤ q) (hK : va_K G vwCl (tyL cA) s) (hN : tqN s) {bA : Nat} (hB : tqB bA A s s.heap) {H : Heap} {locs : List Loc} {ls : Array Slot} {kc ks : Nat} (hfit : kc ≤ 601024 ∧ ks ≤ 7293034) {i : Int32} (hi : 0 ≤ i.toInt ∧ i.toInt + 6 ≤ (Ln : Int)) (hLn : Ln ≤ 3072) {x0 mm oa : Nat} (hI : lwP G cA A x0 mm oa H) (hS : va_S A s.heap H locs) (hl : lv_has ls 7 [(4, .int i), (3, .ref oa), (2, .ref mm), (1, .ref x0), (0, .ref b)]) (hk : (∀ (H : Heap) (locs : List Loc) (ls : Array Slot), lwP G cA A x0 mm oa H → va_S A s.heap H locs → lv_has ls 7 [(4, .int i), (3, .ref oa), (2, .ref mm), (1, .ref x0), (0, .ref b)] → W p l e room_1 s m #[Value.ref b] below meth c H locs kc ks (lw_Z below #[Value.ref b] s) (F0 m 1217 ls []))) : W p l e room_1 s m #[Value.ref b] below meth c H locs kc ks (lw_Z below #[Value.ref b] s) (F0 m 615 ls []) := by
  obtain ⟨hx, hb, hr, hml, hown, hts, hX, hbl, hlocks, hgv⟩ := id C0
  have hT : ∀ v ∈ T0, v.before #[Value.ref b] s = true := fun v h => hts v (tq_law_in v h)
  have hown : s.vm.findClass RL = some m.cls := hown
  have hA : ∀ q : Nat, s.heap.size ≤ q → A q := fun q h => by rw [hAe]; exact h
  have hbA : ¬ A b := by rw [hAe]; exact Nat.not_le.mpr hbl
  obtain ⟨xa, ka, ra, na, ia, ua, va, ca, za, pa, qa, aa, X, K, R, P, L, P2, L2, Tn, Ti, Tu, Tv, C, Z, q0, q1, q2, q3, q4, q5, S, LM, og, rfl, rfl, hok, jx, hrel, hP, hD⟩ := hI
  obtain ⟨bX, bK, bR, bP, bP2, bTn, bTi, bTu, bTv, bC, bZ, dz, e0, e4, e5, e1⟩ := id hok
  obtain ⟨w1, hw1⟩ : ∃ z, xs (i + 1).toNatClampNeg = z := ⟨_, rfl⟩
  obtain ⟨w2, hw2⟩ : ∃ z, xs (i + 2).toNatClampNeg = z := ⟨_, rfl⟩
  obtain ⟨w3, hw3⟩ : ∃ z, xs (i + 3).toNatClampNeg = z := ⟨_, rfl⟩
  obtain ⟨w4, hw4⟩ : ∃ z, xs (i + 4).toNatClampNeg = z := ⟨_, rfl⟩
  obtain ⟨w5, hw5⟩ : ∃ z, xs (i + 5).toNatClampNeg = z := ⟨_, rfl⟩
  refine lv_aload_n hx hb dL_law_615 rfl (lv_at hl 3 rfl) ?_
  refine lv_aload_n hx hb dL_law_616 rfl (lv_at hl 4 rfl) ?_
  refine lv_iload hx hb dL_law_617 (lv_at hl 0 rfl) ?_
  refine lv_iconst (v := 1) hx hb dL_law_619 (by decide) ?_
  refine lv_iadd hx hb dL_law_620 ?_
  refine va_sld (i := i + 1) hx hb hX hbl hbA hS (lw_in hi (by decide)) dL_law_621 ?_
  refine tq_i (w := w1) hw1 ?_
  obtain ⟨⟨r1, L_2, Tn_3, C_4⟩, hcx, hq5⟩ := (t_X7_go pa qa P L Tn C q0 w1 bP bTn bC e0)
  refine lw_ci (As := [.int w1]) (rest := []) hP hD hS hA hK hN ⟨hx, hb, hml, hown, hT⟩ (c_X7_go l G cA H.size xa ka ra na ia ua va ca za pa qa X K R P L P2 L2 Tn Ti Tu Tv C Z q0 q1 q2 q3 q4 q5 w1 r1 L_2 Tn_3 C_4 hcx) (cwV 1 hT (tq_gV kw_40_1 kw_40_2 kw_40_3 kw_1_2 kw_40_4) rfl rfl rfl dkdV_yX7_go_1 ⟨Nat.le_of_ble_eq_true rfl, Nat.le_of_ble_eq_true rfl⟩) (wX_rec hK hP) rfl hl.1 rfl (lv_room (Nat.le_of_ble_eq_true rfl)) dL_law_622 hfit (fun _ _ H locs z9 hP hD hS => ?_)
  have z9 := z9.symm
  subst z9
  refine lv_pop hx hb dL_law_625 rfl ?_
  refine lv_aload_n hx hb dL_law_626 rfl (lv_at hl 2 rfl) ?_
  refine lv_aload_n hx hb dL_law_627 rfl (lv_at hl 4 rfl) ?_
  refine lv_iload hx hb dL_law_628 (lv_at hl 0 rfl) ?_
  refine lv_iconst (v := 1) hx hb dL_law_630 (by decide) ?_
  refine lv_iadd hx hb dL_law_631 ?_
  refine va_sld (i := i + 1) hx hb hX hbl hbA hS (lw_in hi (by decide)) dL_law_632 ?_
  refine tq_i (w := w1) hw1 ?_
  obtain ⟨⟨r6, S_7, LM_8⟩, hcm, hq9⟩ := (Q_go S LM w1 jx)
  replace hP : va_P G vwCl (wM cA aa S LM ++ (wX cA xa ka ra na ia ua va ca za pa qa X K R P L_2 P2 L2 Tn_3 Ti Tu Tv C_4 Z q0 q1 q2 q3 q4 q5 ++ [(oa, .inl (cA 2, 1, .inr (.inl og)))])) H := tw_P wl_rot hP
  replace hD : va_D A (wM cA aa S LM ++ (wX cA xa ka ra na ia ua va ca za pa qa X K R P L_2 P2 L2 Tn_3 Ti Tu Tv C_4 Z q0 q1 q2 q3 q4 q5 ++ [(oa, .inl (cA 2, 1, .inr (.inl og)))])) := tw_D wl_rot hD
  refine lw_ci (As := [.int w1]) (rest := []) hP hD hS hA hK hN ⟨hx, hb, hml, hown, hT⟩ (c_X8_go l G cA H.size aa S LM w1 r6 S_7 LM_8 hcm) (cwV 1 hT (tq_gV kw_43_10 kw_43_11 kw_43_12 kw_1_5 kw_43_13) rfl rfl rfl dkdV_yX8_go_1 ⟨Nat.le_of_ble_eq_true rfl, Nat.le_of_ble_eq_true rfl⟩) (wM_rec hK hP) rfl hl.1 rfl (lv_room (Nat.le_of_ble_eq_true rfl)) dL_law_633 hfit (fun _ _ H locs z9 hP hD hS => ?_)
  have z9 := z9.symm
  subst z9
  replace hP : va_P G vwCl (wX cA xa ka ra na ia ua va ca za pa qa X K R P L_2 P2 L2 Tn_3 Ti Tu Tv C_4 Z q0 q1 q2 q3 q4 q5 ++ (wM cA aa S_7 LM_8 ++ [(oa, .inl (cA 2, 1, .inr (.inl og)))])) H := tw_P wl_rot hP
  replace hD : va_D A (wX cA xa ka ra na ia ua va ca za pa qa X K R P L_2 P2 L2 Tn_3 Ti Tu Tv C_4 Z q0 q1 q2 q3 q4 q5 ++ (wM cA aa S_7 LM_8 ++ [(oa, .inl (cA 2, 1, .inr (.inl og)))])) := tw_D wl_rot hD
  refine lv_pop hx hb dL_law_636 rfl ?_
  refine lv_goto (tgt := 1217) hx hb dL_law_637 (by decide) ?_
  exact hk H locs ls ⟨xa, ka, ra, na, ia, ua, va, ca, za, pa, qa, aa, X, K, R, P, L_2, P2, L2, Tn_3, Ti, Tu, Tv, C_4, Z, q0, q1, q2, q3, q4, q5, S_7, LM_8, og, rfl, rfl, ⟨bX, bK, bR, bP, bP2, hq5.1, bTi, bTu, bTv, hq5.2, bZ, dz, e0, e4, e5, e1⟩, hq9.1, (E_go hok jx hrel hcx hcm), hP, hD⟩ hS hl
set_option maxHeartbeats 4000000 in
set_option maxRecDepth 100000 in
theorem lc_13 {p : Program} {e : Env} {s : State} {m : MethodId} {below : List Frame} {meth : Method} {c : Code} (l : Launch) {b Ln : Nat} {xs : Nat → Int32} (C0 : lw_At p s m meth c b Ln xs) (G : va_G) (cA : Nat → ClassId) {A : Nat → Prop} (hAe : A = fun q : Nat => s.heap.size ≤ q) (hK : va_K G vwCl (tyL cA) s) (hN : tqN s) {bA : Nat} (hB : tqB bA A s s.heap) {H : Heap} {locs : List Loc} {ls : Array Slot} {kc ks : Nat} (hfit : kc ≤ 601024 ∧ ks ≤ 7293034) {i : Int32} (hi : 0 ≤ i.toInt ∧ i.toInt + 6 ≤ (Ln : Int)) (hLn : Ln ≤ 3072) {x0 mm oa : Nat} (hI : lwP G cA A x0 mm oa H) (hS : va_S A s.heap H locs) (hl : lv_has ls 7 [(4, .int i), (3, .ref oa), (2, .ref mm), (1, .ref x0), (0, .ref b)]) (hk : (∀ (H : Heap) (locs : List Loc) (ls : Array Slot), lwP G cA A x0 mm oa H → va_S A s.heap H locs → lv_has ls 7 [(4, .int i), (3, .ref oa), (2, .ref mm), (1, .ref x0), (0, .ref b)] → W p l e room_1 s m #[Value.ref b] below meth c H locs kc ks (lw_Z below #[Value.ref b] s) (F0 m 1217 ls []))) : W p l e room_1 s m #[Value.ref b] below meth c H locs kc ks (lw_Z below #[Value.ref b] s) (F0 m 640 ls []) := by
  obtain ⟨hx, hb, hr, hml, hown, hts, hX, hbl, hlocks, hgv⟩ := id C0
  have hT : ∀ v ∈ T0, v.before #[Value.ref b] s = true := fun v h => hts v (tq_law_in v h)
  have hown : s.vm.findClass RL = some m.cls := hown
  have hA : ∀ q : Nat, s.heap.size ≤ q → A q := fun q h => by rw [hAe]; exact h
  have hbA : ¬ A b := by rw [hAe]; exact Nat.not_le.mpr hbl
  obtain ⟨xa, ka, ra, na, ia, ua, va, ca, za, pa, qa, aa, X, K, R, P, L, P2, L2, Tn, Ti, Tu, Tv, C, Z, q0, q1, q2, q3, q4, q5, S, LM, og, rfl, rfl, hok, jx, hrel, hP, hD⟩ := hI
  obtain ⟨bX, bK, bR, bP, bP2, bTn, bTi, bTu, bTv, bC, bZ, dz, e0, e4, e5, e1⟩ := id hok
  obtain ⟨w1, hw1⟩ : ∃ z, xs (i + 1).toNatClampNeg = z := ⟨_, rfl⟩
  obtain ⟨w2, hw2⟩ : ∃ z, xs (i + 2).toNatClampNeg = z := ⟨_, rfl⟩
  obtain ⟨w3, hw3⟩ : ∃ z, xs (i + 3).toNatClampNeg = z := ⟨_, rfl⟩
  obtain ⟨w4, hw4⟩ : ∃ z, xs (i + 4).toNatClampNeg = z := ⟨_, rfl⟩
  obtain ⟨w5, hw5⟩ : ∃ z, xs (i + 5).toNatClampNeg = z := ⟨_, rfl⟩
  refine lv_aload_n hx hb dL_law_640 rfl (lv_at hl 3 rfl) ?_
  refine lv_aload_n hx hb dL_law_641 rfl (lv_at hl 4 rfl) ?_
  refine lv_iload hx hb dL_law_642 (lv_at hl 0 rfl) ?_
  refine lv_iconst (v := 1) hx hb dL_law_644 (by decide) ?_
  refine lv_iadd hx hb dL_law_645 ?_
  refine va_sld (i := i + 1) hx hb hX hbl hbA hS (lw_in hi (by decide)) dL_law_646 ?_
  refine tq_i (w := w1) hw1 ?_
  obtain ⟨⟨r1, X_2, L_3, Tu_4, Tv_5, q2_6, q3_7⟩, hcx, hq8⟩ := (D_Ep (t_X7_least pa qa X P L Tn Tu Tv q0 q2 q3 q4 w1 bX bP bTn bTu bTv e0 e4) (e_least pa qa X P L Tn Tu Tv q0 q2 q3 q4 w1))
  refine lw_ci (As := [.int w1]) (rest := []) hP hD hS hA hK hN ⟨hx, hb, hml, hown, hT⟩ (c_X7_least l G cA H.size xa ka ra na ia ua va ca za pa qa X K R P L P2 L2 Tn Ti Tu Tv C Z q0 q1 q2 q3 q4 q5 w1 r1 X_2 L_3 Tu_4 Tv_5 q2_6 q3_7 hcx) (cwV 1 hT (tq_gV kw_45_23 kw_46_0 kw_46_1 kw_1_2 kw_46_2) rfl rfl rfl dkdV_yX7_least_1 ⟨Nat.le_of_ble_eq_true rfl, Nat.le_of_ble_eq_true rfl⟩) (wX_rec hK hP) rfl hl.1 rfl (lv_room (Nat.le_of_ble_eq_true rfl)) dL_law_647 hfit (fun _ _ H locs z9 hP hD hS => ?_)
  have z9 := z9.symm
  subst z9
  refine lv_pop hx hb dL_law_650 rfl ?_
  refine lv_aload_n hx hb dL_law_651 rfl (lv_at hl 2 rfl) ?_
  refine lv_aload_n hx hb dL_law_652 rfl (lv_at hl 4 rfl) ?_
  refine lv_iload hx hb dL_law_653 (lv_at hl 0 rfl) ?_
  refine lv_iconst (v := 1) hx hb dL_law_655 (by decide) ?_
  refine lv_iadd hx hb dL_law_656 ?_
  refine va_sld (i := i + 1) hx hb hX hbl hbA hS (lw_in hi (by decide)) dL_law_657 ?_
  refine tq_i (w := w1) hw1 ?_
  obtain ⟨⟨r9, S_10, LM_11⟩, hcm, hq12⟩ := (Q_least S LM w1 jx)
  replace hP : va_P G vwCl (wM cA aa S LM ++ (wX cA xa ka ra na ia ua va ca za pa qa X_2 K R P L_3 P2 L2 Tn Ti Tu_4 Tv_5 C Z q0 q1 q2_6 q3_7 q4 q5 ++ [(oa, .inl (cA 2, 1, .inr (.inl og)))])) H := tw_P wl_rot hP
  replace hD : va_D A (wM cA aa S LM ++ (wX cA xa ka ra na ia ua va ca za pa qa X_2 K R P L_3 P2 L2 Tn Ti Tu_4 Tv_5 C Z q0 q1 q2_6 q3_7 q4 q5 ++ [(oa, .inl (cA 2, 1, .inr (.inl og)))])) := tw_D wl_rot hD
  refine lw_ci (As := [.int w1]) (rest := []) hP hD hS hA hK hN ⟨hx, hb, hml, hown, hT⟩ (c_X8_least l G cA H.size aa S LM w1 r9 S_10 LM_11 hcm) (cwV 1 hT (tq_gV kw_47_18 kw_47_19 kw_47_20 kw_1_5 kw_47_21) rfl rfl rfl dkdV_yX8_least_1 ⟨Nat.le_of_ble_eq_true rfl, Nat.le_of_ble_eq_true rfl⟩) (wM_rec hK hP) rfl hl.1 rfl (lv_room (Nat.le_of_ble_eq_true rfl)) dL_law_658 hfit (fun _ _ H locs z9 hP hD hS => ?_)
  have z9 := z9.symm
  subst z9
  replace hP : va_P G vwCl (wX cA xa ka ra na ia ua va ca za pa qa X_2 K R P L_3 P2 L2 Tn Ti Tu_4 Tv_5 C Z q0 q1 q2_6 q3_7 q4 q5 ++ (wM cA aa S_10 LM_11 ++ [(oa, .inl (cA 2, 1, .inr (.inl og)))])) H := tw_P wl_rot hP
  replace hD : va_D A (wX cA xa ka ra na ia ua va ca za pa qa X_2 K R P L_3 P2 L2 Tn Ti Tu_4 Tv_5 C Z q0 q1 q2_6 q3_7 q4 q5 ++ (wM cA aa S_10 LM_11 ++ [(oa, .inl (cA 2, 1, .inr (.inl og)))])) := tw_D wl_rot hD
  refine lv_pop hx hb dL_law_661 rfl ?_
  refine lv_goto (tgt := 1217) hx hb dL_law_662 (by decide) ?_
  exact hk H locs ls ⟨xa, ka, ra, na, ia, ua, va, ca, za, pa, qa, aa, X_2, K, R, P, L_3, P2, L2, Tn, Ti, Tu_4, Tv_5, C, Z, q0, q1, q2_6, q3_7, q4, q5, S_10, LM_11, og, rfl, rfl, ⟨hq8.1.1, bK, bR, bP, bP2, bTn, bTi, hq8.1.2.1, hq8.1.2.2, bC, bZ, dz, e0, e4, e5, (fun hz => e1 (fun h9 => hz ((congrFun hq8.2 4).trans h9)))⟩, hq12.1, (E_least hok jx hrel hcx hcm), hP, hD⟩ hS hl
set_option maxHeartbeats 4000000 in
set_option maxRecDepth 100000 in
theorem lc_14 {p : Program} {e : Env} {s : State} {m : MethodId} {below : List Frame} {meth : Method} {c : Code} (l : Launch) {b Ln : Nat} {xs : Nat → Int32} (C0 : lw_At p s m meth c b Ln xs) (G : va_G) (cA : Nat → ClassId) {A : Nat → Prop} (hAe : A = fun q : Nat => s.heap.size ≤ q) (hK : va_K G vwCl (tyL cA) s) (hN : tqN s) {bA : Nat} (hB : tqB bA A s s.heap) {H : Heap} {locs : List Loc} {ls : Array Slot} {kc ks : Nat} (hfit : kc ≤ 601024 ∧ ks ≤ 7293034) {i : Int32} (hi : 0 ≤ i.toInt ∧ i.toInt + 6 ≤ (Ln : Int)) (hLn : Ln ≤ 3072) {x0 mm oa : Nat} (hI : lwP G cA A x0 mm oa H) (hS : va_S A s.heap H locs) (hl : lv_has ls 7 [(4, .int i), (3, .ref oa), (2, .ref mm), (1, .ref x0), (0, .ref b)]) (hk : (∀ (H : Heap) (locs : List Loc) (ls : Array Slot), lwP G cA A x0 mm oa H → va_S A s.heap H locs → lv_has ls 7 [(4, .int i), (3, .ref oa), (2, .ref mm), (1, .ref x0), (0, .ref b)] → W p l e room_1 s m #[Value.ref b] below meth c H locs kc ks (lw_Z below #[Value.ref b] s) (F0 m 1217 ls []))) : W p l e room_1 s m #[Value.ref b] below meth c H locs kc ks (lw_Z below #[Value.ref b] s) (F0 m 665 ls []) := by
  obtain ⟨hx, hb, hr, hml, hown, hts, hX, hbl, hlocks, hgv⟩ := id C0
  have hT : ∀ v ∈ T0, v.before #[Value.ref b] s = true := fun v h => hts v (tq_law_in v h)
  have hown : s.vm.findClass RL = some m.cls := hown
  have hA : ∀ q : Nat, s.heap.size ≤ q → A q := fun q h => by rw [hAe]; exact h
  have hbA : ¬ A b := by rw [hAe]; exact Nat.not_le.mpr hbl
  obtain ⟨xa, ka, ra, na, ia, ua, va, ca, za, pa, qa, aa, X, K, R, P, L, P2, L2, Tn, Ti, Tu, Tv, C, Z, q0, q1, q2, q3, q4, q5, S, LM, og, rfl, rfl, hok, jx, hrel, hP, hD⟩ := hI
  obtain ⟨bX, bK, bR, bP, bP2, bTn, bTi, bTu, bTv, bC, bZ, dz, e0, e4, e5, e1⟩ := id hok
  obtain ⟨w1, hw1⟩ : ∃ z, xs (i + 1).toNatClampNeg = z := ⟨_, rfl⟩
  obtain ⟨w2, hw2⟩ : ∃ z, xs (i + 2).toNatClampNeg = z := ⟨_, rfl⟩
  obtain ⟨w3, hw3⟩ : ∃ z, xs (i + 3).toNatClampNeg = z := ⟨_, rfl⟩
  obtain ⟨w4, hw4⟩ : ∃ z, xs (i + 4).toNatClampNeg = z := ⟨_, rfl⟩
  obtain ⟨w5, hw5⟩ : ∃ z, xs (i + 5).toNatClampNeg = z := ⟨_, rfl⟩
  refine lv_aload_n hx hb dL_law_665 rfl (lv_at hl 3 rfl) ?_
  refine lv_aload_n hx hb dL_law_666 rfl (lv_at hl 4 rfl) ?_
  refine lv_iload hx hb dL_law_667 (lv_at hl 0 rfl) ?_
  refine lv_iconst (v := 1) hx hb dL_law_669 (by decide) ?_
  refine lv_iadd hx hb dL_law_670 ?_
  refine va_sld (i := i + 1) hx hb hX hbl hbA hS (lw_in hi (by decide)) dL_law_671 ?_
  refine tq_i (w := w1) hw1 ?_
  refine lv_aload_n hx hb dL_law_672 rfl (lv_at hl 4 rfl) ?_
  refine lv_iload hx hb dL_law_673 (lv_at hl 0 rfl) ?_
  refine lv_iconst (v := 2) hx hb dL_law_675 (by decide) ?_
  refine lv_iadd hx hb dL_law_676 ?_
  refine va_sld (i := i + 2) hx hb hX hbl hbA hS (lw_in hi (by decide)) dL_law_677 ?_
  refine tq_i (w := w2) hw2 ?_
  obtain ⟨⟨r1, L_2, Tu_3, q2_4⟩, hcx, hq5⟩ := (t_X7_mine pa qa P L Tn Tu q0 q2 q4 w1 w2 bP bTn bTu e0 e4)
  refine lw_ci (As := [.int w1, .int w2]) (rest := []) hP hD hS hA hK hN ⟨hx, hb, hml, hown, hT⟩ (c_X7_mine l G cA H.size xa ka ra na ia ua va ca za pa qa X K R P L P2 L2 Tn Ti Tu Tv C Z q0 q1 q2 q3 q4 q5 w1 w2 r1 L_2 Tu_3 q2_4 hcx) (cwV 2 hT (tq_gV kw_48_13 kw_48_14 kw_48_15 kw_1_2 kw_48_16) rfl rfl rfl dkdV_yX7_mine_2 ⟨Nat.le_of_ble_eq_true rfl, Nat.le_of_ble_eq_true rfl⟩) (wX_rec hK hP) rfl hl.1 rfl (lv_room (Nat.le_of_ble_eq_true rfl)) dL_law_678 hfit (fun _ _ H locs z9 hP hD hS => ?_)
  have z9 := z9.symm
  subst z9
  refine lv_pop hx hb dL_law_681 rfl ?_
  refine lv_aload_n hx hb dL_law_682 rfl (lv_at hl 2 rfl) ?_
  refine lv_aload_n hx hb dL_law_683 rfl (lv_at hl 4 rfl) ?_
  refine lv_iload hx hb dL_law_684 (lv_at hl 0 rfl) ?_
  refine lv_iconst (v := 1) hx hb dL_law_686 (by decide) ?_
  refine lv_iadd hx hb dL_law_687 ?_
  refine va_sld (i := i + 1) hx hb hX hbl hbA hS (lw_in hi (by decide)) dL_law_688 ?_
  refine tq_i (w := w1) hw1 ?_
  refine lv_aload_n hx hb dL_law_689 rfl (lv_at hl 4 rfl) ?_
  refine lv_iload hx hb dL_law_690 (lv_at hl 0 rfl) ?_
  refine lv_iconst (v := 2) hx hb dL_law_692 (by decide) ?_
  refine lv_iadd hx hb dL_law_693 ?_
  refine va_sld (i := i + 2) hx hb hX hbl hbA hS (lw_in hi (by decide)) dL_law_694 ?_
  refine tq_i (w := w2) hw2 ?_
  obtain ⟨⟨r6, S_7, LM_8⟩, hcm, hq9⟩ := (Q_mine S LM w1 w2 jx)
  replace hP : va_P G vwCl (wM cA aa S LM ++ (wX cA xa ka ra na ia ua va ca za pa qa X K R P L_2 P2 L2 Tn Ti Tu_3 Tv C Z q0 q1 q2_4 q3 q4 q5 ++ [(oa, .inl (cA 2, 1, .inr (.inl og)))])) H := tw_P wl_rot hP
  replace hD : va_D A (wM cA aa S LM ++ (wX cA xa ka ra na ia ua va ca za pa qa X K R P L_2 P2 L2 Tn Ti Tu_3 Tv C Z q0 q1 q2_4 q3 q4 q5 ++ [(oa, .inl (cA 2, 1, .inr (.inl og)))])) := tw_D wl_rot hD
  refine lw_ci (As := [.int w1, .int w2]) (rest := []) hP hD hS hA hK hN ⟨hx, hb, hml, hown, hT⟩ (c_X8_mine l G cA H.size aa S LM w1 w2 r6 S_7 LM_8 hcm) (cwV 2 hT (tq_gV kw_48_21 kw_48_22 kw_48_23 kw_1_5 kw_49_0) rfl rfl rfl dkdV_yX8_mine_2 ⟨Nat.le_of_ble_eq_true rfl, Nat.le_of_ble_eq_true rfl⟩) (wM_rec hK hP) rfl hl.1 rfl (lv_room (Nat.le_of_ble_eq_true rfl)) dL_law_695 hfit (fun _ _ H locs z9 hP hD hS => ?_)
  have z9 := z9.symm
  subst z9
  replace hP : va_P G vwCl (wX cA xa ka ra na ia ua va ca za pa qa X K R P L_2 P2 L2 Tn Ti Tu_3 Tv C Z q0 q1 q2_4 q3 q4 q5 ++ (wM cA aa S_7 LM_8 ++ [(oa, .inl (cA 2, 1, .inr (.inl og)))])) H := tw_P wl_rot hP
  replace hD : va_D A (wX cA xa ka ra na ia ua va ca za pa qa X K R P L_2 P2 L2 Tn Ti Tu_3 Tv C Z q0 q1 q2_4 q3 q4 q5 ++ (wM cA aa S_7 LM_8 ++ [(oa, .inl (cA 2, 1, .inr (.inl og)))])) := tw_D wl_rot hD
  refine lv_pop hx hb dL_law_698 rfl ?_
  refine lv_goto (tgt := 1217) hx hb dL_law_699 (by decide) ?_
  exact hk H locs ls ⟨xa, ka, ra, na, ia, ua, va, ca, za, pa, qa, aa, X, K, R, P, L_2, P2, L2, Tn, Ti, Tu_3, Tv, C, Z, q0, q1, q2_4, q3, q4, q5, S_7, LM_8, og, rfl, rfl, ⟨bX, bK, bR, bP, bP2, bTn, bTi, hq5, bTv, bC, bZ, dz, e0, e4, e5, e1⟩, hq9.1, (E_mine hok jx hrel hcx hcm), hP, hD⟩ hS hl
set_option maxHeartbeats 4000000 in
set_option maxRecDepth 100000 in
theorem lc_15 {p : Program} {e : Env} {s : State} {m : MethodId} {below : List Frame} {meth : Method} {c : Code} (l : Launch) {b Ln : Nat} {xs : Nat → Int32} (C0 : lw_At p s m meth c b Ln xs) (G : va_G) (cA : Nat → ClassId) {A : Nat → Prop} (hAe : A = fun q : Nat => s.heap.size ≤ q) (hK : va_K G vwCl (tyL cA) s) (hN : tqN s) {bA : Nat} (hB : tqB bA A s s.heap) {H : Heap} {locs : List Loc} {ls : Array Slot} {kc ks : Nat} (hfit : kc ≤ 601024 ∧ ks ≤ 7293034) {i : Int32} (hi : 0 ≤ i.toInt ∧ i.toInt + 6 ≤ (Ln : Int)) (hLn : Ln ≤ 3072) {x0 mm oa : Nat} (hI : lwP G cA A x0 mm oa H) (hS : va_S A s.heap H locs) (hl : lv_has ls 7 [(4, .int i), (3, .ref oa), (2, .ref mm), (1, .ref x0), (0, .ref b)]) (hk : (∀ (H : Heap) (locs : List Loc) (ls : Array Slot), lwP G cA A x0 mm oa H → va_S A s.heap H locs → lv_has ls 7 [(4, .int i), (3, .ref oa), (2, .ref mm), (1, .ref x0), (0, .ref b)] → W p l e room_1 s m #[Value.ref b] below meth c H locs kc ks (lw_Z below #[Value.ref b] s) (F0 m 1217 ls []))) : W p l e room_1 s m #[Value.ref b] below meth c H locs kc ks (lw_Z below #[Value.ref b] s) (F0 m 702 ls []) := by
  obtain ⟨hx, hb, hr, hml, hown, hts, hX, hbl, hlocks, hgv⟩ := id C0
  have hT : ∀ v ∈ T0, v.before #[Value.ref b] s = true := fun v h => hts v (tq_law_in v h)
  have hown : s.vm.findClass RL = some m.cls := hown
  have hA : ∀ q : Nat, s.heap.size ≤ q → A q := fun q h => by rw [hAe]; exact h
  have hbA : ¬ A b := by rw [hAe]; exact Nat.not_le.mpr hbl
  obtain ⟨xa, ka, ra, na, ia, ua, va, ca, za, pa, qa, aa, X, K, R, P, L, P2, L2, Tn, Ti, Tu, Tv, C, Z, q0, q1, q2, q3, q4, q5, S, LM, og, rfl, rfl, hok, jx, hrel, hP, hD⟩ := hI
  obtain ⟨bX, bK, bR, bP, bP2, bTn, bTi, bTu, bTv, bC, bZ, dz, e0, e4, e5, e1⟩ := id hok
  obtain ⟨w1, hw1⟩ : ∃ z, xs (i + 1).toNatClampNeg = z := ⟨_, rfl⟩
  obtain ⟨w2, hw2⟩ : ∃ z, xs (i + 2).toNatClampNeg = z := ⟨_, rfl⟩
  obtain ⟨w3, hw3⟩ : ∃ z, xs (i + 3).toNatClampNeg = z := ⟨_, rfl⟩
  obtain ⟨w4, hw4⟩ : ∃ z, xs (i + 4).toNatClampNeg = z := ⟨_, rfl⟩
  obtain ⟨w5, hw5⟩ : ∃ z, xs (i + 5).toNatClampNeg = z := ⟨_, rfl⟩
  refine lv_aload_n hx hb dL_law_702 rfl (lv_at hl 3 rfl) ?_
  refine lv_aload_n hx hb dL_law_703 rfl (lv_at hl 4 rfl) ?_
  refine lv_iload hx hb dL_law_704 (lv_at hl 0 rfl) ?_
  refine lv_iconst (v := 1) hx hb dL_law_706 (by decide) ?_
  refine lv_iadd hx hb dL_law_707 ?_
  refine va_sld (i := i + 1) hx hb hX hbl hbA hS (lw_in hi (by decide)) dL_law_708 ?_
  refine tq_i (w := w1) hw1 ?_
  refine lv_aload_n hx hb dL_law_709 rfl (lv_at hl 4 rfl) ?_
  refine lv_iload hx hb dL_law_710 (lv_at hl 0 rfl) ?_
  refine lv_iconst (v := 2) hx hb dL_law_712 (by decide) ?_
  refine lv_iadd hx hb dL_law_713 ?_
  refine va_sld (i := i + 2) hx hb hX hbl hbA hS (lw_in hi (by decide)) dL_law_714 ?_
  refine tq_i (w := w2) hw2 ?_
  obtain ⟨⟨r1, L_2, Tu_3, Tv_4, q2_5, q3_6⟩, hcx, hq7⟩ := (t_X7_when pa qa P L Tn Tu Tv q0 q2 q3 q4 w1 w2 bP bTn bTu bTv e0 e4)
  refine lw_ci (As := [.int w1, .int w2]) (rest := []) hP hD hS hA hK hN ⟨hx, hb, hml, hown, hT⟩ (c_X7_when l G cA H.size xa ka ra na ia ua va ca za pa qa X K R P L P2 L2 Tn Ti Tu Tv C Z q0 q1 q2 q3 q4 q5 w1 w2 r1 L_2 Tu_3 Tv_4 q2_5 q3_6 hcx) (cwV 2 hT (tq_gV kw_49_1 kw_49_2 kw_49_3 kw_1_2 kw_49_4) rfl rfl rfl dkdV_yX7_when_2 ⟨Nat.le_of_ble_eq_true rfl, Nat.le_of_ble_eq_true rfl⟩) (wX_rec hK hP) rfl hl.1 rfl (lv_room (Nat.le_of_ble_eq_true rfl)) dL_law_715 hfit (fun _ _ H locs z9 hP hD hS => ?_)
  have z9 := z9.symm
  subst z9
  refine lv_pop hx hb dL_law_718 rfl ?_
  refine lv_aload_n hx hb dL_law_719 rfl (lv_at hl 2 rfl) ?_
  refine lv_aload_n hx hb dL_law_720 rfl (lv_at hl 4 rfl) ?_
  refine lv_iload hx hb dL_law_721 (lv_at hl 0 rfl) ?_
  refine lv_iconst (v := 1) hx hb dL_law_723 (by decide) ?_
  refine lv_iadd hx hb dL_law_724 ?_
  refine va_sld (i := i + 1) hx hb hX hbl hbA hS (lw_in hi (by decide)) dL_law_725 ?_
  refine tq_i (w := w1) hw1 ?_
  refine lv_aload_n hx hb dL_law_726 rfl (lv_at hl 4 rfl) ?_
  refine lv_iload hx hb dL_law_727 (lv_at hl 0 rfl) ?_
  refine lv_iconst (v := 2) hx hb dL_law_729 (by decide) ?_
  refine lv_iadd hx hb dL_law_730 ?_
  refine va_sld (i := i + 2) hx hb hX hbl hbA hS (lw_in hi (by decide)) dL_law_731 ?_
  refine tq_i (w := w2) hw2 ?_
  obtain ⟨⟨r8, S_9, LM_10⟩, hcm, hq11⟩ := (Q_when S LM w1 w2 jx)
  replace hP : va_P G vwCl (wM cA aa S LM ++ (wX cA xa ka ra na ia ua va ca za pa qa X K R P L_2 P2 L2 Tn Ti Tu_3 Tv_4 C Z q0 q1 q2_5 q3_6 q4 q5 ++ [(oa, .inl (cA 2, 1, .inr (.inl og)))])) H := tw_P wl_rot hP
  replace hD : va_D A (wM cA aa S LM ++ (wX cA xa ka ra na ia ua va ca za pa qa X K R P L_2 P2 L2 Tn Ti Tu_3 Tv_4 C Z q0 q1 q2_5 q3_6 q4 q5 ++ [(oa, .inl (cA 2, 1, .inr (.inl og)))])) := tw_D wl_rot hD
  refine lw_ci (As := [.int w1, .int w2]) (rest := []) hP hD hS hA hK hN ⟨hx, hb, hml, hown, hT⟩ (c_X8_when l G cA H.size aa S LM w1 w2 r8 S_9 LM_10 hcm) (cwV 2 hT (tq_gV kw_49_9 kw_49_10 kw_49_11 kw_1_5 kw_49_12) rfl rfl rfl dkdV_yX8_when_2 ⟨Nat.le_of_ble_eq_true rfl, Nat.le_of_ble_eq_true rfl⟩) (wM_rec hK hP) rfl hl.1 rfl (lv_room (Nat.le_of_ble_eq_true rfl)) dL_law_732 hfit (fun _ _ H locs z9 hP hD hS => ?_)
  have z9 := z9.symm
  subst z9
  replace hP : va_P G vwCl (wX cA xa ka ra na ia ua va ca za pa qa X K R P L_2 P2 L2 Tn Ti Tu_3 Tv_4 C Z q0 q1 q2_5 q3_6 q4 q5 ++ (wM cA aa S_9 LM_10 ++ [(oa, .inl (cA 2, 1, .inr (.inl og)))])) H := tw_P wl_rot hP
  replace hD : va_D A (wX cA xa ka ra na ia ua va ca za pa qa X K R P L_2 P2 L2 Tn Ti Tu_3 Tv_4 C Z q0 q1 q2_5 q3_6 q4 q5 ++ (wM cA aa S_9 LM_10 ++ [(oa, .inl (cA 2, 1, .inr (.inl og)))])) := tw_D wl_rot hD
  refine lv_pop hx hb dL_law_735 rfl ?_
  refine lv_goto (tgt := 1217) hx hb dL_law_736 (by decide) ?_
  exact hk H locs ls ⟨xa, ka, ra, na, ia, ua, va, ca, za, pa, qa, aa, X, K, R, P, L_2, P2, L2, Tn, Ti, Tu_3, Tv_4, C, Z, q0, q1, q2_5, q3_6, q4, q5, S_9, LM_10, og, rfl, rfl, ⟨bX, bK, bR, bP, bP2, bTn, bTi, hq7.1, hq7.2, bC, bZ, dz, e0, e4, e5, e1⟩, hq11.1, (E_when hok jx hrel hcx hcm), hP, hD⟩ hS hl
set_option maxHeartbeats 4000000 in
set_option maxRecDepth 100000 in
theorem lc_16 {p : Program} {e : Env} {s : State} {m : MethodId} {below : List Frame} {meth : Method} {c : Code} (l : Launch) {b Ln : Nat} {xs : Nat → Int32} (C0 : lw_At p s m meth c b Ln xs) (G : va_G) (cA : Nat → ClassId) {A : Nat → Prop} (hAe : A = fun q : Nat => s.heap.size ≤ q) (hK : va_K G vwCl (tyL cA) s) (hN : tqN s) {bA : Nat} (hB : tqB bA A s s.heap) {H : Heap} {locs : List Loc} {ls : Array Slot} {kc ks : Nat} (hfit : kc ≤ 601024 ∧ ks ≤ 7293034) {i : Int32} (hi : 0 ≤ i.toInt ∧ i.toInt + 6 ≤ (Ln : Int)) (hLn : Ln ≤ 3072) {x0 mm oa : Nat} (hI : lwP G cA A x0 mm oa H) (hS : va_S A s.heap H locs) (hl : lv_has ls 7 [(4, .int i), (3, .ref oa), (2, .ref mm), (1, .ref x0), (0, .ref b)]) (hk : (∀ (H : Heap) (locs : List Loc) (ls : Array Slot), lwP G cA A x0 mm oa H → va_S A s.heap H locs → lv_has ls 7 [(4, .int i), (3, .ref oa), (2, .ref mm), (1, .ref x0), (0, .ref b)] → W p l e room_1 s m #[Value.ref b] below meth c H locs kc ks (lw_Z below #[Value.ref b] s) (F0 m 1217 ls []))) : W p l e room_1 s m #[Value.ref b] below meth c H locs kc ks (lw_Z below #[Value.ref b] s) (F0 m 739 ls []) := by
  obtain ⟨hx, hb, hr, hml, hown, hts, hX, hbl, hlocks, hgv⟩ := id C0
  have hT : ∀ v ∈ T0, v.before #[Value.ref b] s = true := fun v h => hts v (tq_law_in v h)
  have hown : s.vm.findClass RL = some m.cls := hown
  have hA : ∀ q : Nat, s.heap.size ≤ q → A q := fun q h => by rw [hAe]; exact h
  have hbA : ¬ A b := by rw [hAe]; exact Nat.not_le.mpr hbl
  obtain ⟨xa, ka, ra, na, ia, ua, va, ca, za, pa, qa, aa, X, K, R, P, L, P2, L2, Tn, Ti, Tu, Tv, C, Z, q0, q1, q2, q3, q4, q5, S, LM, og, rfl, rfl, hok, jx, hrel, hP, hD⟩ := hI
  obtain ⟨bX, bK, bR, bP, bP2, bTn, bTi, bTu, bTv, bC, bZ, dz, e0, e4, e5, e1⟩ := id hok
  obtain ⟨w1, hw1⟩ : ∃ z, xs (i + 1).toNatClampNeg = z := ⟨_, rfl⟩
  obtain ⟨w2, hw2⟩ : ∃ z, xs (i + 2).toNatClampNeg = z := ⟨_, rfl⟩
  obtain ⟨w3, hw3⟩ : ∃ z, xs (i + 3).toNatClampNeg = z := ⟨_, rfl⟩
  obtain ⟨w4, hw4⟩ : ∃ z, xs (i + 4).toNatClampNeg = z := ⟨_, rfl⟩
  obtain ⟨w5, hw5⟩ : ∃ z, xs (i + 5).toNatClampNeg = z := ⟨_, rfl⟩
  refine lv_aload_n hx hb dL_law_739 rfl (lv_at hl 3 rfl) ?_
  refine lv_aload_n hx hb dL_law_740 rfl (lv_at hl 4 rfl) ?_
  refine lv_iload hx hb dL_law_741 (lv_at hl 0 rfl) ?_
  refine lv_iconst (v := 1) hx hb dL_law_743 (by decide) ?_
  refine lv_iadd hx hb dL_law_744 ?_
  refine va_sld (i := i + 1) hx hb hX hbl hbA hS (lw_in hi (by decide)) dL_law_745 ?_
  refine tq_i (w := w1) hw1 ?_
  refine lv_aload_n hx hb dL_law_746 rfl (lv_at hl 4 rfl) ?_
  refine lv_iload hx hb dL_law_747 (lv_at hl 0 rfl) ?_
  refine lv_iconst (v := 2) hx hb dL_law_749 (by decide) ?_
  refine lv_iadd hx hb dL_law_750 ?_
  refine va_sld (i := i + 2) hx hb hX hbl hbA hS (lw_in hi (by decide)) dL_law_751 ?_
  refine tq_i (w := w2) hw2 ?_
  obtain ⟨⟨r1, X_2, L_3, Tu_4, q2_5⟩, hcx, hq6⟩ := (D_Ep (t_X7_rests pa qa X P L Tn Tu q0 q2 q4 w1 w2 bX bP bTn bTu e0 e4) (e_rests pa qa X P L Tn Tu q0 q2 q4 w1 w2))
  refine lw_ci (As := [.int w1, .int w2]) (rest := []) hP hD hS hA hK hN ⟨hx, hb, hml, hown, hT⟩ (c_X7_rests l G cA H.size xa ka ra na ia ua va ca za pa qa X K R P L P2 L2 Tn Ti Tu Tv C Z q0 q1 q2 q3 q4 q5 w1 w2 r1 X_2 L_3 Tu_4 q2_5 hcx) (cwV 2 hT (tq_gV kw_49_13 kw_49_14 kw_49_15 kw_1_2 kw_49_16) rfl rfl rfl dkdV_yX7_rests_2 ⟨Nat.le_of_ble_eq_true rfl, Nat.le_of_ble_eq_true rfl⟩) (wX_rec hK hP) rfl hl.1 rfl (lv_room (Nat.le_of_ble_eq_true rfl)) dL_law_752 hfit (fun _ _ H locs z9 hP hD hS => ?_)
  have z9 := z9.symm
  subst z9
  refine lv_pop hx hb dL_law_755 rfl ?_
  refine lv_aload_n hx hb dL_law_756 rfl (lv_at hl 2 rfl) ?_
  refine lv_aload_n hx hb dL_law_757 rfl (lv_at hl 4 rfl) ?_
  refine lv_iload hx hb dL_law_758 (lv_at hl 0 rfl) ?_
  refine lv_iconst (v := 1) hx hb dL_law_760 (by decide) ?_
  refine lv_iadd hx hb dL_law_761 ?_
  refine va_sld (i := i + 1) hx hb hX hbl hbA hS (lw_in hi (by decide)) dL_law_762 ?_
  refine tq_i (w := w1) hw1 ?_
  refine lv_aload_n hx hb dL_law_763 rfl (lv_at hl 4 rfl) ?_
  refine lv_iload hx hb dL_law_764 (lv_at hl 0 rfl) ?_
  refine lv_iconst (v := 2) hx hb dL_law_766 (by decide) ?_
  refine lv_iadd hx hb dL_law_767 ?_
  refine va_sld (i := i + 2) hx hb hX hbl hbA hS (lw_in hi (by decide)) dL_law_768 ?_
  refine tq_i (w := w2) hw2 ?_
  obtain ⟨⟨r7, S_8, LM_9⟩, hcm, hq10⟩ := (Q_rests S LM w1 w2 jx)
  replace hP : va_P G vwCl (wM cA aa S LM ++ (wX cA xa ka ra na ia ua va ca za pa qa X_2 K R P L_3 P2 L2 Tn Ti Tu_4 Tv C Z q0 q1 q2_5 q3 q4 q5 ++ [(oa, .inl (cA 2, 1, .inr (.inl og)))])) H := tw_P wl_rot hP
  replace hD : va_D A (wM cA aa S LM ++ (wX cA xa ka ra na ia ua va ca za pa qa X_2 K R P L_3 P2 L2 Tn Ti Tu_4 Tv C Z q0 q1 q2_5 q3 q4 q5 ++ [(oa, .inl (cA 2, 1, .inr (.inl og)))])) := tw_D wl_rot hD
  refine lw_ci (As := [.int w1, .int w2]) (rest := []) hP hD hS hA hK hN ⟨hx, hb, hml, hown, hT⟩ (c_X8_rests l G cA H.size aa S LM w1 w2 r7 S_8 LM_9 hcm) (cwV 2 hT (tq_gV kw_50_9 kw_50_10 kw_50_11 kw_1_5 kw_50_12) rfl rfl rfl dkdV_yX8_rests_2 ⟨Nat.le_of_ble_eq_true rfl, Nat.le_of_ble_eq_true rfl⟩) (wM_rec hK hP) rfl hl.1 rfl (lv_room (Nat.le_of_ble_eq_true rfl)) dL_law_769 hfit (fun _ _ H locs z9 hP hD hS => ?_)
  have z9 := z9.symm
  subst z9
  replace hP : va_P G vwCl (wX cA xa ka ra na ia ua va ca za pa qa X_2 K R P L_3 P2 L2 Tn Ti Tu_4 Tv C Z q0 q1 q2_5 q3 q4 q5 ++ (wM cA aa S_8 LM_9 ++ [(oa, .inl (cA 2, 1, .inr (.inl og)))])) H := tw_P wl_rot hP
  replace hD : va_D A (wX cA xa ka ra na ia ua va ca za pa qa X_2 K R P L_3 P2 L2 Tn Ti Tu_4 Tv C Z q0 q1 q2_5 q3 q4 q5 ++ (wM cA aa S_8 LM_9 ++ [(oa, .inl (cA 2, 1, .inr (.inl og)))])) := tw_D wl_rot hD
  refine lv_pop hx hb dL_law_772 rfl ?_
  refine lv_goto (tgt := 1217) hx hb dL_law_773 (by decide) ?_
  exact hk H locs ls ⟨xa, ka, ra, na, ia, ua, va, ca, za, pa, qa, aa, X_2, K, R, P, L_3, P2, L2, Tn, Ti, Tu_4, Tv, C, Z, q0, q1, q2_5, q3, q4, q5, S_8, LM_9, og, rfl, rfl, ⟨hq6.1.1, bK, bR, bP, bP2, bTn, bTi, hq6.1.2, bTv, bC, bZ, dz, e0, e4, e5, (fun hz => e1 (fun h9 => hz ((congrFun hq6.2 4).trans h9)))⟩, hq10.1, (E_rests hok jx hrel hcx hcm), hP, hD⟩ hS hl
set_option maxHeartbeats 4000000 in
set_option maxRecDepth 100000 in
theorem lc_17 {p : Program} {e : Env} {s : State} {m : MethodId} {below : List Frame} {meth : Method} {c : Code} (l : Launch) {b Ln : Nat} {xs : Nat → Int32} (C0 : lw_At p s m meth c b Ln xs) (G : va_G) (cA : Nat → ClassId) {A : Nat → Prop} (hAe : A = fun q : Nat => s.heap.size ≤ q) (hK : va_K G vwCl (tyL cA) s) (hN : tqN s) {bA : Nat} (hB : tqB bA A s s.heap) {H : Heap} {locs : List Loc} {ls : Array Slot} {kc ks : Nat} (hfit : kc ≤ 601024 ∧ ks ≤ 7293034) {i : Int32} (hi : 0 ≤ i.toInt ∧ i.toInt + 6 ≤ (Ln : Int)) (hLn : Ln ≤ 3072) {x0 mm oa : Nat} (hI : lwP G cA A x0 mm oa H) (hS : va_S A s.heap H locs) (hl : lv_has ls 7 [(4, .int i), (3, .ref oa), (2, .ref mm), (1, .ref x0), (0, .ref b)]) (hk : (∀ (H : Heap) (locs : List Loc) (ls : Array Slot), lwP G cA A x0 mm oa H → va_S A s.heap H locs → lv_has ls 7 [(4, .int i), (3, .ref oa), (2, .ref mm), (1, .ref x0), (0, .ref b)] → W p l e room_1 s m #[Value.ref b] below meth c H locs kc ks (lw_Z below #[Value.ref b] s) (F0 m 1217 ls []))) : W p l e room_1 s m #[Value.ref b] below meth c H locs kc ks (lw_Z below #[Value.ref b] s) (F0 m 776 ls []) := by
  obtain ⟨hx, hb, hr, hml, hown, hts, hX, hbl, hlocks, hgv⟩ := id C0
  have hT : ∀ v ∈ T0, v.before #[Value.ref b] s = true := fun v h => hts v (tq_law_in v h)
  have hown : s.vm.findClass RL = some m.cls := hown
  have hA : ∀ q : Nat, s.heap.size ≤ q → A q := fun q h => by rw [hAe]; exact h
  have hbA : ¬ A b := by rw [hAe]; exact Nat.not_le.mpr hbl
  obtain ⟨xa, ka, ra, na, ia, ua, va, ca, za, pa, qa, aa, X, K, R, P, L, P2, L2, Tn, Ti, Tu, Tv, C, Z, q0, q1, q2, q3, q4, q5, S, LM, og, rfl, rfl, hok, jx, hrel, hP, hD⟩ := hI
  obtain ⟨bX, bK, bR, bP, bP2, bTn, bTi, bTu, bTv, bC, bZ, dz, e0, e4, e5, e1⟩ := id hok
  obtain ⟨w1, hw1⟩ : ∃ z, xs (i + 1).toNatClampNeg = z := ⟨_, rfl⟩
  obtain ⟨w2, hw2⟩ : ∃ z, xs (i + 2).toNatClampNeg = z := ⟨_, rfl⟩
  obtain ⟨w3, hw3⟩ : ∃ z, xs (i + 3).toNatClampNeg = z := ⟨_, rfl⟩
  obtain ⟨w4, hw4⟩ : ∃ z, xs (i + 4).toNatClampNeg = z := ⟨_, rfl⟩
  obtain ⟨w5, hw5⟩ : ∃ z, xs (i + 5).toNatClampNeg = z := ⟨_, rfl⟩
  refine lv_aload_n hx hb dL_law_776 rfl (lv_at hl 3 rfl) ?_
  refine lv_aload_n hx hb dL_law_777 rfl (lv_at hl 4 rfl) ?_
  refine lv_iload hx hb dL_law_778 (lv_at hl 0 rfl) ?_
  refine lv_iconst (v := 1) hx hb dL_law_780 (by decide) ?_
  refine lv_iadd hx hb dL_law_781 ?_
  refine va_sld (i := i + 1) hx hb hX hbl hbA hS (lw_in hi (by decide)) dL_law_782 ?_
  refine tq_i (w := w1) hw1 ?_
  refine lv_aload_n hx hb dL_law_783 rfl (lv_at hl 4 rfl) ?_
  refine lv_iload hx hb dL_law_784 (lv_at hl 0 rfl) ?_
  refine lv_iconst (v := 2) hx hb dL_law_786 (by decide) ?_
  refine lv_iadd hx hb dL_law_787 ?_
  refine va_sld (i := i + 2) hx hb hX hbl hbA hS (lw_in hi (by decide)) dL_law_788 ?_
  refine tq_i (w := w2) hw2 ?_
  refine lv_aload_n hx hb dL_law_789 rfl (lv_at hl 4 rfl) ?_
  refine lv_iload hx hb dL_law_790 (lv_at hl 0 rfl) ?_
  refine lv_iconst (v := 3) hx hb dL_law_792 (by decide) ?_
  refine lv_iadd hx hb dL_law_793 ?_
  refine va_sld (i := i + 3) hx hb hX hbl hbA hS (lw_in hi (by decide)) dL_law_794 ?_
  refine tq_i (w := w3) hw3 ?_
  obtain ⟨⟨r1, X_2, L_3, Tu_4, q2_5⟩, hcx, hq6⟩ := (D_Ep (t_X7_rest pa qa X P L Tn Tu q0 q2 q4 w1 w2 w3 bX bP bTn bTu e0 e4) (e_rest pa qa X P L Tn Tu q0 q2 q4 w1 w2 w3))
  refine lw_ci (As := [.int w1, .int w2, .int w3]) (rest := []) hP hD hS hA hK hN ⟨hx, hb, hml, hown, hT⟩ (c_X7_rest l G cA H.size xa ka ra na ia ua va ca za pa qa X K R P L P2 L2 Tn Ti Tu Tv C Z q0 q1 q2 q3 q4 q5 w1 w2 w3 r1 X_2 L_3 Tu_4 q2_5 hcx) (cwV 3 hT (tq_gV kw_51_1 kw_51_2 kw_51_3 kw_1_2 kw_51_4) rfl rfl rfl dkdV_yX7_rest_3 ⟨Nat.le_of_ble_eq_true rfl, Nat.le_of_ble_eq_true rfl⟩) (wX_rec hK hP) rfl hl.1 rfl (lv_room (Nat.le_of_ble_eq_true rfl)) dL_law_795 hfit (fun _ _ H locs z9 hP hD hS => ?_)
  have z9 := z9.symm
  subst z9
  refine lv_pop hx hb dL_law_798 rfl ?_
  refine lv_aload_n hx hb dL_law_799 rfl (lv_at hl 2 rfl) ?_
  refine lv_aload_n hx hb dL_law_800 rfl (lv_at hl 4 rfl) ?_
  refine lv_iload hx hb dL_law_801 (lv_at hl 0 rfl) ?_
  refine lv_iconst (v := 1) hx hb dL_law_803 (by decide) ?_
  refine lv_iadd hx hb dL_law_804 ?_
  refine va_sld (i := i + 1) hx hb hX hbl hbA hS (lw_in hi (by decide)) dL_law_805 ?_
  refine tq_i (w := w1) hw1 ?_
  refine lv_aload_n hx hb dL_law_806 rfl (lv_at hl 4 rfl) ?_
  refine lv_iload hx hb dL_law_807 (lv_at hl 0 rfl) ?_
  refine lv_iconst (v := 2) hx hb dL_law_809 (by decide) ?_
  refine lv_iadd hx hb dL_law_810 ?_
  refine va_sld (i := i + 2) hx hb hX hbl hbA hS (lw_in hi (by decide)) dL_law_811 ?_
  refine tq_i (w := w2) hw2 ?_
  refine lv_aload_n hx hb dL_law_812 rfl (lv_at hl 4 rfl) ?_
  refine lv_iload hx hb dL_law_813 (lv_at hl 0 rfl) ?_
  refine lv_iconst (v := 3) hx hb dL_law_815 (by decide) ?_
  refine lv_iadd hx hb dL_law_816 ?_
  refine va_sld (i := i + 3) hx hb hX hbl hbA hS (lw_in hi (by decide)) dL_law_817 ?_
  refine tq_i (w := w3) hw3 ?_
  obtain ⟨⟨r7, S_8, LM_9⟩, hcm, hq10⟩ := (Q_rest S LM w1 w2 w3 jx)
  replace hP : va_P G vwCl (wM cA aa S LM ++ (wX cA xa ka ra na ia ua va ca za pa qa X_2 K R P L_3 P2 L2 Tn Ti Tu_4 Tv C Z q0 q1 q2_5 q3 q4 q5 ++ [(oa, .inl (cA 2, 1, .inr (.inl og)))])) H := tw_P wl_rot hP
  replace hD : va_D A (wM cA aa S LM ++ (wX cA xa ka ra na ia ua va ca za pa qa X_2 K R P L_3 P2 L2 Tn Ti Tu_4 Tv C Z q0 q1 q2_5 q3 q4 q5 ++ [(oa, .inl (cA 2, 1, .inr (.inl og)))])) := tw_D wl_rot hD
  refine lw_ci (As := [.int w1, .int w2, .int w3]) (rest := []) hP hD hS hA hK hN ⟨hx, hb, hml, hown, hT⟩ (c_X8_rest l G cA H.size aa S LM w1 w2 w3 r7 S_8 LM_9 hcm) (cwV 3 hT (tq_gV kw_51_5 kw_51_6 kw_51_7 kw_1_5 kw_51_8) rfl rfl rfl dkdV_yX8_rest_3 ⟨Nat.le_of_ble_eq_true rfl, Nat.le_of_ble_eq_true rfl⟩) (wM_rec hK hP) rfl hl.1 rfl (lv_room (Nat.le_of_ble_eq_true rfl)) dL_law_818 hfit (fun _ _ H locs z9 hP hD hS => ?_)
  have z9 := z9.symm
  subst z9
  replace hP : va_P G vwCl (wX cA xa ka ra na ia ua va ca za pa qa X_2 K R P L_3 P2 L2 Tn Ti Tu_4 Tv C Z q0 q1 q2_5 q3 q4 q5 ++ (wM cA aa S_8 LM_9 ++ [(oa, .inl (cA 2, 1, .inr (.inl og)))])) H := tw_P wl_rot hP
  replace hD : va_D A (wX cA xa ka ra na ia ua va ca za pa qa X_2 K R P L_3 P2 L2 Tn Ti Tu_4 Tv C Z q0 q1 q2_5 q3 q4 q5 ++ (wM cA aa S_8 LM_9 ++ [(oa, .inl (cA 2, 1, .inr (.inl og)))])) := tw_D wl_rot hD
  refine lv_pop hx hb dL_law_821 rfl ?_
  refine lv_goto (tgt := 1217) hx hb dL_law_822 (by decide) ?_
  exact hk H locs ls ⟨xa, ka, ra, na, ia, ua, va, ca, za, pa, qa, aa, X_2, K, R, P, L_3, P2, L2, Tn, Ti, Tu_4, Tv, C, Z, q0, q1, q2_5, q3, q4, q5, S_8, LM_9, og, rfl, rfl, ⟨hq6.1.1, bK, bR, bP, bP2, bTn, bTi, hq6.1.2, bTv, bC, bZ, dz, e0, e4, e5, (fun hz => e1 (fun h9 => hz ((congrFun hq6.2 4).trans h9)))⟩, hq10.1, (E_rest hok jx hrel hcx hcm), hP, hD⟩ hS hl
set_option maxHeartbeats 4000000 in
set_option maxRecDepth 100000 in
theorem lc_18 {p : Program} {e : Env} {s : State} {m : MethodId} {below : List Frame} {meth : Method} {c : Code} (l : Launch) {b Ln : Nat} {xs : Nat → Int32} (C0 : lw_At p s m meth c b Ln xs) (G : va_G) (cA : Nat → ClassId) {A : Nat → Prop} (hAe : A = fun q : Nat => s.heap.size ≤ q) (hK : va_K G vwCl (tyL cA) s) (hN : tqN s) {bA : Nat} (hB : tqB bA A s s.heap) {H : Heap} {locs : List Loc} {ls : Array Slot} {kc ks : Nat} (hfit : kc ≤ 601024 ∧ ks ≤ 7293034) {i : Int32} (hi : 0 ≤ i.toInt ∧ i.toInt + 6 ≤ (Ln : Int)) (hLn : Ln ≤ 3072) {x0 mm oa : Nat} (hI : lwP G cA A x0 mm oa H) (hS : va_S A s.heap H locs) (hl : lv_has ls 7 [(4, .int i), (3, .ref oa), (2, .ref mm), (1, .ref x0), (0, .ref b)]) (hk : (∀ (H : Heap) (locs : List Loc) (ls : Array Slot), lwP G cA A x0 mm oa H → va_S A s.heap H locs → lv_has ls 7 [(4, .int i), (3, .ref oa), (2, .ref mm), (1, .ref x0), (0, .ref b)] → W p l e room_1 s m #[Value.ref b] below meth c H locs kc ks (lw_Z below #[Value.ref b] s) (F0 m 1217 ls []))) : W p l e room_1 s m #[Value.ref b] below meth c H locs kc ks (lw_Z below #[Value.ref b] s) (F0 m 825 ls []) := by
  obtain ⟨hx, hb, hr, hml, hown, hts, hX, hbl, hlocks, hgv⟩ := id C0
  have hT : ∀ v ∈ T0, v.before #[Value.ref b] s = true := fun v h => hts v (tq_law_in v h)
  have hown : s.vm.findClass RL = some m.cls := hown
  have hA : ∀ q : Nat, s.heap.size ≤ q → A q := fun q h => by rw [hAe]; exact h
  have hbA : ¬ A b := by rw [hAe]; exact Nat.not_le.mpr hbl
  obtain ⟨xa, ka, ra, na, ia, ua, va, ca, za, pa, qa, aa, X, K, R, P, L, P2, L2, Tn, Ti, Tu, Tv, C, Z, q0, q1, q2, q3, q4, q5, S, LM, og, rfl, rfl, hok, jx, hrel, hP, hD⟩ := hI
  obtain ⟨bX, bK, bR, bP, bP2, bTn, bTi, bTu, bTv, bC, bZ, dz, e0, e4, e5, e1⟩ := id hok
  obtain ⟨w1, hw1⟩ : ∃ z, xs (i + 1).toNatClampNeg = z := ⟨_, rfl⟩
  obtain ⟨w2, hw2⟩ : ∃ z, xs (i + 2).toNatClampNeg = z := ⟨_, rfl⟩
  obtain ⟨w3, hw3⟩ : ∃ z, xs (i + 3).toNatClampNeg = z := ⟨_, rfl⟩
  obtain ⟨w4, hw4⟩ : ∃ z, xs (i + 4).toNatClampNeg = z := ⟨_, rfl⟩
  obtain ⟨w5, hw5⟩ : ∃ z, xs (i + 5).toNatClampNeg = z := ⟨_, rfl⟩
  refine lv_aload_n hx hb dL_law_825 rfl (lv_at hl 3 rfl) ?_
  refine lv_aload_n hx hb dL_law_826 rfl (lv_at hl 4 rfl) ?_
  refine lv_iload hx hb dL_law_827 (lv_at hl 0 rfl) ?_
  refine lv_iconst (v := 1) hx hb dL_law_829 (by decide) ?_
  refine lv_iadd hx hb dL_law_830 ?_
  refine va_sld (i := i + 1) hx hb hX hbl hbA hS (lw_in hi (by decide)) dL_law_831 ?_
  refine tq_i (w := w1) hw1 ?_
  obtain ⟨⟨r1, L_2, Tu_3, q2_4⟩, hcx, hq5⟩ := (t_X7_byRule pa qa P L Tn Tu q0 q2 w1 bP bTn bTu e0)
  refine lw_ci (As := [.int w1]) (rest := []) hP hD hS hA hK hN ⟨hx, hb, hml, hown, hT⟩ (c_X7_byRule l G cA H.size xa ka ra na ia ua va ca za pa qa X K R P L P2 L2 Tn Ti Tu Tv C Z q0 q1 q2 q3 q4 q5 w1 r1 L_2 Tu_3 q2_4 hcx) (cwV 1 hT (tq_gV kw_51_9 kw_51_10 kw_51_11 kw_1_2 kw_51_12) rfl rfl rfl dkdV_yX7_byRule_1 ⟨Nat.le_of_ble_eq_true rfl, Nat.le_of_ble_eq_true rfl⟩) (wX_rec hK hP) rfl hl.1 rfl (lv_room (Nat.le_of_ble_eq_true rfl)) dL_law_832 hfit (fun _ _ H locs z9 hP hD hS => ?_)
  have z9 := z9.symm
  subst z9
  refine lv_aload_n hx hb dL_law_835 rfl (lv_at hl 2 rfl) ?_
  refine lv_aload_n hx hb dL_law_836 rfl (lv_at hl 4 rfl) ?_
  refine lv_iload hx hb dL_law_837 (lv_at hl 0 rfl) ?_
  refine lv_iconst (v := 1) hx hb dL_law_839 (by decide) ?_
  refine lv_iadd hx hb dL_law_840 ?_
  refine va_sld (i := i + 1) hx hb hX hbl hbA hS (lw_in hi (by decide)) dL_law_841 ?_
  refine tq_i (w := w1) hw1 ?_
  obtain ⟨⟨r6, S_7, LM_8⟩, hcm, hq9⟩ := (Q_byRule S LM w1 jx)
  replace hP : va_P G vwCl (wM cA aa S LM ++ (wX cA xa ka ra na ia ua va ca za pa qa X K R P L_2 P2 L2 Tn Ti Tu_3 Tv C Z q0 q1 q2_4 q3 q4 q5 ++ [(oa, .inl (cA 2, 1, .inr (.inl og)))])) H := tw_P wl_rot hP
  replace hD : va_D A (wM cA aa S LM ++ (wX cA xa ka ra na ia ua va ca za pa qa X K R P L_2 P2 L2 Tn Ti Tu_3 Tv C Z q0 q1 q2_4 q3 q4 q5 ++ [(oa, .inl (cA 2, 1, .inr (.inl og)))])) := tw_D wl_rot hD
  refine lw_ci (As := [.int w1]) (rest := [.int r1]) hP hD hS hA hK hN ⟨hx, hb, hml, hown, hT⟩ (c_X8_byRule l G cA H.size aa S LM w1 r6 S_7 LM_8 hcm) (cwV 1 hT (tq_gV kw_51_14 kw_51_15 kw_51_16 kw_1_5 kw_51_17) rfl rfl rfl dkdV_yX8_byRule_1 ⟨Nat.le_of_ble_eq_true rfl, Nat.le_of_ble_eq_true rfl⟩) (wM_rec hK hP) rfl hl.1 rfl (lv_room (Nat.le_of_ble_eq_true rfl)) dL_law_842 hfit (fun _ _ H locs z9 hP hD hS => ?_)
  have z9 := z9.symm
  subst z9
  replace hP : va_P G vwCl (wX cA xa ka ra na ia ua va ca za pa qa X K R P L_2 P2 L2 Tn Ti Tu_3 Tv C Z q0 q1 q2_4 q3 q4 q5 ++ (wM cA aa S_7 LM_8 ++ [(oa, .inl (cA 2, 1, .inr (.inl og)))])) H := tw_P wl_rot hP
  replace hD : va_D A (wX cA xa ka ra na ia ua va ca za pa qa X K R P L_2 P2 L2 Tn Ti Tu_3 Tv C Z q0 q1 q2_4 q3 q4 q5 ++ (wM cA aa S_7 LM_8 ++ [(oa, .inl (cA 2, 1, .inr (.inl og)))])) := tw_D wl_rot hD
  refine lv_icmp_eq (tgt := 1217) hx hb dL_law_845 (by decide) (fun c => ?_) (fun c => absurd (A_byRule hok jx hrel hcx hcm) c)
  exact hk H locs ls ⟨xa, ka, ra, na, ia, ua, va, ca, za, pa, qa, aa, X, K, R, P, L_2, P2, L2, Tn, Ti, Tu_3, Tv, C, Z, q0, q1, q2_4, q3, q4, q5, S_7, LM_8, og, rfl, rfl, ⟨bX, bK, bR, bP, bP2, bTn, bTi, hq5, bTv, bC, bZ, dz, e0, e4, e5, e1⟩, hq9.1, (E_byRule hok jx hrel hcx hcm), hP, hD⟩ hS hl
set_option maxHeartbeats 4000000 in
set_option maxRecDepth 100000 in
theorem lc_19 {p : Program} {e : Env} {s : State} {m : MethodId} {below : List Frame} {meth : Method} {c : Code} (l : Launch) {b Ln : Nat} {xs : Nat → Int32} (C0 : lw_At p s m meth c b Ln xs) (G : va_G) (cA : Nat → ClassId) {A : Nat → Prop} (hAe : A = fun q : Nat => s.heap.size ≤ q) (hK : va_K G vwCl (tyL cA) s) (hN : tqN s) {bA : Nat} (hB : tqB bA A s s.heap) {H : Heap} {locs : List Loc} {ls : Array Slot} {kc ks : Nat} (hfit : kc ≤ 601024 ∧ ks ≤ 7293034) {i : Int32} (hi : 0 ≤ i.toInt ∧ i.toInt + 6 ≤ (Ln : Int)) (hLn : Ln ≤ 3072) {x0 mm oa : Nat} (hI : lwP G cA A x0 mm oa H) (hS : va_S A s.heap H locs) (hl : lv_has ls 7 [(4, .int i), (3, .ref oa), (2, .ref mm), (1, .ref x0), (0, .ref b)]) (hk : (∀ (H : Heap) (locs : List Loc) (ls : Array Slot), lwP G cA A x0 mm oa H → va_S A s.heap H locs → lv_has ls 7 [(4, .int i), (3, .ref oa), (2, .ref mm), (1, .ref x0), (0, .ref b)] → W p l e room_1 s m #[Value.ref b] below meth c H locs kc ks (lw_Z below #[Value.ref b] s) (F0 m 1217 ls []))) : W p l e room_1 s m #[Value.ref b] below meth c H locs kc ks (lw_Z below #[Value.ref b] s) (F0 m 850 ls []) := by
  obtain ⟨hx, hb, hr, hml, hown, hts, hX, hbl, hlocks, hgv⟩ := id C0
  have hT : ∀ v ∈ T0, v.before #[Value.ref b] s = true := fun v h => hts v (tq_law_in v h)
  have hown : s.vm.findClass RL = some m.cls := hown
  have hA : ∀ q : Nat, s.heap.size ≤ q → A q := fun q h => by rw [hAe]; exact h
  have hbA : ¬ A b := by rw [hAe]; exact Nat.not_le.mpr hbl
  obtain ⟨xa, ka, ra, na, ia, ua, va, ca, za, pa, qa, aa, X, K, R, P, L, P2, L2, Tn, Ti, Tu, Tv, C, Z, q0, q1, q2, q3, q4, q5, S, LM, og, rfl, rfl, hok, jx, hrel, hP, hD⟩ := hI
  obtain ⟨bX, bK, bR, bP, bP2, bTn, bTi, bTu, bTv, bC, bZ, dz, e0, e4, e5, e1⟩ := id hok
  obtain ⟨w1, hw1⟩ : ∃ z, xs (i + 1).toNatClampNeg = z := ⟨_, rfl⟩
  obtain ⟨w2, hw2⟩ : ∃ z, xs (i + 2).toNatClampNeg = z := ⟨_, rfl⟩
  obtain ⟨w3, hw3⟩ : ∃ z, xs (i + 3).toNatClampNeg = z := ⟨_, rfl⟩
  obtain ⟨w4, hw4⟩ : ∃ z, xs (i + 4).toNatClampNeg = z := ⟨_, rfl⟩
  obtain ⟨w5, hw5⟩ : ∃ z, xs (i + 5).toNatClampNeg = z := ⟨_, rfl⟩
  refine lv_aload_n hx hb dL_law_850 rfl (lv_at hl 3 rfl) ?_
  obtain ⟨⟨r1, L_2, Tu_3, q2_4⟩, hcx, hq5⟩ := (t_X7_bestRule pa qa P L Tn Tu q0 q2 bP bTn bTu e0)
  refine lw_ci (As := []) (rest := []) hP hD hS hA hK hN ⟨hx, hb, hml, hown, hT⟩ (c_X7_bestRule l G cA H.size xa ka ra na ia ua va ca za pa qa X K R P L P2 L2 Tn Ti Tu Tv C Z q0 q1 q2 q3 q4 q5 r1 L_2 Tu_3 q2_4 hcx) (cwV 0 hT (tq_gV kw_51_22 kw_51_23 kw_52_0 kw_1_2 kw_52_1) rfl rfl rfl dkdV_yX7_bestRule_0 ⟨Nat.le_of_ble_eq_true rfl, Nat.le_of_ble_eq_true rfl⟩) (wX_rec hK hP) rfl hl.1 rfl (lv_room (Nat.le_of_ble_eq_true rfl)) dL_law_851 hfit (fun _ _ H locs z9 hP hD hS => ?_)
  have z9 := z9.symm
  subst z9
  refine lv_pop hx hb dL_law_854 rfl ?_
  refine lv_aload_n hx hb dL_law_855 rfl (lv_at hl 2 rfl) ?_
  obtain ⟨⟨r6, S_7, LM_8⟩, hcm, hq9⟩ := (Q_bestRule S LM jx)
  replace hP : va_P G vwCl (wM cA aa S LM ++ (wX cA xa ka ra na ia ua va ca za pa qa X K R P L_2 P2 L2 Tn Ti Tu_3 Tv C Z q0 q1 q2_4 q3 q4 q5 ++ [(oa, .inl (cA 2, 1, .inr (.inl og)))])) H := tw_P wl_rot hP
  replace hD : va_D A (wM cA aa S LM ++ (wX cA xa ka ra na ia ua va ca za pa qa X K R P L_2 P2 L2 Tn Ti Tu_3 Tv C Z q0 q1 q2_4 q3 q4 q5 ++ [(oa, .inl (cA 2, 1, .inr (.inl og)))])) := tw_D wl_rot hD
  refine lw_ci (As := []) (rest := []) hP hD hS hA hK hN ⟨hx, hb, hml, hown, hT⟩ (c_X8_bestRule l G cA H.size aa S LM r6 S_7 LM_8 hcm) (cwV 0 hT (tq_gV kw_52_3 kw_52_4 kw_52_5 kw_1_5 kw_52_6) rfl rfl rfl dkdV_yX8_bestRule_0 ⟨Nat.le_of_ble_eq_true rfl, Nat.le_of_ble_eq_true rfl⟩) (wM_rec hK hP) rfl hl.1 rfl (lv_room (Nat.le_of_ble_eq_true rfl)) dL_law_856 hfit (fun _ _ H locs z9 hP hD hS => ?_)
  have z9 := z9.symm
  subst z9
  replace hP : va_P G vwCl (wX cA xa ka ra na ia ua va ca za pa qa X K R P L_2 P2 L2 Tn Ti Tu_3 Tv C Z q0 q1 q2_4 q3 q4 q5 ++ (wM cA aa S_7 LM_8 ++ [(oa, .inl (cA 2, 1, .inr (.inl og)))])) H := tw_P wl_rot hP
  replace hD : va_D A (wX cA xa ka ra na ia ua va ca za pa qa X K R P L_2 P2 L2 Tn Ti Tu_3 Tv C Z q0 q1 q2_4 q3 q4 q5 ++ (wM cA aa S_7 LM_8 ++ [(oa, .inl (cA 2, 1, .inr (.inl og)))])) := tw_D wl_rot hD
  refine lv_pop hx hb dL_law_859 rfl ?_
  refine lv_goto (tgt := 1217) hx hb dL_law_860 (by decide) ?_
  exact hk H locs ls ⟨xa, ka, ra, na, ia, ua, va, ca, za, pa, qa, aa, X, K, R, P, L_2, P2, L2, Tn, Ti, Tu_3, Tv, C, Z, q0, q1, q2_4, q3, q4, q5, S_7, LM_8, og, rfl, rfl, ⟨bX, bK, bR, bP, bP2, bTn, bTi, hq5, bTv, bC, bZ, dz, e0, e4, e5, e1⟩, hq9.1, (E_bestRule hok jx hrel hcx hcm), hP, hD⟩ hS hl
set_option maxHeartbeats 4000000 in
set_option maxRecDepth 100000 in
theorem lc_20 {p : Program} {e : Env} {s : State} {m : MethodId} {below : List Frame} {meth : Method} {c : Code} (l : Launch) {b Ln : Nat} {xs : Nat → Int32} (C0 : lw_At p s m meth c b Ln xs) (G : va_G) (cA : Nat → ClassId) {A : Nat → Prop} (hAe : A = fun q : Nat => s.heap.size ≤ q) (hK : va_K G vwCl (tyL cA) s) (hN : tqN s) {bA : Nat} (hB : tqB bA A s s.heap) {H : Heap} {locs : List Loc} {ls : Array Slot} {kc ks : Nat} (hfit : kc ≤ 601024 ∧ ks ≤ 7293034) {i : Int32} (hi : 0 ≤ i.toInt ∧ i.toInt + 6 ≤ (Ln : Int)) (hLn : Ln ≤ 3072) {x0 mm oa : Nat} (hI : lwP G cA A x0 mm oa H) (hS : va_S A s.heap H locs) (hl : lv_has ls 7 [(4, .int i), (3, .ref oa), (2, .ref mm), (1, .ref x0), (0, .ref b)]) (hk : (∀ (H : Heap) (locs : List Loc) (ls : Array Slot), lwP G cA A x0 mm oa H → va_S A s.heap H locs → lv_has ls 7 [(4, .int i), (3, .ref oa), (2, .ref mm), (1, .ref x0), (0, .ref b)] → W p l e room_1 s m #[Value.ref b] below meth c H locs kc ks (lw_Z below #[Value.ref b] s) (F0 m 1217 ls []))) : W p l e room_1 s m #[Value.ref b] below meth c H locs kc ks (lw_Z below #[Value.ref b] s) (F0 m 863 ls []) := by
  obtain ⟨hx, hb, hr, hml, hown, hts, hX, hbl, hlocks, hgv⟩ := id C0
  have hT : ∀ v ∈ T0, v.before #[Value.ref b] s = true := fun v h => hts v (tq_law_in v h)
  have hown : s.vm.findClass RL = some m.cls := hown
  have hA : ∀ q : Nat, s.heap.size ≤ q → A q := fun q h => by rw [hAe]; exact h
  have hbA : ¬ A b := by rw [hAe]; exact Nat.not_le.mpr hbl
  obtain ⟨xa, ka, ra, na, ia, ua, va, ca, za, pa, qa, aa, X, K, R, P, L, P2, L2, Tn, Ti, Tu, Tv, C, Z, q0, q1, q2, q3, q4, q5, S, LM, og, rfl, rfl, hok, jx, hrel, hP, hD⟩ := hI
  obtain ⟨bX, bK, bR, bP, bP2, bTn, bTi, bTu, bTv, bC, bZ, dz, e0, e4, e5, e1⟩ := id hok
  obtain ⟨w1, hw1⟩ : ∃ z, xs (i + 1).toNatClampNeg = z := ⟨_, rfl⟩
  obtain ⟨w2, hw2⟩ : ∃ z, xs (i + 2).toNatClampNeg = z := ⟨_, rfl⟩
  obtain ⟨w3, hw3⟩ : ∃ z, xs (i + 3).toNatClampNeg = z := ⟨_, rfl⟩
  obtain ⟨w4, hw4⟩ : ∃ z, xs (i + 4).toNatClampNeg = z := ⟨_, rfl⟩
  obtain ⟨w5, hw5⟩ : ∃ z, xs (i + 5).toNatClampNeg = z := ⟨_, rfl⟩
  refine lv_aload_n hx hb dL_law_863 rfl (lv_at hl 3 rfl) ?_
  refine lv_aload_n hx hb dL_law_864 rfl (lv_at hl 4 rfl) ?_
  refine lv_iload hx hb dL_law_865 (lv_at hl 0 rfl) ?_
  refine lv_iconst (v := 1) hx hb dL_law_867 (by decide) ?_
  refine lv_iadd hx hb dL_law_868 ?_
  refine va_sld (i := i + 1) hx hb hX hbl hbA hS (lw_in hi (by decide)) dL_law_869 ?_
  refine tq_i (w := w1) hw1 ?_
  obtain ⟨⟨r1, L_2, Tu_3, Tv_4, q2_5, q3_6⟩, hcx, hq7⟩ := (t_X7_missed pa qa P L Tn Tu Tv q0 q2 q3 q4 w1 bP bTn bTu bTv e0 e4)
  refine lw_ci (As := [.int w1]) (rest := []) hP hD hS hA hK hN ⟨hx, hb, hml, hown, hT⟩ (c_X7_missed l G cA H.size xa ka ra na ia ua va ca za pa qa X K R P L P2 L2 Tn Ti Tu Tv C Z q0 q1 q2 q3 q4 q5 w1 r1 L_2 Tu_3 Tv_4 q2_5 q3_6 hcx) (cwV 1 hT (tq_gV kw_52_7 kw_52_8 kw_52_9 kw_1_2 kw_52_10) rfl rfl rfl dkdV_yX7_missed_1 ⟨Nat.le_of_ble_eq_true rfl, Nat.le_of_ble_eq_true rfl⟩) (wX_rec hK hP) rfl hl.1 rfl (lv_room (Nat.le_of_ble_eq_true rfl)) dL_law_870 hfit (fun _ _ H locs z9 hP hD hS => ?_)
  have z9 := z9.symm
  subst z9
  refine lv_pop hx hb dL_law_873 rfl ?_
  refine lv_aload_n hx hb dL_law_874 rfl (lv_at hl 2 rfl) ?_
  refine lv_aload_n hx hb dL_law_875 rfl (lv_at hl 4 rfl) ?_
  refine lv_iload hx hb dL_law_876 (lv_at hl 0 rfl) ?_
  refine lv_iconst (v := 1) hx hb dL_law_878 (by decide) ?_
  refine lv_iadd hx hb dL_law_879 ?_
  refine va_sld (i := i + 1) hx hb hX hbl hbA hS (lw_in hi (by decide)) dL_law_880 ?_
  refine tq_i (w := w1) hw1 ?_
  obtain ⟨⟨r8, S_9, LM_10⟩, hcm, hq11⟩ := (Q_missed S LM w1 jx)
  replace hP : va_P G vwCl (wM cA aa S LM ++ (wX cA xa ka ra na ia ua va ca za pa qa X K R P L_2 P2 L2 Tn Ti Tu_3 Tv_4 C Z q0 q1 q2_5 q3_6 q4 q5 ++ [(oa, .inl (cA 2, 1, .inr (.inl og)))])) H := tw_P wl_rot hP
  replace hD : va_D A (wM cA aa S LM ++ (wX cA xa ka ra na ia ua va ca za pa qa X K R P L_2 P2 L2 Tn Ti Tu_3 Tv_4 C Z q0 q1 q2_5 q3_6 q4 q5 ++ [(oa, .inl (cA 2, 1, .inr (.inl og)))])) := tw_D wl_rot hD
  refine lw_ci (As := [.int w1]) (rest := []) hP hD hS hA hK hN ⟨hx, hb, hml, hown, hT⟩ (c_X8_missed l G cA H.size aa S LM w1 r8 S_9 LM_10 hcm) (cwV 1 hT (tq_gV kw_52_15 kw_52_16 kw_52_17 kw_1_5 kw_52_18) rfl rfl rfl dkdV_yX8_missed_1 ⟨Nat.le_of_ble_eq_true rfl, Nat.le_of_ble_eq_true rfl⟩) (wM_rec hK hP) rfl hl.1 rfl (lv_room (Nat.le_of_ble_eq_true rfl)) dL_law_881 hfit (fun _ _ H locs z9 hP hD hS => ?_)
  have z9 := z9.symm
  subst z9
  replace hP : va_P G vwCl (wX cA xa ka ra na ia ua va ca za pa qa X K R P L_2 P2 L2 Tn Ti Tu_3 Tv_4 C Z q0 q1 q2_5 q3_6 q4 q5 ++ (wM cA aa S_9 LM_10 ++ [(oa, .inl (cA 2, 1, .inr (.inl og)))])) H := tw_P wl_rot hP
  replace hD : va_D A (wX cA xa ka ra na ia ua va ca za pa qa X K R P L_2 P2 L2 Tn Ti Tu_3 Tv_4 C Z q0 q1 q2_5 q3_6 q4 q5 ++ (wM cA aa S_9 LM_10 ++ [(oa, .inl (cA 2, 1, .inr (.inl og)))])) := tw_D wl_rot hD
  refine lv_pop hx hb dL_law_884 rfl ?_
  refine lv_goto (tgt := 1217) hx hb dL_law_885 (by decide) ?_
  exact hk H locs ls ⟨xa, ka, ra, na, ia, ua, va, ca, za, pa, qa, aa, X, K, R, P, L_2, P2, L2, Tn, Ti, Tu_3, Tv_4, C, Z, q0, q1, q2_5, q3_6, q4, q5, S_9, LM_10, og, rfl, rfl, ⟨bX, bK, bR, bP, bP2, bTn, bTi, hq7.1, hq7.2, bC, bZ, dz, e0, e4, e5, e1⟩, hq11.1, (E_missed hok jx hrel hcx hcm), hP, hD⟩ hS hl
set_option maxHeartbeats 4000000 in
set_option maxRecDepth 100000 in
theorem lc_21 {p : Program} {e : Env} {s : State} {m : MethodId} {below : List Frame} {meth : Method} {c : Code} (l : Launch) {b Ln : Nat} {xs : Nat → Int32} (C0 : lw_At p s m meth c b Ln xs) (G : va_G) (cA : Nat → ClassId) {A : Nat → Prop} (hAe : A = fun q : Nat => s.heap.size ≤ q) (hK : va_K G vwCl (tyL cA) s) (hN : tqN s) {bA : Nat} (hB : tqB bA A s s.heap) {H : Heap} {locs : List Loc} {ls : Array Slot} {kc ks : Nat} (hfit : kc ≤ 601024 ∧ ks ≤ 7293034) {i : Int32} (hi : 0 ≤ i.toInt ∧ i.toInt + 6 ≤ (Ln : Int)) (hLn : Ln ≤ 3072) {x0 mm oa : Nat} (hI : lwP G cA A x0 mm oa H) (hS : va_S A s.heap H locs) (hl : lv_has ls 7 [(4, .int i), (3, .ref oa), (2, .ref mm), (1, .ref x0), (0, .ref b)]) (hk : (∀ (H : Heap) (locs : List Loc) (ls : Array Slot), lwP G cA A x0 mm oa H → va_S A s.heap H locs → lv_has ls 7 [(4, .int i), (3, .ref oa), (2, .ref mm), (1, .ref x0), (0, .ref b)] → W p l e room_1 s m #[Value.ref b] below meth c H locs kc ks (lw_Z below #[Value.ref b] s) (F0 m 1217 ls []))) : W p l e room_1 s m #[Value.ref b] below meth c H locs kc ks (lw_Z below #[Value.ref b] s) (F0 m 888 ls []) := by
  obtain ⟨hx, hb, hr, hml, hown, hts, hX, hbl, hlocks, hgv⟩ := id C0
  have hT : ∀ v ∈ T0, v.before #[Value.ref b] s = true := fun v h => hts v (tq_law_in v h)
  have hown : s.vm.findClass RL = some m.cls := hown
  have hA : ∀ q : Nat, s.heap.size ≤ q → A q := fun q h => by rw [hAe]; exact h
  have hbA : ¬ A b := by rw [hAe]; exact Nat.not_le.mpr hbl
  obtain ⟨xa, ka, ra, na, ia, ua, va, ca, za, pa, qa, aa, X, K, R, P, L, P2, L2, Tn, Ti, Tu, Tv, C, Z, q0, q1, q2, q3, q4, q5, S, LM, og, rfl, rfl, hok, jx, hrel, hP, hD⟩ := hI
  obtain ⟨bX, bK, bR, bP, bP2, bTn, bTi, bTu, bTv, bC, bZ, dz, e0, e4, e5, e1⟩ := id hok
  obtain ⟨w1, hw1⟩ : ∃ z, xs (i + 1).toNatClampNeg = z := ⟨_, rfl⟩
  obtain ⟨w2, hw2⟩ : ∃ z, xs (i + 2).toNatClampNeg = z := ⟨_, rfl⟩
  obtain ⟨w3, hw3⟩ : ∃ z, xs (i + 3).toNatClampNeg = z := ⟨_, rfl⟩
  obtain ⟨w4, hw4⟩ : ∃ z, xs (i + 4).toNatClampNeg = z := ⟨_, rfl⟩
  obtain ⟨w5, hw5⟩ : ∃ z, xs (i + 5).toNatClampNeg = z := ⟨_, rfl⟩
  refine lv_aload_n hx hb dL_law_888 rfl (lv_at hl 3 rfl) ?_
  obtain ⟨⟨r1, L_2, Tu_3, q2_4⟩, hcx, hq5⟩ := (t_X7_falls pa qa P L Tn Tu q0 q2 q4 bP bTn bTu e0 e4)
  refine lw_ci (As := []) (rest := []) hP hD hS hA hK hN ⟨hx, hb, hml, hown, hT⟩ (c_X7_falls l G cA H.size xa ka ra na ia ua va ca za pa qa X K R P L P2 L2 Tn Ti Tu Tv C Z q0 q1 q2 q3 q4 q5 r1 L_2 Tu_3 q2_4 hcx) (cwV 0 hT (tq_gV kw_52_19 kw_52_20 kw_52_21 kw_1_2 kw_52_22) rfl rfl rfl dkdV_yX7_falls_0 ⟨Nat.le_of_ble_eq_true rfl, Nat.le_of_ble_eq_true rfl⟩) (wX_rec hK hP) rfl hl.1 rfl (lv_room (Nat.le_of_ble_eq_true rfl)) dL_law_889 hfit (fun _ _ H locs z9 hP hD hS => ?_)
  have z9 := z9.symm
  subst z9
  refine lv_pop hx hb dL_law_892 rfl ?_
  refine lv_aload_n hx hb dL_law_893 rfl (lv_at hl 2 rfl) ?_
  obtain ⟨⟨r6, S_7, LM_8⟩, hcm, hq9⟩ := (Q_falls S LM jx)
  replace hP : va_P G vwCl (wM cA aa S LM ++ (wX cA xa ka ra na ia ua va ca za pa qa X K R P L_2 P2 L2 Tn Ti Tu_3 Tv C Z q0 q1 q2_4 q3 q4 q5 ++ [(oa, .inl (cA 2, 1, .inr (.inl og)))])) H := tw_P wl_rot hP
  replace hD : va_D A (wM cA aa S LM ++ (wX cA xa ka ra na ia ua va ca za pa qa X K R P L_2 P2 L2 Tn Ti Tu_3 Tv C Z q0 q1 q2_4 q3 q4 q5 ++ [(oa, .inl (cA 2, 1, .inr (.inl og)))])) := tw_D wl_rot hD
  refine lw_ci (As := []) (rest := []) hP hD hS hA hK hN ⟨hx, hb, hml, hown, hT⟩ (c_X8_falls l G cA H.size aa S LM r6 S_7 LM_8 hcm) (cwV 0 hT (tq_gV kw_53_0 kw_53_1 kw_53_2 kw_1_5 kw_53_3) rfl rfl rfl dkdV_yX8_falls_0 ⟨Nat.le_of_ble_eq_true rfl, Nat.le_of_ble_eq_true rfl⟩) (wM_rec hK hP) rfl hl.1 rfl (lv_room (Nat.le_of_ble_eq_true rfl)) dL_law_894 hfit (fun _ _ H locs z9 hP hD hS => ?_)
  have z9 := z9.symm
  subst z9
  replace hP : va_P G vwCl (wX cA xa ka ra na ia ua va ca za pa qa X K R P L_2 P2 L2 Tn Ti Tu_3 Tv C Z q0 q1 q2_4 q3 q4 q5 ++ (wM cA aa S_7 LM_8 ++ [(oa, .inl (cA 2, 1, .inr (.inl og)))])) H := tw_P wl_rot hP
  replace hD : va_D A (wX cA xa ka ra na ia ua va ca za pa qa X K R P L_2 P2 L2 Tn Ti Tu_3 Tv C Z q0 q1 q2_4 q3 q4 q5 ++ (wM cA aa S_7 LM_8 ++ [(oa, .inl (cA 2, 1, .inr (.inl og)))])) := tw_D wl_rot hD
  refine lv_pop hx hb dL_law_897 rfl ?_
  refine lv_goto (tgt := 1217) hx hb dL_law_898 (by decide) ?_
  exact hk H locs ls ⟨xa, ka, ra, na, ia, ua, va, ca, za, pa, qa, aa, X, K, R, P, L_2, P2, L2, Tn, Ti, Tu_3, Tv, C, Z, q0, q1, q2_4, q3, q4, q5, S_7, LM_8, og, rfl, rfl, ⟨bX, bK, bR, bP, bP2, bTn, bTi, hq5, bTv, bC, bZ, dz, e0, e4, e5, e1⟩, hq9.1, (E_falls hok jx hrel hcx hcm), hP, hD⟩ hS hl
set_option maxHeartbeats 4000000 in
set_option maxRecDepth 100000 in
theorem lc_22 {p : Program} {e : Env} {s : State} {m : MethodId} {below : List Frame} {meth : Method} {c : Code} (l : Launch) {b Ln : Nat} {xs : Nat → Int32} (C0 : lw_At p s m meth c b Ln xs) (G : va_G) (cA : Nat → ClassId) {A : Nat → Prop} (hAe : A = fun q : Nat => s.heap.size ≤ q) (hK : va_K G vwCl (tyL cA) s) (hN : tqN s) {bA : Nat} (hB : tqB bA A s s.heap) {H : Heap} {locs : List Loc} {ls : Array Slot} {kc ks : Nat} (hfit : kc ≤ 601024 ∧ ks ≤ 7293034) {i : Int32} (hi : 0 ≤ i.toInt ∧ i.toInt + 6 ≤ (Ln : Int)) (hLn : Ln ≤ 3072) {x0 mm oa : Nat} (hI : lwP G cA A x0 mm oa H) (hS : va_S A s.heap H locs) (hl : lv_has ls 7 [(4, .int i), (3, .ref oa), (2, .ref mm), (1, .ref x0), (0, .ref b)]) (hk : (∀ (H : Heap) (locs : List Loc) (ls : Array Slot), lwP G cA A x0 mm oa H → va_S A s.heap H locs → lv_has ls 7 [(4, .int i), (3, .ref oa), (2, .ref mm), (1, .ref x0), (0, .ref b)] → W p l e room_1 s m #[Value.ref b] below meth c H locs kc ks (lw_Z below #[Value.ref b] s) (F0 m 1217 ls []))) : W p l e room_1 s m #[Value.ref b] below meth c H locs kc ks (lw_Z below #[Value.ref b] s) (F0 m 901 ls []) := by
  obtain ⟨hx, hb, hr, hml, hown, hts, hX, hbl, hlocks, hgv⟩ := id C0
  have hT : ∀ v ∈ T0, v.before #[Value.ref b] s = true := fun v h => hts v (tq_law_in v h)
  have hown : s.vm.findClass RL = some m.cls := hown
  have hA : ∀ q : Nat, s.heap.size ≤ q → A q := fun q h => by rw [hAe]; exact h
  have hbA : ¬ A b := by rw [hAe]; exact Nat.not_le.mpr hbl
  obtain ⟨xa, ka, ra, na, ia, ua, va, ca, za, pa, qa, aa, X, K, R, P, L, P2, L2, Tn, Ti, Tu, Tv, C, Z, q0, q1, q2, q3, q4, q5, S, LM, og, rfl, rfl, hok, jx, hrel, hP, hD⟩ := hI
  obtain ⟨bX, bK, bR, bP, bP2, bTn, bTi, bTu, bTv, bC, bZ, dz, e0, e4, e5, e1⟩ := id hok
  obtain ⟨w1, hw1⟩ : ∃ z, xs (i + 1).toNatClampNeg = z := ⟨_, rfl⟩
  obtain ⟨w2, hw2⟩ : ∃ z, xs (i + 2).toNatClampNeg = z := ⟨_, rfl⟩
  obtain ⟨w3, hw3⟩ : ∃ z, xs (i + 3).toNatClampNeg = z := ⟨_, rfl⟩
  obtain ⟨w4, hw4⟩ : ∃ z, xs (i + 4).toNatClampNeg = z := ⟨_, rfl⟩
  obtain ⟨w5, hw5⟩ : ∃ z, xs (i + 5).toNatClampNeg = z := ⟨_, rfl⟩
  refine lv_aload_n hx hb dL_law_901 rfl (lv_at hl 3 rfl) ?_
  obtain ⟨⟨r1, L_2, Tu_3, q2_4⟩, hcx, hq5⟩ := (t_X7_asking pa qa P L Tn Tu q0 q2 q4 bP bTn bTu e0 e4)
  refine lw_ci (As := []) (rest := []) hP hD hS hA hK hN ⟨hx, hb, hml, hown, hT⟩ (c_X7_asking l G cA H.size xa ka ra na ia ua va ca za pa qa X K R P L P2 L2 Tn Ti Tu Tv C Z q0 q1 q2 q3 q4 q5 r1 L_2 Tu_3 q2_4 hcx) (cwV 0 hT (tq_gV kw_53_4 kw_53_5 kw_53_6 kw_1_2 kw_53_7) rfl rfl rfl dkdV_yX7_asking_0 ⟨Nat.le_of_ble_eq_true rfl, Nat.le_of_ble_eq_true rfl⟩) (wX_rec hK hP) rfl hl.1 rfl (lv_room (Nat.le_of_ble_eq_true rfl)) dL_law_902 hfit (fun _ _ H locs z9 hP hD hS => ?_)
  have z9 := z9.symm
  subst z9
  refine lv_pop hx hb dL_law_905 rfl ?_
  refine lv_aload_n hx hb dL_law_906 rfl (lv_at hl 2 rfl) ?_
  obtain ⟨⟨r6, S_7, LM_8⟩, hcm, hq9⟩ := (Q_asking S LM jx)
  replace hP : va_P G vwCl (wM cA aa S LM ++ (wX cA xa ka ra na ia ua va ca za pa qa X K R P L_2 P2 L2 Tn Ti Tu_3 Tv C Z q0 q1 q2_4 q3 q4 q5 ++ [(oa, .inl (cA 2, 1, .inr (.inl og)))])) H := tw_P wl_rot hP
  replace hD : va_D A (wM cA aa S LM ++ (wX cA xa ka ra na ia ua va ca za pa qa X K R P L_2 P2 L2 Tn Ti Tu_3 Tv C Z q0 q1 q2_4 q3 q4 q5 ++ [(oa, .inl (cA 2, 1, .inr (.inl og)))])) := tw_D wl_rot hD
  refine lw_ci (As := []) (rest := []) hP hD hS hA hK hN ⟨hx, hb, hml, hown, hT⟩ (c_X8_asking l G cA H.size aa S LM r6 S_7 LM_8 hcm) (cwV 0 hT (tq_gV kw_53_9 kw_53_10 kw_53_11 kw_1_5 kw_53_12) rfl rfl rfl dkdV_yX8_asking_0 ⟨Nat.le_of_ble_eq_true rfl, Nat.le_of_ble_eq_true rfl⟩) (wM_rec hK hP) rfl hl.1 rfl (lv_room (Nat.le_of_ble_eq_true rfl)) dL_law_907 hfit (fun _ _ H locs z9 hP hD hS => ?_)
  have z9 := z9.symm
  subst z9
  replace hP : va_P G vwCl (wX cA xa ka ra na ia ua va ca za pa qa X K R P L_2 P2 L2 Tn Ti Tu_3 Tv C Z q0 q1 q2_4 q3 q4 q5 ++ (wM cA aa S_7 LM_8 ++ [(oa, .inl (cA 2, 1, .inr (.inl og)))])) H := tw_P wl_rot hP
  replace hD : va_D A (wX cA xa ka ra na ia ua va ca za pa qa X K R P L_2 P2 L2 Tn Ti Tu_3 Tv C Z q0 q1 q2_4 q3 q4 q5 ++ (wM cA aa S_7 LM_8 ++ [(oa, .inl (cA 2, 1, .inr (.inl og)))])) := tw_D wl_rot hD
  refine lv_pop hx hb dL_law_910 rfl ?_
  refine lv_goto (tgt := 1217) hx hb dL_law_911 (by decide) ?_
  exact hk H locs ls ⟨xa, ka, ra, na, ia, ua, va, ca, za, pa, qa, aa, X, K, R, P, L_2, P2, L2, Tn, Ti, Tu_3, Tv, C, Z, q0, q1, q2_4, q3, q4, q5, S_7, LM_8, og, rfl, rfl, ⟨bX, bK, bR, bP, bP2, bTn, bTi, hq5, bTv, bC, bZ, dz, e0, e4, e5, e1⟩, hq9.1, (E_asking hok jx hrel hcx hcm), hP, hD⟩ hS hl
-- 67.l2
set_option maxHeartbeats 4000000 in
set_option maxRecDepth 100000 in
theorem lc_23 {p : Program} {e : Env} {s : State} {m : MethodId} {below : List Frame} {meth : Method} {c : Code} (l : Launch) {b Ln : Nat} {xs : Nat → Int32} (C0 : lw_At p s m meth c b Ln xs) (G : va_G) (cA : Nat → ClassId) {A : Nat → Prop} (hAe : A = fun q : Nat => s.heap.size ≤ q) (hK : va_K G vwCl (tyL cA) s) (hN : tqN s) {bA : Nat} (hB : tqB bA A s s.heap) {H : Heap} {locs : List Loc} {ls : Array Slot} {kc ks : Nat} (hfit : kc ≤ 601024 ∧ ks ≤ 7293034) {i : Int32} (hi : 0 ≤ i.toInt ∧ i.toInt + 6 ≤ (Ln : Int)) (hLn : Ln ≤ 3072) {x0 mm oa : Nat} (hI : lwP G cA A x0 mm oa H) (hS : va_S A s.heap H locs) (hl : lv_has ls 7 [(4, .int i), (3, .ref oa), (2, .ref mm), (1, .ref x0), (0, .ref b)]) (hk : (∀ (H : Heap) (locs : List Loc) (ls : Array Slot), lwP G cA A x0 mm oa H → va_S A s.heap H locs → lv_has ls 7 [(4, .int i), (3, .ref oa), (2, .ref mm), (1, .ref x0), (0, .ref b)] → W p l e room_1 s m #[Value.ref b] below meth c H locs kc ks (lw_Z below #[Value.ref b] s) (F0 m 1217 ls []))) : W p l e room_1 s m #[Value.ref b] below meth c H locs kc ks (lw_Z below #[Value.ref b] s) (F0 m 914 ls []) := by
  obtain ⟨hx, hb, hr, hml, hown, hts, hX, hbl, hlocks, hgv⟩ := id C0
  have hT : ∀ v ∈ T0, v.before #[Value.ref b] s = true := fun v h => hts v (tq_law_in v h)
  have hown : s.vm.findClass RL = some m.cls := hown
  have hA : ∀ q : Nat, s.heap.size ≤ q → A q := fun q h => by rw [hAe]; exact h
  have hbA : ¬ A b := by rw [hAe]; exact Nat.not_le.mpr hbl
  obtain ⟨xa, ka, ra, na, ia, ua, va, ca, za, pa, qa, aa, X, K, R, P, L, P2, L2, Tn, Ti, Tu, Tv, C, Z, q0, q1, q2, q3, q4, q5, S, LM, og, rfl, rfl, hok, jx, hrel, hP, hD⟩ := hI
  obtain ⟨bX, bK, bR, bP, bP2, bTn, bTi, bTu, bTv, bC, bZ, dz, e0, e4, e5, e1⟩ := id hok
  obtain ⟨w1, hw1⟩ : ∃ z, xs (i + 1).toNatClampNeg = z := ⟨_, rfl⟩
  obtain ⟨w2, hw2⟩ : ∃ z, xs (i + 2).toNatClampNeg = z := ⟨_, rfl⟩
  obtain ⟨w3, hw3⟩ : ∃ z, xs (i + 3).toNatClampNeg = z := ⟨_, rfl⟩
  obtain ⟨w4, hw4⟩ : ∃ z, xs (i + 4).toNatClampNeg = z := ⟨_, rfl⟩
  obtain ⟨w5, hw5⟩ : ∃ z, xs (i + 5).toNatClampNeg = z := ⟨_, rfl⟩
  refine lv_aload_n hx hb dL_law_914 rfl (lv_at hl 3 rfl) ?_
  obtain ⟨⟨r1, L_2, Tu_3, q2_4⟩, hcx, hq5⟩ := (t_X7_feet pa qa P L Tn Tu q0 q2 q4 bP bTn bTu e0 e4)
  refine lw_ci (As := []) (rest := []) hP hD hS hA hK hN ⟨hx, hb, hml, hown, hT⟩ (c_X7_feet l G cA H.size xa ka ra na ia ua va ca za pa qa X K R P L P2 L2 Tn Ti Tu Tv C Z q0 q1 q2 q3 q4 q5 r1 L_2 Tu_3 q2_4 hcx) (cwV 0 hT (tq_gV kw_53_13 kw_53_14 kw_53_15 kw_1_2 kw_53_16) rfl rfl rfl dkdV_yX7_feet_0 ⟨Nat.le_of_ble_eq_true rfl, Nat.le_of_ble_eq_true rfl⟩) (wX_rec hK hP) rfl hl.1 rfl (lv_room (Nat.le_of_ble_eq_true rfl)) dL_law_915 hfit (fun _ _ H locs z9 hP hD hS => ?_)
  have z9 := z9.symm
  subst z9
  refine lv_pop hx hb dL_law_918 rfl ?_
  refine lv_aload_n hx hb dL_law_919 rfl (lv_at hl 2 rfl) ?_
  obtain ⟨⟨r6, S_7, LM_8⟩, hcm, hq9⟩ := (Q_feet S LM jx)
  replace hP : va_P G vwCl (wM cA aa S LM ++ (wX cA xa ka ra na ia ua va ca za pa qa X K R P L_2 P2 L2 Tn Ti Tu_3 Tv C Z q0 q1 q2_4 q3 q4 q5 ++ [(oa, .inl (cA 2, 1, .inr (.inl og)))])) H := tw_P wl_rot hP
  replace hD : va_D A (wM cA aa S LM ++ (wX cA xa ka ra na ia ua va ca za pa qa X K R P L_2 P2 L2 Tn Ti Tu_3 Tv C Z q0 q1 q2_4 q3 q4 q5 ++ [(oa, .inl (cA 2, 1, .inr (.inl og)))])) := tw_D wl_rot hD
  refine lw_ci (As := []) (rest := []) hP hD hS hA hK hN ⟨hx, hb, hml, hown, hT⟩ (c_X8_feet l G cA H.size aa S LM r6 S_7 LM_8 hcm) (cwV 0 hT (tq_gV kw_53_17 kw_53_18 kw_53_19 kw_1_5 kw_53_20) rfl rfl rfl dkdV_yX8_feet_0 ⟨Nat.le_of_ble_eq_true rfl, Nat.le_of_ble_eq_true rfl⟩) (wM_rec hK hP) rfl hl.1 rfl (lv_room (Nat.le_of_ble_eq_true rfl)) dL_law_920 hfit (fun _ _ H locs z9 hP hD hS => ?_)
  have z9 := z9.symm
  subst z9
  replace hP : va_P G vwCl (wX cA xa ka ra na ia ua va ca za pa qa X K R P L_2 P2 L2 Tn Ti Tu_3 Tv C Z q0 q1 q2_4 q3 q4 q5 ++ (wM cA aa S_7 LM_8 ++ [(oa, .inl (cA 2, 1, .inr (.inl og)))])) H := tw_P wl_rot hP
  replace hD : va_D A (wX cA xa ka ra na ia ua va ca za pa qa X K R P L_2 P2 L2 Tn Ti Tu_3 Tv C Z q0 q1 q2_4 q3 q4 q5 ++ (wM cA aa S_7 LM_8 ++ [(oa, .inl (cA 2, 1, .inr (.inl og)))])) := tw_D wl_rot hD
  refine lv_pop hx hb dL_law_923 rfl ?_
  refine lv_goto (tgt := 1217) hx hb dL_law_924 (by decide) ?_
  exact hk H locs ls ⟨xa, ka, ra, na, ia, ua, va, ca, za, pa, qa, aa, X, K, R, P, L_2, P2, L2, Tn, Ti, Tu_3, Tv, C, Z, q0, q1, q2_4, q3, q4, q5, S_7, LM_8, og, rfl, rfl, ⟨bX, bK, bR, bP, bP2, bTn, bTi, hq5, bTv, bC, bZ, dz, e0, e4, e5, e1⟩, hq9.1, (E_feet hok jx hrel hcx hcm), hP, hD⟩ hS hl
set_option maxHeartbeats 4000000 in
set_option maxRecDepth 100000 in
theorem lc_24 {p : Program} {e : Env} {s : State} {m : MethodId} {below : List Frame} {meth : Method} {c : Code} (l : Launch) {b Ln : Nat} {xs : Nat → Int32} (C0 : lw_At p s m meth c b Ln xs) (G : va_G) (cA : Nat → ClassId) {A : Nat → Prop} (hAe : A = fun q : Nat => s.heap.size ≤ q) (hK : va_K G vwCl (tyL cA) s) (hN : tqN s) {bA : Nat} (hB : tqB bA A s s.heap) {H : Heap} {locs : List Loc} {ls : Array Slot} {kc ks : Nat} (hfit : kc ≤ 601024 ∧ ks ≤ 7293034) {i : Int32} (hi : 0 ≤ i.toInt ∧ i.toInt + 6 ≤ (Ln : Int)) (hLn : Ln ≤ 3072) {x0 mm oa : Nat} (hI : lwP G cA A x0 mm oa H) (hS : va_S A s.heap H locs) (hl : lv_has ls 7 [(4, .int i), (3, .ref oa), (2, .ref mm), (1, .ref x0), (0, .ref b)]) (hk : (∀ (H : Heap) (locs : List Loc) (ls : Array Slot), lwP G cA A x0 mm oa H → va_S A s.heap H locs → lv_has ls 7 [(4, .int i), (3, .ref oa), (2, .ref mm), (1, .ref x0), (0, .ref b)] → W p l e room_1 s m #[Value.ref b] below meth c H locs kc ks (lw_Z below #[Value.ref b] s) (F0 m 1217 ls []))) : W p l e room_1 s m #[Value.ref b] below meth c H locs kc ks (lw_Z below #[Value.ref b] s) (F0 m 927 ls []) := by
  obtain ⟨hx, hb, hr, hml, hown, hts, hX, hbl, hlocks, hgv⟩ := id C0
  have hT : ∀ v ∈ T0, v.before #[Value.ref b] s = true := fun v h => hts v (tq_law_in v h)
  have hown : s.vm.findClass RL = some m.cls := hown
  have hA : ∀ q : Nat, s.heap.size ≤ q → A q := fun q h => by rw [hAe]; exact h
  have hbA : ¬ A b := by rw [hAe]; exact Nat.not_le.mpr hbl
  obtain ⟨xa, ka, ra, na, ia, ua, va, ca, za, pa, qa, aa, X, K, R, P, L, P2, L2, Tn, Ti, Tu, Tv, C, Z, q0, q1, q2, q3, q4, q5, S, LM, og, rfl, rfl, hok, jx, hrel, hP, hD⟩ := hI
  obtain ⟨bX, bK, bR, bP, bP2, bTn, bTi, bTu, bTv, bC, bZ, dz, e0, e4, e5, e1⟩ := id hok
  obtain ⟨w1, hw1⟩ : ∃ z, xs (i + 1).toNatClampNeg = z := ⟨_, rfl⟩
  obtain ⟨w2, hw2⟩ : ∃ z, xs (i + 2).toNatClampNeg = z := ⟨_, rfl⟩
  obtain ⟨w3, hw3⟩ : ∃ z, xs (i + 3).toNatClampNeg = z := ⟨_, rfl⟩
  obtain ⟨w4, hw4⟩ : ∃ z, xs (i + 4).toNatClampNeg = z := ⟨_, rfl⟩
  obtain ⟨w5, hw5⟩ : ∃ z, xs (i + 5).toNatClampNeg = z := ⟨_, rfl⟩
  by_cases hz : w4 = 0
  · refine lv_aload_n hx hb dL_law_927 rfl (lv_at hl 3 rfl) ?_
    refine lv_aload_n hx hb dL_law_928 rfl (lv_at hl 4 rfl) ?_
    refine lv_iload hx hb dL_law_929 (lv_at hl 0 rfl) ?_
    refine lv_iconst (v := 1) hx hb dL_law_931 (by decide) ?_
    refine lv_iadd hx hb dL_law_932 ?_
    refine va_sld (i := i + 1) hx hb hX hbl hbA hS (lw_in hi (by decide)) dL_law_933 ?_
    refine tq_i (w := w1) hw1 ?_
    refine lv_aload_n hx hb dL_law_934 rfl (lv_at hl 4 rfl) ?_
    refine lv_iload hx hb dL_law_935 (lv_at hl 0 rfl) ?_
    refine lv_iconst (v := 2) hx hb dL_law_937 (by decide) ?_
    refine lv_iadd hx hb dL_law_938 ?_
    refine va_sld (i := i + 2) hx hb hX hbl hbA hS (lw_in hi (by decide)) dL_law_939 ?_
    refine tq_i (w := w2) hw2 ?_
    refine lv_aload_n hx hb dL_law_940 rfl (lv_at hl 4 rfl) ?_
    refine lv_iload hx hb dL_law_941 (lv_at hl 0 rfl) ?_
    refine lv_iconst (v := 3) hx hb dL_law_943 (by decide) ?_
    refine lv_iadd hx hb dL_law_944 ?_
    refine va_sld (i := i + 3) hx hb hX hbl hbA hS (lw_in hi (by decide)) dL_law_945 ?_
    refine tq_i (w := w3) hw3 ?_
    refine lv_aload_n hx hb dL_law_946 rfl (lv_at hl 4 rfl) ?_
    refine lv_iload hx hb dL_law_947 (lv_at hl 0 rfl) ?_
    refine lv_iconst (v := 4) hx hb dL_law_949 (by decide) ?_
    refine lv_iadd hx hb dL_law_950 ?_
    refine va_sld (i := i + 4) hx hb hX hbl hbA hS (lw_in hi (by decide)) dL_law_951 ?_
    refine tq_i (w := w4) hw4 ?_
    refine lv_if_eq (tgt := 959) hx hb dL_law_952 (by decide) (fun c => ?_) (fun c => absurd hz c)
    refine lv_iconst (v := 0) hx hb dL_law_959 (by decide) ?_
    obtain ⟨⟨r1, Z_2⟩, hcx, hq3⟩ := (t_X7_see pa qa P Z q4 w1 w2 w3 (0 : Int32) bP bZ dz e4)
    refine lw_ci (As := [.int w1, .int w2, .int w3, .int 0]) (rest := []) hP hD hS hA hK hN ⟨hx, hb, hml, hown, hT⟩ (c_X7_see l G cA H.size xa ka ra na ia ua va ca za pa qa X K R P L P2 L2 Tn Ti Tu Tv C Z q0 q1 q2 q3 q4 q5 w1 w2 w3 (0 : Int32) r1 Z_2 hcx) (cwV 4 hT (tq_gV kw_53_21 kw_53_22 kw_53_23 kw_1_2 kw_54_0) rfl rfl rfl dkdV_yX7_see_4 ⟨Nat.le_of_ble_eq_true rfl, Nat.le_of_ble_eq_true rfl⟩) (wX_rec hK hP) rfl hl.1 rfl (lv_room (Nat.le_of_ble_eq_true rfl)) dL_law_960 hfit (fun _ _ H locs z9 hP hD hS => ?_)
    have z9 := z9.symm
    subst z9
    refine lv_pop hx hb dL_law_963 rfl ?_
    refine lv_aload_n hx hb dL_law_964 rfl (lv_at hl 2 rfl) ?_
    refine lv_aload_n hx hb dL_law_965 rfl (lv_at hl 4 rfl) ?_
    refine lv_iload hx hb dL_law_966 (lv_at hl 0 rfl) ?_
    refine lv_iconst (v := 1) hx hb dL_law_968 (by decide) ?_
    refine lv_iadd hx hb dL_law_969 ?_
    refine va_sld (i := i + 1) hx hb hX hbl hbA hS (lw_in hi (by decide)) dL_law_970 ?_
    refine tq_i (w := w1) hw1 ?_
    refine lv_aload_n hx hb dL_law_971 rfl (lv_at hl 4 rfl) ?_
    refine lv_iload hx hb dL_law_972 (lv_at hl 0 rfl) ?_
    refine lv_iconst (v := 2) hx hb dL_law_974 (by decide) ?_
    refine lv_iadd hx hb dL_law_975 ?_
    refine va_sld (i := i + 2) hx hb hX hbl hbA hS (lw_in hi (by decide)) dL_law_976 ?_
    refine tq_i (w := w2) hw2 ?_
    refine lv_aload_n hx hb dL_law_977 rfl (lv_at hl 4 rfl) ?_
    refine lv_iload hx hb dL_law_978 (lv_at hl 0 rfl) ?_
    refine lv_iconst (v := 3) hx hb dL_law_980 (by decide) ?_
    refine lv_iadd hx hb dL_law_981 ?_
    refine va_sld (i := i + 3) hx hb hX hbl hbA hS (lw_in hi (by decide)) dL_law_982 ?_
    refine tq_i (w := w3) hw3 ?_
    refine lv_aload_n hx hb dL_law_983 rfl (lv_at hl 4 rfl) ?_
    refine lv_iload hx hb dL_law_984 (lv_at hl 0 rfl) ?_
    refine lv_iconst (v := 4) hx hb dL_law_986 (by decide) ?_
    refine lv_iadd hx hb dL_law_987 ?_
    refine va_sld (i := i + 4) hx hb hX hbl hbA hS (lw_in hi (by decide)) dL_law_988 ?_
    refine tq_i (w := w4) hw4 ?_
    refine lv_if_eq (tgt := 996) hx hb dL_law_989 (by decide) (fun c => ?_) (fun c => absurd hz c)
    refine lv_iconst (v := 0) hx hb dL_law_996 (by decide) ?_
    obtain ⟨⟨r4, S_5⟩, hcm, hq6⟩ := (Q_see S w1 w2 w3 (0 : Int32) jx)
    replace hP : va_P G vwCl (wM cA aa S LM ++ (wX cA xa ka ra na ia ua va ca za pa qa X K R P L P2 L2 Tn Ti Tu Tv C Z_2 q0 q1 q2 q3 q4 q5 ++ [(oa, .inl (cA 2, 1, .inr (.inl og)))])) H := tw_P wl_rot hP
    replace hD : va_D A (wM cA aa S LM ++ (wX cA xa ka ra na ia ua va ca za pa qa X K R P L P2 L2 Tn Ti Tu Tv C Z_2 q0 q1 q2 q3 q4 q5 ++ [(oa, .inl (cA 2, 1, .inr (.inl og)))])) := tw_D wl_rot hD
    refine lw_ci (As := [.int w1, .int w2, .int w3, .int 0]) (rest := []) hP hD hS hA hK hN ⟨hx, hb, hml, hown, hT⟩ (c_X8_see l G cA H.size aa S LM w1 w2 w3 (0 : Int32) r4 S_5 hcm) (cwV 4 hT (tq_gV kw_54_5 kw_54_6 kw_54_7 kw_1_5 kw_54_8) rfl rfl rfl dkdV_yX8_see_4 ⟨Nat.le_of_ble_eq_true rfl, Nat.le_of_ble_eq_true rfl⟩) (wM_rec hK hP) rfl hl.1 rfl (lv_room (Nat.le_of_ble_eq_true rfl)) dL_law_997 hfit (fun _ _ H locs z9 hP hD hS => ?_)
    have z9 := z9.symm
    subst z9
    replace hP : va_P G vwCl (wX cA xa ka ra na ia ua va ca za pa qa X K R P L P2 L2 Tn Ti Tu Tv C Z_2 q0 q1 q2 q3 q4 q5 ++ (wM cA aa S_5 LM ++ [(oa, .inl (cA 2, 1, .inr (.inl og)))])) H := tw_P wl_rot hP
    replace hD : va_D A (wX cA xa ka ra na ia ua va ca za pa qa X K R P L P2 L2 Tn Ti Tu Tv C Z_2 q0 q1 q2 q3 q4 q5 ++ (wM cA aa S_5 LM ++ [(oa, .inl (cA 2, 1, .inr (.inl og)))])) := tw_D wl_rot hD
    refine lv_pop hx hb dL_law_1000 rfl ?_
    refine lv_goto (tgt := 1217) hx hb dL_law_1001 (by decide) ?_
    exact hk H locs ls ⟨xa, ka, ra, na, ia, ua, va, ca, za, pa, qa, aa, X, K, R, P, L, P2, L2, Tn, Ti, Tu, Tv, C, Z_2, q0, q1, q2, q3, q4, q5, S_5, LM, og, rfl, rfl, ⟨bX, bK, bR, bP, bP2, bTn, bTi, bTu, bTv, bC, hq3.1, hq3.2, e0, e4, e5, e1⟩, hq6.1, (E_see hok jx hrel hcx hcm), hP, hD⟩ hS hl
  · refine lv_aload_n hx hb dL_law_927 rfl (lv_at hl 3 rfl) ?_
    refine lv_aload_n hx hb dL_law_928 rfl (lv_at hl 4 rfl) ?_
    refine lv_iload hx hb dL_law_929 (lv_at hl 0 rfl) ?_
    refine lv_iconst (v := 1) hx hb dL_law_931 (by decide) ?_
    refine lv_iadd hx hb dL_law_932 ?_
    refine va_sld (i := i + 1) hx hb hX hbl hbA hS (lw_in hi (by decide)) dL_law_933 ?_
    refine tq_i (w := w1) hw1 ?_
    refine lv_aload_n hx hb dL_law_934 rfl (lv_at hl 4 rfl) ?_
    refine lv_iload hx hb dL_law_935 (lv_at hl 0 rfl) ?_
    refine lv_iconst (v := 2) hx hb dL_law_937 (by decide) ?_
    refine lv_iadd hx hb dL_law_938 ?_
    refine va_sld (i := i + 2) hx hb hX hbl hbA hS (lw_in hi (by decide)) dL_law_939 ?_
    refine tq_i (w := w2) hw2 ?_
    refine lv_aload_n hx hb dL_law_940 rfl (lv_at hl 4 rfl) ?_
    refine lv_iload hx hb dL_law_941 (lv_at hl 0 rfl) ?_
    refine lv_iconst (v := 3) hx hb dL_law_943 (by decide) ?_
    refine lv_iadd hx hb dL_law_944 ?_
    refine va_sld (i := i + 3) hx hb hX hbl hbA hS (lw_in hi (by decide)) dL_law_945 ?_
    refine tq_i (w := w3) hw3 ?_
    refine lv_aload_n hx hb dL_law_946 rfl (lv_at hl 4 rfl) ?_
    refine lv_iload hx hb dL_law_947 (lv_at hl 0 rfl) ?_
    refine lv_iconst (v := 4) hx hb dL_law_949 (by decide) ?_
    refine lv_iadd hx hb dL_law_950 ?_
    refine va_sld (i := i + 4) hx hb hX hbl hbA hS (lw_in hi (by decide)) dL_law_951 ?_
    refine tq_i (w := w4) hw4 ?_
    refine lv_if_eq (tgt := 959) hx hb dL_law_952 (by decide) (fun c => absurd c hz) (fun c => ?_)
    refine lv_iconst (v := 1) hx hb dL_law_955 (by decide) ?_
    refine lv_goto (tgt := 960) hx hb dL_law_956 (by decide) ?_
    obtain ⟨⟨r1, Z_2⟩, hcx, hq3⟩ := (t_X7_see pa qa P Z q4 w1 w2 w3 (1 : Int32) bP bZ dz e4)
    refine lw_ci (As := [.int w1, .int w2, .int w3, .int 1]) (rest := []) hP hD hS hA hK hN ⟨hx, hb, hml, hown, hT⟩ (c_X7_see l G cA H.size xa ka ra na ia ua va ca za pa qa X K R P L P2 L2 Tn Ti Tu Tv C Z q0 q1 q2 q3 q4 q5 w1 w2 w3 (1 : Int32) r1 Z_2 hcx) (cwV 4 hT (tq_gV kw_53_21 kw_53_22 kw_53_23 kw_1_2 kw_54_0) rfl rfl rfl dkdV_yX7_see_4 ⟨Nat.le_of_ble_eq_true rfl, Nat.le_of_ble_eq_true rfl⟩) (wX_rec hK hP) rfl hl.1 rfl (lv_room (Nat.le_of_ble_eq_true rfl)) dL_law_960 hfit (fun _ _ H locs z9 hP hD hS => ?_)
    have z9 := z9.symm
    subst z9
    refine lv_pop hx hb dL_law_963 rfl ?_
    refine lv_aload_n hx hb dL_law_964 rfl (lv_at hl 2 rfl) ?_
    refine lv_aload_n hx hb dL_law_965 rfl (lv_at hl 4 rfl) ?_
    refine lv_iload hx hb dL_law_966 (lv_at hl 0 rfl) ?_
    refine lv_iconst (v := 1) hx hb dL_law_968 (by decide) ?_
    refine lv_iadd hx hb dL_law_969 ?_
    refine va_sld (i := i + 1) hx hb hX hbl hbA hS (lw_in hi (by decide)) dL_law_970 ?_
    refine tq_i (w := w1) hw1 ?_
    refine lv_aload_n hx hb dL_law_971 rfl (lv_at hl 4 rfl) ?_
    refine lv_iload hx hb dL_law_972 (lv_at hl 0 rfl) ?_
    refine lv_iconst (v := 2) hx hb dL_law_974 (by decide) ?_
    refine lv_iadd hx hb dL_law_975 ?_
    refine va_sld (i := i + 2) hx hb hX hbl hbA hS (lw_in hi (by decide)) dL_law_976 ?_
    refine tq_i (w := w2) hw2 ?_
    refine lv_aload_n hx hb dL_law_977 rfl (lv_at hl 4 rfl) ?_
    refine lv_iload hx hb dL_law_978 (lv_at hl 0 rfl) ?_
    refine lv_iconst (v := 3) hx hb dL_law_980 (by decide) ?_
    refine lv_iadd hx hb dL_law_981 ?_
    refine va_sld (i := i + 3) hx hb hX hbl hbA hS (lw_in hi (by decide)) dL_law_982 ?_
    refine tq_i (w := w3) hw3 ?_
    refine lv_aload_n hx hb dL_law_983 rfl (lv_at hl 4 rfl) ?_
    refine lv_iload hx hb dL_law_984 (lv_at hl 0 rfl) ?_
    refine lv_iconst (v := 4) hx hb dL_law_986 (by decide) ?_
    refine lv_iadd hx hb dL_law_987 ?_
    refine va_sld (i := i + 4) hx hb hX hbl hbA hS (lw_in hi (by decide)) dL_law_988 ?_
    refine tq_i (w := w4) hw4 ?_
    refine lv_if_eq (tgt := 996) hx hb dL_law_989 (by decide) (fun c => absurd c hz) (fun c => ?_)
    refine lv_iconst (v := 1) hx hb dL_law_992 (by decide) ?_
    refine lv_goto (tgt := 997) hx hb dL_law_993 (by decide) ?_
    obtain ⟨⟨r4, S_5⟩, hcm, hq6⟩ := (Q_see S w1 w2 w3 (1 : Int32) jx)
    replace hP : va_P G vwCl (wM cA aa S LM ++ (wX cA xa ka ra na ia ua va ca za pa qa X K R P L P2 L2 Tn Ti Tu Tv C Z_2 q0 q1 q2 q3 q4 q5 ++ [(oa, .inl (cA 2, 1, .inr (.inl og)))])) H := tw_P wl_rot hP
    replace hD : va_D A (wM cA aa S LM ++ (wX cA xa ka ra na ia ua va ca za pa qa X K R P L P2 L2 Tn Ti Tu Tv C Z_2 q0 q1 q2 q3 q4 q5 ++ [(oa, .inl (cA 2, 1, .inr (.inl og)))])) := tw_D wl_rot hD
    refine lw_ci (As := [.int w1, .int w2, .int w3, .int 1]) (rest := []) hP hD hS hA hK hN ⟨hx, hb, hml, hown, hT⟩ (c_X8_see l G cA H.size aa S LM w1 w2 w3 (1 : Int32) r4 S_5 hcm) (cwV 4 hT (tq_gV kw_54_5 kw_54_6 kw_54_7 kw_1_5 kw_54_8) rfl rfl rfl dkdV_yX8_see_4 ⟨Nat.le_of_ble_eq_true rfl, Nat.le_of_ble_eq_true rfl⟩) (wM_rec hK hP) rfl hl.1 rfl (lv_room (Nat.le_of_ble_eq_true rfl)) dL_law_997 hfit (fun _ _ H locs z9 hP hD hS => ?_)
    have z9 := z9.symm
    subst z9
    replace hP : va_P G vwCl (wX cA xa ka ra na ia ua va ca za pa qa X K R P L P2 L2 Tn Ti Tu Tv C Z_2 q0 q1 q2 q3 q4 q5 ++ (wM cA aa S_5 LM ++ [(oa, .inl (cA 2, 1, .inr (.inl og)))])) H := tw_P wl_rot hP
    replace hD : va_D A (wX cA xa ka ra na ia ua va ca za pa qa X K R P L P2 L2 Tn Ti Tu Tv C Z_2 q0 q1 q2 q3 q4 q5 ++ (wM cA aa S_5 LM ++ [(oa, .inl (cA 2, 1, .inr (.inl og)))])) := tw_D wl_rot hD
    refine lv_pop hx hb dL_law_1000 rfl ?_
    refine lv_goto (tgt := 1217) hx hb dL_law_1001 (by decide) ?_
    exact hk H locs ls ⟨xa, ka, ra, na, ia, ua, va, ca, za, pa, qa, aa, X, K, R, P, L, P2, L2, Tn, Ti, Tu, Tv, C, Z_2, q0, q1, q2, q3, q4, q5, S_5, LM, og, rfl, rfl, ⟨bX, bK, bR, bP, bP2, bTn, bTi, bTu, bTv, bC, hq3.1, hq3.2, e0, e4, e5, e1⟩, hq6.1, (E_see hok jx hrel hcx hcm), hP, hD⟩ hS hl
set_option maxHeartbeats 4000000 in
set_option maxRecDepth 100000 in
theorem lc_25 {p : Program} {e : Env} {s : State} {m : MethodId} {below : List Frame} {meth : Method} {c : Code} (l : Launch) {b Ln : Nat} {xs : Nat → Int32} (C0 : lw_At p s m meth c b Ln xs) (G : va_G) (cA : Nat → ClassId) {A : Nat → Prop} (hAe : A = fun q : Nat => s.heap.size ≤ q) (hK : va_K G vwCl (tyL cA) s) (hN : tqN s) {bA : Nat} (hB : tqB bA A s s.heap) {H : Heap} {locs : List Loc} {ls : Array Slot} {kc ks : Nat} (hfit : kc ≤ 601024 ∧ ks ≤ 7293034) {i : Int32} (hi : 0 ≤ i.toInt ∧ i.toInt + 6 ≤ (Ln : Int)) (hLn : Ln ≤ 3072) {x0 mm oa : Nat} (hI : lwP G cA A x0 mm oa H) (hS : va_S A s.heap H locs) (hl : lv_has ls 7 [(4, .int i), (3, .ref oa), (2, .ref mm), (1, .ref x0), (0, .ref b)]) (hk : (∀ (H : Heap) (locs : List Loc) (ls : Array Slot), lwP G cA A x0 mm oa H → va_S A s.heap H locs → lv_has ls 7 [(4, .int i), (3, .ref oa), (2, .ref mm), (1, .ref x0), (0, .ref b)] → W p l e room_1 s m #[Value.ref b] below meth c H locs kc ks (lw_Z below #[Value.ref b] s) (F0 m 1217 ls []))) : W p l e room_1 s m #[Value.ref b] below meth c H locs kc ks (lw_Z below #[Value.ref b] s) (F0 m 1004 ls []) := by
  obtain ⟨hx, hb, hr, hml, hown, hts, hX, hbl, hlocks, hgv⟩ := id C0
  have hT : ∀ v ∈ T0, v.before #[Value.ref b] s = true := fun v h => hts v (tq_law_in v h)
  have hown : s.vm.findClass RL = some m.cls := hown
  have hA : ∀ q : Nat, s.heap.size ≤ q → A q := fun q h => by rw [hAe]; exact h
  have hbA : ¬ A b := by rw [hAe]; exact Nat.not_le.mpr hbl
  obtain ⟨xa, ka, ra, na, ia, ua, va, ca, za, pa, qa, aa, X, K, R, P, L, P2, L2, Tn, Ti, Tu, Tv, C, Z, q0, q1, q2, q3, q4, q5, S, LM, og, rfl, rfl, hok, jx, hrel, hP, hD⟩ := hI
  obtain ⟨bX, bK, bR, bP, bP2, bTn, bTi, bTu, bTv, bC, bZ, dz, e0, e4, e5, e1⟩ := id hok
  obtain ⟨w1, hw1⟩ : ∃ z, xs (i + 1).toNatClampNeg = z := ⟨_, rfl⟩
  obtain ⟨w2, hw2⟩ : ∃ z, xs (i + 2).toNatClampNeg = z := ⟨_, rfl⟩
  obtain ⟨w3, hw3⟩ : ∃ z, xs (i + 3).toNatClampNeg = z := ⟨_, rfl⟩
  obtain ⟨w4, hw4⟩ : ∃ z, xs (i + 4).toNatClampNeg = z := ⟨_, rfl⟩
  obtain ⟨w5, hw5⟩ : ∃ z, xs (i + 5).toNatClampNeg = z := ⟨_, rfl⟩
  refine lv_aload_n hx hb dL_law_1004 rfl (lv_at hl 3 rfl) ?_
  refine lv_aload_n hx hb dL_law_1005 rfl (lv_at hl 4 rfl) ?_
  refine lv_iload hx hb dL_law_1006 (lv_at hl 0 rfl) ?_
  refine lv_iconst (v := 1) hx hb dL_law_1008 (by decide) ?_
  refine lv_iadd hx hb dL_law_1009 ?_
  refine va_sld (i := i + 1) hx hb hX hbl hbA hS (lw_in hi (by decide)) dL_law_1010 ?_
  refine tq_i (w := w1) hw1 ?_
  obtain ⟨⟨r1, Z_2⟩, hcx, hq3⟩ := (t_X7_strike pa qa Z w1 bZ dz)
  refine lw_ci (As := [.int w1]) (rest := []) hP hD hS hA hK hN ⟨hx, hb, hml, hown, hT⟩ (c_X7_strike l G cA H.size xa ka ra na ia ua va ca za pa qa X K R P L P2 L2 Tn Ti Tu Tv C Z q0 q1 q2 q3 q4 q5 w1 r1 Z_2 hcx) (cwV 1 hT (tq_gV kw_54_13 kw_54_14 kw_54_15 kw_1_2 kw_54_16) rfl rfl rfl dkdV_yX7_strike_1 ⟨Nat.le_of_ble_eq_true rfl, Nat.le_of_ble_eq_true rfl⟩) (wX_rec hK hP) rfl hl.1 rfl (lv_room (Nat.le_of_ble_eq_true rfl)) dL_law_1011 hfit (fun _ _ H locs z9 hP hD hS => ?_)
  have z9 := z9.symm
  subst z9
  refine lv_pop hx hb dL_law_1014 rfl ?_
  refine lv_aload_n hx hb dL_law_1015 rfl (lv_at hl 2 rfl) ?_
  refine lv_aload_n hx hb dL_law_1016 rfl (lv_at hl 4 rfl) ?_
  refine lv_iload hx hb dL_law_1017 (lv_at hl 0 rfl) ?_
  refine lv_iconst (v := 1) hx hb dL_law_1019 (by decide) ?_
  refine lv_iadd hx hb dL_law_1020 ?_
  refine va_sld (i := i + 1) hx hb hX hbl hbA hS (lw_in hi (by decide)) dL_law_1021 ?_
  refine tq_i (w := w1) hw1 ?_
  obtain ⟨⟨r4, S_5⟩, hcm, hq6⟩ := (Q_strike S w1 jx)
  replace hP : va_P G vwCl (wM cA aa S LM ++ (wX cA xa ka ra na ia ua va ca za pa qa X K R P L P2 L2 Tn Ti Tu Tv C Z_2 q0 q1 q2 q3 q4 q5 ++ [(oa, .inl (cA 2, 1, .inr (.inl og)))])) H := tw_P wl_rot hP
  replace hD : va_D A (wM cA aa S LM ++ (wX cA xa ka ra na ia ua va ca za pa qa X K R P L P2 L2 Tn Ti Tu Tv C Z_2 q0 q1 q2 q3 q4 q5 ++ [(oa, .inl (cA 2, 1, .inr (.inl og)))])) := tw_D wl_rot hD
  refine lw_ci (As := [.int w1]) (rest := []) hP hD hS hA hK hN ⟨hx, hb, hml, hown, hT⟩ (c_X8_strike l G cA H.size aa S LM w1 r4 S_5 hcm) (cwV 1 hT (tq_gV kw_54_18 kw_54_19 kw_54_20 kw_1_5 kw_54_21) rfl rfl rfl dkdV_yX8_strike_1 ⟨Nat.le_of_ble_eq_true rfl, Nat.le_of_ble_eq_true rfl⟩) (wM_rec hK hP) rfl hl.1 rfl (lv_room (Nat.le_of_ble_eq_true rfl)) dL_law_1022 hfit (fun _ _ H locs z9 hP hD hS => ?_)
  have z9 := z9.symm
  subst z9
  replace hP : va_P G vwCl (wX cA xa ka ra na ia ua va ca za pa qa X K R P L P2 L2 Tn Ti Tu Tv C Z_2 q0 q1 q2 q3 q4 q5 ++ (wM cA aa S_5 LM ++ [(oa, .inl (cA 2, 1, .inr (.inl og)))])) H := tw_P wl_rot hP
  replace hD : va_D A (wX cA xa ka ra na ia ua va ca za pa qa X K R P L P2 L2 Tn Ti Tu Tv C Z_2 q0 q1 q2 q3 q4 q5 ++ (wM cA aa S_5 LM ++ [(oa, .inl (cA 2, 1, .inr (.inl og)))])) := tw_D wl_rot hD
  refine lv_pop hx hb dL_law_1025 rfl ?_
  refine lv_goto (tgt := 1217) hx hb dL_law_1026 (by decide) ?_
  exact hk H locs ls ⟨xa, ka, ra, na, ia, ua, va, ca, za, pa, qa, aa, X, K, R, P, L, P2, L2, Tn, Ti, Tu, Tv, C, Z_2, q0, q1, q2, q3, q4, q5, S_5, LM, og, rfl, rfl, ⟨bX, bK, bR, bP, bP2, bTn, bTi, bTu, bTv, bC, hq3.1, hq3.2, e0, e4, e5, e1⟩, hq6.1, (E_strike hok jx hrel hcx hcm), hP, hD⟩ hS hl
set_option maxHeartbeats 4000000 in
set_option maxRecDepth 100000 in
theorem lc_26 {p : Program} {e : Env} {s : State} {m : MethodId} {below : List Frame} {meth : Method} {c : Code} (l : Launch) {b Ln : Nat} {xs : Nat → Int32} (C0 : lw_At p s m meth c b Ln xs) (G : va_G) (cA : Nat → ClassId) {A : Nat → Prop} (hAe : A = fun q : Nat => s.heap.size ≤ q) (hK : va_K G vwCl (tyL cA) s) (hN : tqN s) {bA : Nat} (hB : tqB bA A s s.heap) {H : Heap} {locs : List Loc} {ls : Array Slot} {kc ks : Nat} (hfit : kc ≤ 601024 ∧ ks ≤ 7293034) {i : Int32} (hi : 0 ≤ i.toInt ∧ i.toInt + 6 ≤ (Ln : Int)) (hLn : Ln ≤ 3072) {x0 mm oa : Nat} (hI : lwP G cA A x0 mm oa H) (hS : va_S A s.heap H locs) (hl : lv_has ls 7 [(4, .int i), (3, .ref oa), (2, .ref mm), (1, .ref x0), (0, .ref b)]) (hk : (∀ (H : Heap) (locs : List Loc) (ls : Array Slot), lwP G cA A x0 mm oa H → va_S A s.heap H locs → lv_has ls 7 [(4, .int i), (3, .ref oa), (2, .ref mm), (1, .ref x0), (0, .ref b)] → W p l e room_1 s m #[Value.ref b] below meth c H locs kc ks (lw_Z below #[Value.ref b] s) (F0 m 1217 ls []))) : W p l e room_1 s m #[Value.ref b] below meth c H locs kc ks (lw_Z below #[Value.ref b] s) (F0 m 1029 ls []) := by
  obtain ⟨hx, hb, hr, hml, hown, hts, hX, hbl, hlocks, hgv⟩ := id C0
  have hT : ∀ v ∈ T0, v.before #[Value.ref b] s = true := fun v h => hts v (tq_law_in v h)
  have hown : s.vm.findClass RL = some m.cls := hown
  have hA : ∀ q : Nat, s.heap.size ≤ q → A q := fun q h => by rw [hAe]; exact h
  have hbA : ¬ A b := by rw [hAe]; exact Nat.not_le.mpr hbl
  obtain ⟨xa, ka, ra, na, ia, ua, va, ca, za, pa, qa, aa, X, K, R, P, L, P2, L2, Tn, Ti, Tu, Tv, C, Z, q0, q1, q2, q3, q4, q5, S, LM, og, rfl, rfl, hok, jx, hrel, hP, hD⟩ := hI
  obtain ⟨bX, bK, bR, bP, bP2, bTn, bTi, bTu, bTv, bC, bZ, dz, e0, e4, e5, e1⟩ := id hok
  obtain ⟨w1, hw1⟩ : ∃ z, xs (i + 1).toNatClampNeg = z := ⟨_, rfl⟩
  obtain ⟨w2, hw2⟩ : ∃ z, xs (i + 2).toNatClampNeg = z := ⟨_, rfl⟩
  obtain ⟨w3, hw3⟩ : ∃ z, xs (i + 3).toNatClampNeg = z := ⟨_, rfl⟩
  obtain ⟨w4, hw4⟩ : ∃ z, xs (i + 4).toNatClampNeg = z := ⟨_, rfl⟩
  obtain ⟨w5, hw5⟩ : ∃ z, xs (i + 5).toNatClampNeg = z := ⟨_, rfl⟩
  refine lv_aload_n hx hb dL_law_1029 rfl (lv_at hl 3 rfl) ?_
  refine lv_aload_n hx hb dL_law_1030 rfl (lv_at hl 4 rfl) ?_
  refine lv_iload hx hb dL_law_1031 (lv_at hl 0 rfl) ?_
  refine lv_iconst (v := 1) hx hb dL_law_1033 (by decide) ?_
  refine lv_iadd hx hb dL_law_1034 ?_
  refine va_sld (i := i + 1) hx hb hX hbl hbA hS (lw_in hi (by decide)) dL_law_1035 ?_
  refine tq_i (w := w1) hw1 ?_
  obtain ⟨⟨r1, Z_2⟩, hcx, hq3⟩ := (t_X7_known pa qa Z w1 bZ dz)
  refine lw_ci (As := [.int w1]) (rest := []) hP hD hS hA hK hN ⟨hx, hb, hml, hown, hT⟩ (c_X7_known l G cA H.size xa ka ra na ia ua va ca za pa qa X K R P L P2 L2 Tn Ti Tu Tv C Z q0 q1 q2 q3 q4 q5 w1 r1 Z_2 hcx) (cwV 1 hT (tq_gV kw_54_22 kw_54_23 kw_55_0 kw_1_2 kw_55_1) rfl rfl rfl dkdV_yX7_known_1 ⟨Nat.le_of_ble_eq_true rfl, Nat.le_of_ble_eq_true rfl⟩) (wX_rec hK hP) rfl hl.1 rfl (lv_room (Nat.le_of_ble_eq_true rfl)) dL_law_1036 hfit (fun _ _ H locs z9 hP hD hS => ?_)
  have z9 := z9.symm
  subst z9
  refine lv_pop hx hb dL_law_1039 rfl ?_
  refine lv_aload_n hx hb dL_law_1040 rfl (lv_at hl 2 rfl) ?_
  refine lv_aload_n hx hb dL_law_1041 rfl (lv_at hl 4 rfl) ?_
  refine lv_iload hx hb dL_law_1042 (lv_at hl 0 rfl) ?_
  refine lv_iconst (v := 1) hx hb dL_law_1044 (by decide) ?_
  refine lv_iadd hx hb dL_law_1045 ?_
  refine va_sld (i := i + 1) hx hb hX hbl hbA hS (lw_in hi (by decide)) dL_law_1046 ?_
  refine tq_i (w := w1) hw1 ?_
  obtain ⟨⟨r4, S_5⟩, hcm, hq6⟩ := (Q_known S w1 jx)
  replace hP : va_P G vwCl (wM cA aa S LM ++ (wX cA xa ka ra na ia ua va ca za pa qa X K R P L P2 L2 Tn Ti Tu Tv C Z_2 q0 q1 q2 q3 q4 q5 ++ [(oa, .inl (cA 2, 1, .inr (.inl og)))])) H := tw_P wl_rot hP
  replace hD : va_D A (wM cA aa S LM ++ (wX cA xa ka ra na ia ua va ca za pa qa X K R P L P2 L2 Tn Ti Tu Tv C Z_2 q0 q1 q2 q3 q4 q5 ++ [(oa, .inl (cA 2, 1, .inr (.inl og)))])) := tw_D wl_rot hD
  refine lw_ci (As := [.int w1]) (rest := []) hP hD hS hA hK hN ⟨hx, hb, hml, hown, hT⟩ (c_X8_known l G cA H.size aa S LM w1 r4 S_5 hcm) (cwV 1 hT (tq_gV kw_55_3 kw_55_4 kw_55_5 kw_1_5 kw_55_6) rfl rfl rfl dkdV_yX8_known_1 ⟨Nat.le_of_ble_eq_true rfl, Nat.le_of_ble_eq_true rfl⟩) (wM_rec hK hP) rfl hl.1 rfl (lv_room (Nat.le_of_ble_eq_true rfl)) dL_law_1047 hfit (fun _ _ H locs z9 hP hD hS => ?_)
  have z9 := z9.symm
  subst z9
  replace hP : va_P G vwCl (wX cA xa ka ra na ia ua va ca za pa qa X K R P L P2 L2 Tn Ti Tu Tv C Z_2 q0 q1 q2 q3 q4 q5 ++ (wM cA aa S_5 LM ++ [(oa, .inl (cA 2, 1, .inr (.inl og)))])) H := tw_P wl_rot hP
  replace hD : va_D A (wX cA xa ka ra na ia ua va ca za pa qa X K R P L P2 L2 Tn Ti Tu Tv C Z_2 q0 q1 q2 q3 q4 q5 ++ (wM cA aa S_5 LM ++ [(oa, .inl (cA 2, 1, .inr (.inl og)))])) := tw_D wl_rot hD
  refine lv_pop hx hb dL_law_1050 rfl ?_
  refine lv_goto (tgt := 1217) hx hb dL_law_1051 (by decide) ?_
  exact hk H locs ls ⟨xa, ka, ra, na, ia, ua, va, ca, za, pa, qa, aa, X, K, R, P, L, P2, L2, Tn, Ti, Tu, Tv, C, Z_2, q0, q1, q2, q3, q4, q5, S_5, LM, og, rfl, rfl, ⟨bX, bK, bR, bP, bP2, bTn, bTi, bTu, bTv, bC, hq3.2.1, hq3.2.2, e0, e4, e5, e1⟩, hq6.1, (E_known hok jx hrel hcx hcm), hP, hD⟩ hS hl
set_option maxHeartbeats 4000000 in
set_option maxRecDepth 100000 in
theorem lc_27 {p : Program} {e : Env} {s : State} {m : MethodId} {below : List Frame} {meth : Method} {c : Code} (l : Launch) {b Ln : Nat} {xs : Nat → Int32} (C0 : lw_At p s m meth c b Ln xs) (G : va_G) (cA : Nat → ClassId) {A : Nat → Prop} (hAe : A = fun q : Nat => s.heap.size ≤ q) (hK : va_K G vwCl (tyL cA) s) (hN : tqN s) {bA : Nat} (hB : tqB bA A s s.heap) {H : Heap} {locs : List Loc} {ls : Array Slot} {kc ks : Nat} (hfit : kc ≤ 601024 ∧ ks ≤ 7293034) {i : Int32} (hi : 0 ≤ i.toInt ∧ i.toInt + 6 ≤ (Ln : Int)) (hLn : Ln ≤ 3072) {x0 mm oa : Nat} (hI : lwP G cA A x0 mm oa H) (hS : va_S A s.heap H locs) (hl : lv_has ls 7 [(4, .int i), (3, .ref oa), (2, .ref mm), (1, .ref x0), (0, .ref b)]) (hk : (∀ (H : Heap) (locs : List Loc) (ls : Array Slot), lwP G cA A x0 mm oa H → va_S A s.heap H locs → lv_has ls 7 [(4, .int i), (3, .ref oa), (2, .ref mm), (1, .ref x0), (0, .ref b)] → W p l e room_1 s m #[Value.ref b] below meth c H locs kc ks (lw_Z below #[Value.ref b] s) (F0 m 1217 ls []))) : W p l e room_1 s m #[Value.ref b] below meth c H locs kc ks (lw_Z below #[Value.ref b] s) (F0 m 1054 ls []) := by
  obtain ⟨hx, hb, hr, hml, hown, hts, hX, hbl, hlocks, hgv⟩ := id C0
  have hT : ∀ v ∈ T0, v.before #[Value.ref b] s = true := fun v h => hts v (tq_law_in v h)
  have hown : s.vm.findClass RL = some m.cls := hown
  have hA : ∀ q : Nat, s.heap.size ≤ q → A q := fun q h => by rw [hAe]; exact h
  have hbA : ¬ A b := by rw [hAe]; exact Nat.not_le.mpr hbl
  obtain ⟨xa, ka, ra, na, ia, ua, va, ca, za, pa, qa, aa, X, K, R, P, L, P2, L2, Tn, Ti, Tu, Tv, C, Z, q0, q1, q2, q3, q4, q5, S, LM, og, rfl, rfl, hok, jx, hrel, hP, hD⟩ := hI
  obtain ⟨bX, bK, bR, bP, bP2, bTn, bTi, bTu, bTv, bC, bZ, dz, e0, e4, e5, e1⟩ := id hok
  obtain ⟨w1, hw1⟩ : ∃ z, xs (i + 1).toNatClampNeg = z := ⟨_, rfl⟩
  obtain ⟨w2, hw2⟩ : ∃ z, xs (i + 2).toNatClampNeg = z := ⟨_, rfl⟩
  obtain ⟨w3, hw3⟩ : ∃ z, xs (i + 3).toNatClampNeg = z := ⟨_, rfl⟩
  obtain ⟨w4, hw4⟩ : ∃ z, xs (i + 4).toNatClampNeg = z := ⟨_, rfl⟩
  obtain ⟨w5, hw5⟩ : ∃ z, xs (i + 5).toNatClampNeg = z := ⟨_, rfl⟩
  refine lv_aload_n hx hb dL_law_1054 rfl (lv_at hl 3 rfl) ?_
  refine lv_aload_n hx hb dL_law_1055 rfl (lv_at hl 4 rfl) ?_
  refine lv_iload hx hb dL_law_1056 (lv_at hl 0 rfl) ?_
  refine lv_iconst (v := 1) hx hb dL_law_1058 (by decide) ?_
  refine lv_iadd hx hb dL_law_1059 ?_
  refine va_sld (i := i + 1) hx hb hX hbl hbA hS (lw_in hi (by decide)) dL_law_1060 ?_
  refine tq_i (w := w1) hw1 ?_
  obtain ⟨⟨r1, L_2, Tu_3, Z_4, q2_5⟩, hcx, hq6⟩ := (t_X7_got pa qa P L Tu Z q2 q4 w1 bP bTu bZ dz e4)
  refine lw_ci (As := [.int w1]) (rest := []) hP hD hS hA hK hN ⟨hx, hb, hml, hown, hT⟩ (c_X7_got l G cA H.size xa ka ra na ia ua va ca za pa qa X K R P L P2 L2 Tn Ti Tu Tv C Z q0 q1 q2 q3 q4 q5 w1 r1 L_2 Tu_3 Z_4 q2_5 hcx) (cwV 1 hT (tq_gV kw_55_7 kw_55_8 kw_55_9 kw_1_2 kw_55_10) rfl rfl rfl dkdV_yX7_got_1 ⟨Nat.le_of_ble_eq_true rfl, Nat.le_of_ble_eq_true rfl⟩) (wX_rec hK hP) rfl hl.1 rfl (lv_room (Nat.le_of_ble_eq_true rfl)) dL_law_1061 hfit (fun _ _ H locs z9 hP hD hS => ?_)
  have z9 := z9.symm
  subst z9
  refine lv_pop hx hb dL_law_1064 rfl ?_
  refine lv_aload_n hx hb dL_law_1065 rfl (lv_at hl 2 rfl) ?_
  refine lv_aload_n hx hb dL_law_1066 rfl (lv_at hl 4 rfl) ?_
  refine lv_iload hx hb dL_law_1067 (lv_at hl 0 rfl) ?_
  refine lv_iconst (v := 1) hx hb dL_law_1069 (by decide) ?_
  refine lv_iadd hx hb dL_law_1070 ?_
  refine va_sld (i := i + 1) hx hb hX hbl hbA hS (lw_in hi (by decide)) dL_law_1071 ?_
  refine tq_i (w := w1) hw1 ?_
  obtain ⟨⟨r7, S_8, LM_9⟩, hcm, hq10⟩ := (Q_got S LM w1 jx)
  replace hP : va_P G vwCl (wM cA aa S LM ++ (wX cA xa ka ra na ia ua va ca za pa qa X K R P L_2 P2 L2 Tn Ti Tu_3 Tv C Z_4 q0 q1 q2_5 q3 q4 q5 ++ [(oa, .inl (cA 2, 1, .inr (.inl og)))])) H := tw_P wl_rot hP
  replace hD : va_D A (wM cA aa S LM ++ (wX cA xa ka ra na ia ua va ca za pa qa X K R P L_2 P2 L2 Tn Ti Tu_3 Tv C Z_4 q0 q1 q2_5 q3 q4 q5 ++ [(oa, .inl (cA 2, 1, .inr (.inl og)))])) := tw_D wl_rot hD
  refine lw_ci (As := [.int w1]) (rest := []) hP hD hS hA hK hN ⟨hx, hb, hml, hown, hT⟩ (c_X8_got l G cA H.size aa S LM w1 r7 S_8 LM_9 hcm) (cwV 1 hT (tq_gV kw_56_6 kw_56_7 kw_56_8 kw_1_5 kw_56_9) rfl rfl rfl dkdV_yX8_got_1 ⟨Nat.le_of_ble_eq_true rfl, Nat.le_of_ble_eq_true rfl⟩) (wM_rec hK hP) rfl hl.1 rfl (lv_room (Nat.le_of_ble_eq_true rfl)) dL_law_1072 hfit (fun _ _ H locs z9 hP hD hS => ?_)
  have z9 := z9.symm
  subst z9
  replace hP : va_P G vwCl (wX cA xa ka ra na ia ua va ca za pa qa X K R P L_2 P2 L2 Tn Ti Tu_3 Tv C Z_4 q0 q1 q2_5 q3 q4 q5 ++ (wM cA aa S_8 LM_9 ++ [(oa, .inl (cA 2, 1, .inr (.inl og)))])) H := tw_P wl_rot hP
  replace hD : va_D A (wX cA xa ka ra na ia ua va ca za pa qa X K R P L_2 P2 L2 Tn Ti Tu_3 Tv C Z_4 q0 q1 q2_5 q3 q4 q5 ++ (wM cA aa S_8 LM_9 ++ [(oa, .inl (cA 2, 1, .inr (.inl og)))])) := tw_D wl_rot hD
  refine lv_pop hx hb dL_law_1075 rfl ?_
  refine lv_goto (tgt := 1217) hx hb dL_law_1076 (by decide) ?_
  exact hk H locs ls ⟨xa, ka, ra, na, ia, ua, va, ca, za, pa, qa, aa, X, K, R, P, L_2, P2, L2, Tn, Ti, Tu_3, Tv, C, Z_4, q0, q1, q2_5, q3, q4, q5, S_8, LM_9, og, rfl, rfl, ⟨bX, bK, bR, bP, bP2, bTn, bTi, hq6.1, bTv, bC, hq6.2.1, hq6.2.2, e0, e4, e5, e1⟩, hq10.1, (E_got hok jx hrel hcx hcm), hP, hD⟩ hS hl
set_option maxHeartbeats 4000000 in
set_option maxRecDepth 100000 in
theorem lc_28 {p : Program} {e : Env} {s : State} {m : MethodId} {below : List Frame} {meth : Method} {c : Code} (l : Launch) {b Ln : Nat} {xs : Nat → Int32} (C0 : lw_At p s m meth c b Ln xs) (G : va_G) (cA : Nat → ClassId) {A : Nat → Prop} (hAe : A = fun q : Nat => s.heap.size ≤ q) (hK : va_K G vwCl (tyL cA) s) (hN : tqN s) {bA : Nat} (hB : tqB bA A s s.heap) {H : Heap} {locs : List Loc} {ls : Array Slot} {kc ks : Nat} (hfit : kc ≤ 601024 ∧ ks ≤ 7293034) {i : Int32} (hi : 0 ≤ i.toInt ∧ i.toInt + 6 ≤ (Ln : Int)) (hLn : Ln ≤ 3072) {x0 mm oa : Nat} (hI : lwP G cA A x0 mm oa H) (hS : va_S A s.heap H locs) (hl : lv_has ls 7 [(4, .int i), (3, .ref oa), (2, .ref mm), (1, .ref x0), (0, .ref b)]) (hk : (∀ (H : Heap) (locs : List Loc) (ls : Array Slot), lwP G cA A x0 mm oa H → va_S A s.heap H locs → lv_has ls 7 [(4, .int i), (3, .ref oa), (2, .ref mm), (1, .ref x0), (0, .ref b)] → W p l e room_1 s m #[Value.ref b] below meth c H locs kc ks (lw_Z below #[Value.ref b] s) (F0 m 1217 ls []))) : W p l e room_1 s m #[Value.ref b] below meth c H locs kc ks (lw_Z below #[Value.ref b] s) (F0 m 1079 ls []) := by
  obtain ⟨hx, hb, hr, hml, hown, hts, hX, hbl, hlocks, hgv⟩ := id C0
  have hT : ∀ v ∈ T0, v.before #[Value.ref b] s = true := fun v h => hts v (tq_law_in v h)
  have hown : s.vm.findClass RL = some m.cls := hown
  have hA : ∀ q : Nat, s.heap.size ≤ q → A q := fun q h => by rw [hAe]; exact h
  have hbA : ¬ A b := by rw [hAe]; exact Nat.not_le.mpr hbl
  obtain ⟨xa, ka, ra, na, ia, ua, va, ca, za, pa, qa, aa, X, K, R, P, L, P2, L2, Tn, Ti, Tu, Tv, C, Z, q0, q1, q2, q3, q4, q5, S, LM, og, rfl, rfl, hok, jx, hrel, hP, hD⟩ := hI
  obtain ⟨bX, bK, bR, bP, bP2, bTn, bTi, bTu, bTv, bC, bZ, dz, e0, e4, e5, e1⟩ := id hok
  obtain ⟨w1, hw1⟩ : ∃ z, xs (i + 1).toNatClampNeg = z := ⟨_, rfl⟩
  obtain ⟨w2, hw2⟩ : ∃ z, xs (i + 2).toNatClampNeg = z := ⟨_, rfl⟩
  obtain ⟨w3, hw3⟩ : ∃ z, xs (i + 3).toNatClampNeg = z := ⟨_, rfl⟩
  obtain ⟨w4, hw4⟩ : ∃ z, xs (i + 4).toNatClampNeg = z := ⟨_, rfl⟩
  obtain ⟨w5, hw5⟩ : ∃ z, xs (i + 5).toNatClampNeg = z := ⟨_, rfl⟩
  refine lv_aload_n hx hb dL_law_1079 rfl (lv_at hl 3 rfl) ?_
  refine lv_aload_n hx hb dL_law_1080 rfl (lv_at hl 4 rfl) ?_
  refine lv_iload hx hb dL_law_1081 (lv_at hl 0 rfl) ?_
  refine lv_iconst (v := 1) hx hb dL_law_1083 (by decide) ?_
  refine lv_iadd hx hb dL_law_1084 ?_
  refine va_sld (i := i + 1) hx hb hX hbl hbA hS (lw_in hi (by decide)) dL_law_1085 ?_
  refine tq_i (w := w1) hw1 ?_
  refine lv_aload_n hx hb dL_law_1086 rfl (lv_at hl 4 rfl) ?_
  refine lv_iload hx hb dL_law_1087 (lv_at hl 0 rfl) ?_
  refine lv_iconst (v := 2) hx hb dL_law_1089 (by decide) ?_
  refine lv_iadd hx hb dL_law_1090 ?_
  refine va_sld (i := i + 2) hx hb hX hbl hbA hS (lw_in hi (by decide)) dL_law_1091 ?_
  refine tq_i (w := w2) hw2 ?_
  obtain ⟨⟨r1, L_2, Tu_3, q2_4⟩, hcx, hq5⟩ := (t_X7_chance pa qa P L Tn Tu q0 q2 q4 w1 w2 bP bTn bTu e0 e4)
  refine lw_ci (As := [.int w1, .int w2]) (rest := []) hP hD hS hA hK hN ⟨hx, hb, hml, hown, hT⟩ (c_X7_chance l G cA H.size xa ka ra na ia ua va ca za pa qa X K R P L P2 L2 Tn Ti Tu Tv C Z q0 q1 q2 q3 q4 q5 w1 w2 r1 L_2 Tu_3 q2_4 hcx) (cwV 2 hT (tq_gV kw_56_22 kw_56_23 kw_57_0 kw_1_2 kw_57_1) rfl rfl rfl dkdV_yX7_chance_2 ⟨Nat.le_of_ble_eq_true rfl, Nat.le_of_ble_eq_true rfl⟩) (wX_rec hK hP) rfl hl.1 rfl (lv_room (Nat.le_of_ble_eq_true rfl)) dL_law_1092 hfit (fun _ _ H locs z9 hP hD hS => ?_)
  have z9 := z9.symm
  subst z9
  refine lv_pop hx hb dL_law_1095 rfl ?_
  refine lv_aload_n hx hb dL_law_1096 rfl (lv_at hl 2 rfl) ?_
  refine lv_aload_n hx hb dL_law_1097 rfl (lv_at hl 4 rfl) ?_
  refine lv_iload hx hb dL_law_1098 (lv_at hl 0 rfl) ?_
  refine lv_iconst (v := 1) hx hb dL_law_1100 (by decide) ?_
  refine lv_iadd hx hb dL_law_1101 ?_
  refine va_sld (i := i + 1) hx hb hX hbl hbA hS (lw_in hi (by decide)) dL_law_1102 ?_
  refine tq_i (w := w1) hw1 ?_
  refine lv_aload_n hx hb dL_law_1103 rfl (lv_at hl 4 rfl) ?_
  refine lv_iload hx hb dL_law_1104 (lv_at hl 0 rfl) ?_
  refine lv_iconst (v := 2) hx hb dL_law_1106 (by decide) ?_
  refine lv_iadd hx hb dL_law_1107 ?_
  refine va_sld (i := i + 2) hx hb hX hbl hbA hS (lw_in hi (by decide)) dL_law_1108 ?_
  refine tq_i (w := w2) hw2 ?_
  obtain ⟨⟨r6, S_7, LM_8⟩, hcm, hq9⟩ := (Q_chance S LM w1 w2 jx)
  replace hP : va_P G vwCl (wM cA aa S LM ++ (wX cA xa ka ra na ia ua va ca za pa qa X K R P L_2 P2 L2 Tn Ti Tu_3 Tv C Z q0 q1 q2_4 q3 q4 q5 ++ [(oa, .inl (cA 2, 1, .inr (.inl og)))])) H := tw_P wl_rot hP
  replace hD : va_D A (wM cA aa S LM ++ (wX cA xa ka ra na ia ua va ca za pa qa X K R P L_2 P2 L2 Tn Ti Tu_3 Tv C Z q0 q1 q2_4 q3 q4 q5 ++ [(oa, .inl (cA 2, 1, .inr (.inl og)))])) := tw_D wl_rot hD
  refine lw_ci (As := [.int w1, .int w2]) (rest := []) hP hD hS hA hK hN ⟨hx, hb, hml, hown, hT⟩ (c_X8_chance l G cA H.size aa S LM w1 w2 r6 S_7 LM_8 hcm) (cwV 2 hT (tq_gV kw_57_3 kw_57_4 kw_57_5 kw_1_5 kw_57_6) rfl rfl rfl dkdV_yX8_chance_2 ⟨Nat.le_of_ble_eq_true rfl, Nat.le_of_ble_eq_true rfl⟩) (wM_rec hK hP) rfl hl.1 rfl (lv_room (Nat.le_of_ble_eq_true rfl)) dL_law_1109 hfit (fun _ _ H locs z9 hP hD hS => ?_)
  have z9 := z9.symm
  subst z9
  replace hP : va_P G vwCl (wX cA xa ka ra na ia ua va ca za pa qa X K R P L_2 P2 L2 Tn Ti Tu_3 Tv C Z q0 q1 q2_4 q3 q4 q5 ++ (wM cA aa S_7 LM_8 ++ [(oa, .inl (cA 2, 1, .inr (.inl og)))])) H := tw_P wl_rot hP
  replace hD : va_D A (wX cA xa ka ra na ia ua va ca za pa qa X K R P L_2 P2 L2 Tn Ti Tu_3 Tv C Z q0 q1 q2_4 q3 q4 q5 ++ (wM cA aa S_7 LM_8 ++ [(oa, .inl (cA 2, 1, .inr (.inl og)))])) := tw_D wl_rot hD
  refine lv_pop hx hb dL_law_1112 rfl ?_
  refine lv_goto (tgt := 1217) hx hb dL_law_1113 (by decide) ?_
  exact hk H locs ls ⟨xa, ka, ra, na, ia, ua, va, ca, za, pa, qa, aa, X, K, R, P, L_2, P2, L2, Tn, Ti, Tu_3, Tv, C, Z, q0, q1, q2_4, q3, q4, q5, S_7, LM_8, og, rfl, rfl, ⟨bX, bK, bR, bP, bP2, bTn, bTi, hq5, bTv, bC, bZ, dz, e0, e4, e5, e1⟩, hq9.1, (E_chance hok jx hrel hcx hcm), hP, hD⟩ hS hl
set_option maxHeartbeats 4000000 in
set_option maxRecDepth 100000 in
theorem lc_29 {p : Program} {e : Env} {s : State} {m : MethodId} {below : List Frame} {meth : Method} {c : Code} (l : Launch) {b Ln : Nat} {xs : Nat → Int32} (C0 : lw_At p s m meth c b Ln xs) (G : va_G) (cA : Nat → ClassId) {A : Nat → Prop} (hAe : A = fun q : Nat => s.heap.size ≤ q) (hK : va_K G vwCl (tyL cA) s) (hN : tqN s) {bA : Nat} (hB : tqB bA A s s.heap) {H : Heap} {locs : List Loc} {ls : Array Slot} {kc ks : Nat} (hfit : kc ≤ 601024 ∧ ks ≤ 7293034) {i : Int32} (hi : 0 ≤ i.toInt ∧ i.toInt + 6 ≤ (Ln : Int)) (hLn : Ln ≤ 3072) {x0 mm oa : Nat} (hI : lwP G cA A x0 mm oa H) (hS : va_S A s.heap H locs) (hl : lv_has ls 7 [(4, .int i), (3, .ref oa), (2, .ref mm), (1, .ref x0), (0, .ref b)]) (hk : (∀ (H : Heap) (locs : List Loc) (ls : Array Slot), lwP G cA A x0 mm oa H → va_S A s.heap H locs → lv_has ls 7 [(4, .int i), (3, .ref oa), (2, .ref mm), (1, .ref x0), (0, .ref b)] → W p l e room_1 s m #[Value.ref b] below meth c H locs kc ks (lw_Z below #[Value.ref b] s) (F0 m 1217 ls []))) : W p l e room_1 s m #[Value.ref b] below meth c H locs kc ks (lw_Z below #[Value.ref b] s) (F0 m 1116 ls []) := by
  obtain ⟨hx, hb, hr, hml, hown, hts, hX, hbl, hlocks, hgv⟩ := id C0
  have hT : ∀ v ∈ T0, v.before #[Value.ref b] s = true := fun v h => hts v (tq_law_in v h)
  have hown : s.vm.findClass RL = some m.cls := hown
  have hA : ∀ q : Nat, s.heap.size ≤ q → A q := fun q h => by rw [hAe]; exact h
  have hbA : ¬ A b := by rw [hAe]; exact Nat.not_le.mpr hbl
  obtain ⟨xa, ka, ra, na, ia, ua, va, ca, za, pa, qa, aa, X, K, R, P, L, P2, L2, Tn, Ti, Tu, Tv, C, Z, q0, q1, q2, q3, q4, q5, S, LM, og, rfl, rfl, hok, jx, hrel, hP, hD⟩ := hI
  obtain ⟨bX, bK, bR, bP, bP2, bTn, bTi, bTu, bTv, bC, bZ, dz, e0, e4, e5, e1⟩ := id hok
  obtain ⟨w1, hw1⟩ : ∃ z, xs (i + 1).toNatClampNeg = z := ⟨_, rfl⟩
  obtain ⟨w2, hw2⟩ : ∃ z, xs (i + 2).toNatClampNeg = z := ⟨_, rfl⟩
  obtain ⟨w3, hw3⟩ : ∃ z, xs (i + 3).toNatClampNeg = z := ⟨_, rfl⟩
  obtain ⟨w4, hw4⟩ : ∃ z, xs (i + 4).toNatClampNeg = z := ⟨_, rfl⟩
  obtain ⟨w5, hw5⟩ : ∃ z, xs (i + 5).toNatClampNeg = z := ⟨_, rfl⟩
  refine lv_aload_n hx hb dL_law_1116 rfl (lv_at hl 3 rfl) ?_
  refine lv_aload_n hx hb dL_law_1117 rfl (lv_at hl 4 rfl) ?_
  refine lv_iload hx hb dL_law_1118 (lv_at hl 0 rfl) ?_
  refine lv_iconst (v := 1) hx hb dL_law_1120 (by decide) ?_
  refine lv_iadd hx hb dL_law_1121 ?_
  refine va_sld (i := i + 1) hx hb hX hbl hbA hS (lw_in hi (by decide)) dL_law_1122 ?_
  refine tq_i (w := w1) hw1 ?_
  refine lv_aload_n hx hb dL_law_1123 rfl (lv_at hl 4 rfl) ?_
  refine lv_iload hx hb dL_law_1124 (lv_at hl 0 rfl) ?_
  refine lv_iconst (v := 2) hx hb dL_law_1126 (by decide) ?_
  refine lv_iadd hx hb dL_law_1127 ?_
  refine va_sld (i := i + 2) hx hb hX hbl hbA hS (lw_in hi (by decide)) dL_law_1128 ?_
  refine tq_i (w := w2) hw2 ?_
  obtain ⟨⟨r1, L_2, Tu_3, q2_4⟩, hcx, hq5⟩ := (t_X7_tried pa qa P L Tn Tu q0 q2 q4 w1 w2 bP bTn bTu e0 e4)
  refine lw_ci (As := [.int w1, .int w2]) (rest := []) hP hD hS hA hK hN ⟨hx, hb, hml, hown, hT⟩ (c_X7_tried l G cA H.size xa ka ra na ia ua va ca za pa qa X K R P L P2 L2 Tn Ti Tu Tv C Z q0 q1 q2 q3 q4 q5 w1 w2 r1 L_2 Tu_3 q2_4 hcx) (cwV 2 hT (tq_gV kw_57_7 kw_57_8 kw_57_9 kw_1_2 kw_57_10) rfl rfl rfl dkdV_yX7_tried_2 ⟨Nat.le_of_ble_eq_true rfl, Nat.le_of_ble_eq_true rfl⟩) (wX_rec hK hP) rfl hl.1 rfl (lv_room (Nat.le_of_ble_eq_true rfl)) dL_law_1129 hfit (fun _ _ H locs z9 hP hD hS => ?_)
  have z9 := z9.symm
  subst z9
  refine lv_pop hx hb dL_law_1132 rfl ?_
  refine lv_aload_n hx hb dL_law_1133 rfl (lv_at hl 2 rfl) ?_
  refine lv_aload_n hx hb dL_law_1134 rfl (lv_at hl 4 rfl) ?_
  refine lv_iload hx hb dL_law_1135 (lv_at hl 0 rfl) ?_
  refine lv_iconst (v := 1) hx hb dL_law_1137 (by decide) ?_
  refine lv_iadd hx hb dL_law_1138 ?_
  refine va_sld (i := i + 1) hx hb hX hbl hbA hS (lw_in hi (by decide)) dL_law_1139 ?_
  refine tq_i (w := w1) hw1 ?_
  refine lv_aload_n hx hb dL_law_1140 rfl (lv_at hl 4 rfl) ?_
  refine lv_iload hx hb dL_law_1141 (lv_at hl 0 rfl) ?_
  refine lv_iconst (v := 2) hx hb dL_law_1143 (by decide) ?_
  refine lv_iadd hx hb dL_law_1144 ?_
  refine va_sld (i := i + 2) hx hb hX hbl hbA hS (lw_in hi (by decide)) dL_law_1145 ?_
  refine tq_i (w := w2) hw2 ?_
  obtain ⟨⟨r6, S_7, LM_8⟩, hcm, hq9⟩ := (Q_tried S LM w1 w2 jx)
  replace hP : va_P G vwCl (wM cA aa S LM ++ (wX cA xa ka ra na ia ua va ca za pa qa X K R P L_2 P2 L2 Tn Ti Tu_3 Tv C Z q0 q1 q2_4 q3 q4 q5 ++ [(oa, .inl (cA 2, 1, .inr (.inl og)))])) H := tw_P wl_rot hP
  replace hD : va_D A (wM cA aa S LM ++ (wX cA xa ka ra na ia ua va ca za pa qa X K R P L_2 P2 L2 Tn Ti Tu_3 Tv C Z q0 q1 q2_4 q3 q4 q5 ++ [(oa, .inl (cA 2, 1, .inr (.inl og)))])) := tw_D wl_rot hD
  refine lw_ci (As := [.int w1, .int w2]) (rest := []) hP hD hS hA hK hN ⟨hx, hb, hml, hown, hT⟩ (c_X8_tried l G cA H.size aa S LM w1 w2 r6 S_7 LM_8 hcm) (cwV 2 hT (tq_gV kw_57_20 kw_57_21 kw_57_22 kw_1_5 kw_57_23) rfl rfl rfl dkdV_yX8_tried_2 ⟨Nat.le_of_ble_eq_true rfl, Nat.le_of_ble_eq_true rfl⟩) (wM_rec hK hP) rfl hl.1 rfl (lv_room (Nat.le_of_ble_eq_true rfl)) dL_law_1146 hfit (fun _ _ H locs z9 hP hD hS => ?_)
  have z9 := z9.symm
  subst z9
  replace hP : va_P G vwCl (wX cA xa ka ra na ia ua va ca za pa qa X K R P L_2 P2 L2 Tn Ti Tu_3 Tv C Z q0 q1 q2_4 q3 q4 q5 ++ (wM cA aa S_7 LM_8 ++ [(oa, .inl (cA 2, 1, .inr (.inl og)))])) H := tw_P wl_rot hP
  replace hD : va_D A (wX cA xa ka ra na ia ua va ca za pa qa X K R P L_2 P2 L2 Tn Ti Tu_3 Tv C Z q0 q1 q2_4 q3 q4 q5 ++ (wM cA aa S_7 LM_8 ++ [(oa, .inl (cA 2, 1, .inr (.inl og)))])) := tw_D wl_rot hD
  refine lv_pop hx hb dL_law_1149 rfl ?_
  refine lv_goto (tgt := 1217) hx hb dL_law_1150 (by decide) ?_
  exact hk H locs ls ⟨xa, ka, ra, na, ia, ua, va, ca, za, pa, qa, aa, X, K, R, P, L_2, P2, L2, Tn, Ti, Tu_3, Tv, C, Z, q0, q1, q2_4, q3, q4, q5, S_7, LM_8, og, rfl, rfl, ⟨bX, bK, bR, bP, bP2, bTn, bTi, hq5, bTv, bC, bZ, dz, e0, e4, e5, e1⟩, hq9.1, (E_tried hok jx hrel hcx hcm), hP, hD⟩ hS hl
set_option maxHeartbeats 4000000 in
set_option maxRecDepth 100000 in
theorem lc_30 {p : Program} {e : Env} {s : State} {m : MethodId} {below : List Frame} {meth : Method} {c : Code} (l : Launch) {b Ln : Nat} {xs : Nat → Int32} (C0 : lw_At p s m meth c b Ln xs) (G : va_G) (cA : Nat → ClassId) {A : Nat → Prop} (hAe : A = fun q : Nat => s.heap.size ≤ q) (hK : va_K G vwCl (tyL cA) s) (hN : tqN s) {bA : Nat} (hB : tqB bA A s s.heap) {H : Heap} {locs : List Loc} {ls : Array Slot} {kc ks : Nat} (hfit : kc ≤ 601024 ∧ ks ≤ 7293034) {i : Int32} (hi : 0 ≤ i.toInt ∧ i.toInt + 6 ≤ (Ln : Int)) (hLn : Ln ≤ 3072) {x0 mm oa : Nat} (hI : lwP G cA A x0 mm oa H) (hS : va_S A s.heap H locs) (hl : lv_has ls 7 [(4, .int i), (3, .ref oa), (2, .ref mm), (1, .ref x0), (0, .ref b)]) (hk : (∀ (H : Heap) (locs : List Loc) (ls : Array Slot), lwP G cA A x0 mm oa H → va_S A s.heap H locs → lv_has ls 7 [(4, .int i), (3, .ref oa), (2, .ref mm), (1, .ref x0), (0, .ref b)] → W p l e room_1 s m #[Value.ref b] below meth c H locs kc ks (lw_Z below #[Value.ref b] s) (F0 m 1217 ls []))) : W p l e room_1 s m #[Value.ref b] below meth c H locs kc ks (lw_Z below #[Value.ref b] s) (F0 m 1153 ls []) := by
  obtain ⟨hx, hb, hr, hml, hown, hts, hX, hbl, hlocks, hgv⟩ := id C0
  have hT : ∀ v ∈ T0, v.before #[Value.ref b] s = true := fun v h => hts v (tq_law_in v h)
  have hown : s.vm.findClass RL = some m.cls := hown
  have hA : ∀ q : Nat, s.heap.size ≤ q → A q := fun q h => by rw [hAe]; exact h
  have hbA : ¬ A b := by rw [hAe]; exact Nat.not_le.mpr hbl
  obtain ⟨xa, ka, ra, na, ia, ua, va, ca, za, pa, qa, aa, X, K, R, P, L, P2, L2, Tn, Ti, Tu, Tv, C, Z, q0, q1, q2, q3, q4, q5, S, LM, og, rfl, rfl, hok, jx, hrel, hP, hD⟩ := hI
  obtain ⟨bX, bK, bR, bP, bP2, bTn, bTi, bTu, bTv, bC, bZ, dz, e0, e4, e5, e1⟩ := id hok
  obtain ⟨w1, hw1⟩ : ∃ z, xs (i + 1).toNatClampNeg = z := ⟨_, rfl⟩
  obtain ⟨w2, hw2⟩ : ∃ z, xs (i + 2).toNatClampNeg = z := ⟨_, rfl⟩
  obtain ⟨w3, hw3⟩ : ∃ z, xs (i + 3).toNatClampNeg = z := ⟨_, rfl⟩
  obtain ⟨w4, hw4⟩ : ∃ z, xs (i + 4).toNatClampNeg = z := ⟨_, rfl⟩
  obtain ⟨w5, hw5⟩ : ∃ z, xs (i + 5).toNatClampNeg = z := ⟨_, rfl⟩
  refine lv_aload_n hx hb dL_law_1153 rfl (lv_at hl 3 rfl) ?_
  obtain ⟨⟨r1, Tn_2, C_3⟩, hcx, hq4⟩ := (t_X7_undo pa qa Tn C bTn bC)
  refine lw_ci (As := []) (rest := []) hP hD hS hA hK hN ⟨hx, hb, hml, hown, hT⟩ (c_X7_undo l G cA H.size xa ka ra na ia ua va ca za pa qa X K R P L P2 L2 Tn Ti Tu Tv C Z q0 q1 q2 q3 q4 q5 r1 Tn_2 C_3 hcx) (cwV 0 hT (tq_gV kw_58_0 kw_58_1 kw_58_2 kw_1_2 kw_58_3) rfl rfl rfl dkdV_yX7_undo_0 ⟨Nat.le_of_ble_eq_true rfl, Nat.le_of_ble_eq_true rfl⟩) (wX_rec hK hP) rfl hl.1 rfl (lv_room (Nat.le_of_ble_eq_true rfl)) dL_law_1154 hfit (fun _ _ H locs z9 hP hD hS => ?_)
  have z9 := z9.symm
  subst z9
  refine lv_pop hx hb dL_law_1157 rfl ?_
  refine lv_aload_n hx hb dL_law_1158 rfl (lv_at hl 2 rfl) ?_
  obtain ⟨⟨r5, S_6⟩, hcm, hq7⟩ := (Q_undo S jx)
  replace hP : va_P G vwCl (wM cA aa S LM ++ (wX cA xa ka ra na ia ua va ca za pa qa X K R P L P2 L2 Tn_2 Ti Tu Tv C_3 Z q0 q1 q2 q3 q4 q5 ++ [(oa, .inl (cA 2, 1, .inr (.inl og)))])) H := tw_P wl_rot hP
  replace hD : va_D A (wM cA aa S LM ++ (wX cA xa ka ra na ia ua va ca za pa qa X K R P L P2 L2 Tn_2 Ti Tu Tv C_3 Z q0 q1 q2 q3 q4 q5 ++ [(oa, .inl (cA 2, 1, .inr (.inl og)))])) := tw_D wl_rot hD
  refine lw_ci (As := []) (rest := []) hP hD hS hA hK hN ⟨hx, hb, hml, hown, hT⟩ (c_X8_undo l G cA H.size aa S LM r5 S_6 hcm) (cwV 0 hT (tq_gV kw_58_12 kw_58_13 kw_58_14 kw_1_5 kw_58_15) rfl rfl rfl dkdV_yX8_undo_0 ⟨Nat.le_of_ble_eq_true rfl, Nat.le_of_ble_eq_true rfl⟩) (wM_rec hK hP) rfl hl.1 rfl (lv_room (Nat.le_of_ble_eq_true rfl)) dL_law_1159 hfit (fun _ _ H locs z9 hP hD hS => ?_)
  have z9 := z9.symm
  subst z9
  replace hP : va_P G vwCl (wX cA xa ka ra na ia ua va ca za pa qa X K R P L P2 L2 Tn_2 Ti Tu Tv C_3 Z q0 q1 q2 q3 q4 q5 ++ (wM cA aa S_6 LM ++ [(oa, .inl (cA 2, 1, .inr (.inl og)))])) H := tw_P wl_rot hP
  replace hD : va_D A (wX cA xa ka ra na ia ua va ca za pa qa X K R P L P2 L2 Tn_2 Ti Tu Tv C_3 Z q0 q1 q2 q3 q4 q5 ++ (wM cA aa S_6 LM ++ [(oa, .inl (cA 2, 1, .inr (.inl og)))])) := tw_D wl_rot hD
  refine lv_pop hx hb dL_law_1162 rfl ?_
  refine lv_goto (tgt := 1217) hx hb dL_law_1163 (by decide) ?_
  exact hk H locs ls ⟨xa, ka, ra, na, ia, ua, va, ca, za, pa, qa, aa, X, K, R, P, L, P2, L2, Tn_2, Ti, Tu, Tv, C_3, Z, q0, q1, q2, q3, q4, q5, S_6, LM, og, rfl, rfl, ⟨bX, bK, bR, bP, bP2, hq4.1, bTi, bTu, bTv, hq4.2, bZ, dz, e0, e4, e5, e1⟩, hq7.1, (E_undo hok jx hrel hcx hcm), hP, hD⟩ hS hl
set_option maxHeartbeats 4000000 in
set_option maxRecDepth 100000 in
theorem lc_31 {p : Program} {e : Env} {s : State} {m : MethodId} {below : List Frame} {meth : Method} {c : Code} (l : Launch) {b Ln : Nat} {xs : Nat → Int32} (C0 : lw_At p s m meth c b Ln xs) (G : va_G) (cA : Nat → ClassId) {A : Nat → Prop} (hAe : A = fun q : Nat => s.heap.size ≤ q) (hK : va_K G vwCl (tyL cA) s) (hN : tqN s) {bA : Nat} (hB : tqB bA A s s.heap) {H : Heap} {locs : List Loc} {ls : Array Slot} {kc ks : Nat} (hfit : kc ≤ 601024 ∧ ks ≤ 7293034) {i : Int32} (hi : 0 ≤ i.toInt ∧ i.toInt + 6 ≤ (Ln : Int)) (hLn : Ln ≤ 3072) {x0 mm oa : Nat} (hI : lwP G cA A x0 mm oa H) (hS : va_S A s.heap H locs) (hl : lv_has ls 7 [(4, .int i), (3, .ref oa), (2, .ref mm), (1, .ref x0), (0, .ref b)]) (hk : (∀ (H : Heap) (locs : List Loc) (ls : Array Slot), lwP G cA A x0 mm oa H → va_S A s.heap H locs → lv_has ls 7 [(4, .int i), (3, .ref oa), (2, .ref mm), (1, .ref x0), (0, .ref b)] → W p l e room_1 s m #[Value.ref b] below meth c H locs kc ks (lw_Z below #[Value.ref b] s) (F0 m 1217 ls []))) : W p l e room_1 s m #[Value.ref b] below meth c H locs kc ks (lw_Z below #[Value.ref b] s) (F0 m 1166 ls []) := by
  obtain ⟨hx, hb, hr, hml, hown, hts, hX, hbl, hlocks, hgv⟩ := id C0
  have hT : ∀ v ∈ T0, v.before #[Value.ref b] s = true := fun v h => hts v (tq_law_in v h)
  have hown : s.vm.findClass RL = some m.cls := hown
  have hA : ∀ q : Nat, s.heap.size ≤ q → A q := fun q h => by rw [hAe]; exact h
  have hbA : ¬ A b := by rw [hAe]; exact Nat.not_le.mpr hbl
  obtain ⟨xa, ka, ra, na, ia, ua, va, ca, za, pa, qa, aa, X, K, R, P, L, P2, L2, Tn, Ti, Tu, Tv, C, Z, q0, q1, q2, q3, q4, q5, S, LM, og, rfl, rfl, hok, jx, hrel, hP, hD⟩ := hI
  obtain ⟨bX, bK, bR, bP, bP2, bTn, bTi, bTu, bTv, bC, bZ, dz, e0, e4, e5, e1⟩ := id hok
  obtain ⟨w1, hw1⟩ : ∃ z, xs (i + 1).toNatClampNeg = z := ⟨_, rfl⟩
  obtain ⟨w2, hw2⟩ : ∃ z, xs (i + 2).toNatClampNeg = z := ⟨_, rfl⟩
  obtain ⟨w3, hw3⟩ : ∃ z, xs (i + 3).toNatClampNeg = z := ⟨_, rfl⟩
  obtain ⟨w4, hw4⟩ : ∃ z, xs (i + 4).toNatClampNeg = z := ⟨_, rfl⟩
  obtain ⟨w5, hw5⟩ : ∃ z, xs (i + 5).toNatClampNeg = z := ⟨_, rfl⟩
  refine lv_aload_n hx hb dL_law_1166 rfl (lv_at hl 3 rfl) ?_
  obtain ⟨⟨r1, X_2, Ti_3, q1_4⟩, hcx, hq5⟩ := (t_X7_keep pa qa X Tn Ti q0 q1 bX bTn bTi e0)
  refine lw_ci (As := []) (rest := []) hP hD hS hA hK hN ⟨hx, hb, hml, hown, hT⟩ (c_X7_keep l G cA H.size xa ka ra na ia ua va ca za pa qa X K R P L P2 L2 Tn Ti Tu Tv C Z q0 q1 q2 q3 q4 q5 r1 X_2 Ti_3 q1_4 hcx) (cwV 0 hT (tq_gV kw_58_20 kw_58_21 kw_58_22 kw_1_2 kw_58_23) rfl rfl rfl dkdV_yX7_keep_0 ⟨Nat.le_of_ble_eq_true rfl, Nat.le_of_ble_eq_true rfl⟩) (wX_rec hK hP) rfl hl.1 rfl (lv_room (Nat.le_of_ble_eq_true rfl)) dL_law_1167 hfit (fun _ _ H locs z9 hP hD hS => ?_)
  have z9 := z9.symm
  subst z9
  refine lv_pop hx hb dL_law_1170 rfl ?_
  refine lv_aload_n hx hb dL_law_1171 rfl (lv_at hl 2 rfl) ?_
  obtain ⟨⟨r6, S_7, LM_8⟩, hcm, hq9⟩ := (Q_keep S LM jx)
  replace hP : va_P G vwCl (wM cA aa S LM ++ (wX cA xa ka ra na ia ua va ca za pa qa X_2 K R P L P2 L2 Tn Ti_3 Tu Tv C Z q0 q1_4 q2 q3 q4 q5 ++ [(oa, .inl (cA 2, 1, .inr (.inl og)))])) H := tw_P wl_rot hP
  replace hD : va_D A (wM cA aa S LM ++ (wX cA xa ka ra na ia ua va ca za pa qa X_2 K R P L P2 L2 Tn Ti_3 Tu Tv C Z q0 q1_4 q2 q3 q4 q5 ++ [(oa, .inl (cA 2, 1, .inr (.inl og)))])) := tw_D wl_rot hD
  refine lw_ci (As := []) (rest := []) hP hD hS hA hK hN ⟨hx, hb, hml, hown, hT⟩ (c_X8_keep l G cA H.size aa S LM r6 S_7 LM_8 hcm) (cwV 0 hT (tq_gV kw_59_0 kw_59_1 kw_59_2 kw_1_5 kw_59_3) rfl rfl rfl dkdV_yX8_keep_0 ⟨Nat.le_of_ble_eq_true rfl, Nat.le_of_ble_eq_true rfl⟩) (wM_rec hK hP) rfl hl.1 rfl (lv_room (Nat.le_of_ble_eq_true rfl)) dL_law_1172 hfit (fun _ _ H locs z9 hP hD hS => ?_)
  have z9 := z9.symm
  subst z9
  replace hP : va_P G vwCl (wX cA xa ka ra na ia ua va ca za pa qa X_2 K R P L P2 L2 Tn Ti_3 Tu Tv C Z q0 q1_4 q2 q3 q4 q5 ++ (wM cA aa S_7 LM_8 ++ [(oa, .inl (cA 2, 1, .inr (.inl og)))])) H := tw_P wl_rot hP
  replace hD : va_D A (wX cA xa ka ra na ia ua va ca za pa qa X_2 K R P L P2 L2 Tn Ti_3 Tu Tv C Z q0 q1_4 q2 q3 q4 q5 ++ (wM cA aa S_7 LM_8 ++ [(oa, .inl (cA 2, 1, .inr (.inl og)))])) := tw_D wl_rot hD
  refine lv_pop hx hb dL_law_1175 rfl ?_
  refine lv_goto (tgt := 1217) hx hb dL_law_1176 (by decide) ?_
  exact hk H locs ls ⟨xa, ka, ra, na, ia, ua, va, ca, za, pa, qa, aa, X_2, K, R, P, L, P2, L2, Tn, Ti_3, Tu, Tv, C, Z, q0, q1_4, q2, q3, q4, q5, S_7, LM_8, og, rfl, rfl, ⟨hq5.1, bK, bR, bP, bP2, bTn, hq5.2.1, bTu, bTv, bC, bZ, dz, e0, e4, e5, (fun _ => hq5.2.2)⟩, hq9.1, (E_keep hok jx hrel hcx hcm), hP, hD⟩ hS hl
set_option maxHeartbeats 4000000 in
set_option maxRecDepth 100000 in
theorem lc_32 {p : Program} {e : Env} {s : State} {m : MethodId} {below : List Frame} {meth : Method} {c : Code} (l : Launch) {b Ln : Nat} {xs : Nat → Int32} (C0 : lw_At p s m meth c b Ln xs) (G : va_G) (cA : Nat → ClassId) {A : Nat → Prop} (hAe : A = fun q : Nat => s.heap.size ≤ q) (hK : va_K G vwCl (tyL cA) s) (hN : tqN s) {bA : Nat} (hB : tqB bA A s s.heap) {H : Heap} {locs : List Loc} {ls : Array Slot} {kc ks : Nat} (hfit : kc ≤ 601024 ∧ ks ≤ 7293034) {i : Int32} (hi : 0 ≤ i.toInt ∧ i.toInt + 6 ≤ (Ln : Int)) (hLn : Ln ≤ 3072) {x0 mm oa : Nat} (hI : lwP G cA A x0 mm oa H) (hS : va_S A s.heap H locs) (hl : lv_has ls 7 [(4, .int i), (3, .ref oa), (2, .ref mm), (1, .ref x0), (0, .ref b)]) (hk : (∀ (H : Heap) (locs : List Loc) (ls : Array Slot), lwP G cA A x0 mm oa H → va_S A s.heap H locs → lv_has ls 7 [(4, .int i), (3, .ref oa), (2, .ref mm), (1, .ref x0), (0, .ref b)] → W p l e room_1 s m #[Value.ref b] below meth c H locs kc ks (lw_Z below #[Value.ref b] s) (F0 m 1217 ls []))) : W p l e room_1 s m #[Value.ref b] below meth c H locs kc ks (lw_Z below #[Value.ref b] s) (F0 m 1179 ls []) := by
  obtain ⟨hx, hb, hr, hml, hown, hts, hX, hbl, hlocks, hgv⟩ := id C0
  have hT : ∀ v ∈ T0, v.before #[Value.ref b] s = true := fun v h => hts v (tq_law_in v h)
  have hown : s.vm.findClass RL = some m.cls := hown
  have hA : ∀ q : Nat, s.heap.size ≤ q → A q := fun q h => by rw [hAe]; exact h
  have hbA : ¬ A b := by rw [hAe]; exact Nat.not_le.mpr hbl
  obtain ⟨xa, ka, ra, na, ia, ua, va, ca, za, pa, qa, aa, X, K, R, P, L, P2, L2, Tn, Ti, Tu, Tv, C, Z, q0, q1, q2, q3, q4, q5, S, LM, og, rfl, rfl, hok, jx, hrel, hP, hD⟩ := hI
  obtain ⟨bX, bK, bR, bP, bP2, bTn, bTi, bTu, bTv, bC, bZ, dz, e0, e4, e5, e1⟩ := id hok
  obtain ⟨w1, hw1⟩ : ∃ z, xs (i + 1).toNatClampNeg = z := ⟨_, rfl⟩
  obtain ⟨w2, hw2⟩ : ∃ z, xs (i + 2).toNatClampNeg = z := ⟨_, rfl⟩
  obtain ⟨w3, hw3⟩ : ∃ z, xs (i + 3).toNatClampNeg = z := ⟨_, rfl⟩
  obtain ⟨w4, hw4⟩ : ∃ z, xs (i + 4).toNatClampNeg = z := ⟨_, rfl⟩
  obtain ⟨w5, hw5⟩ : ∃ z, xs (i + 5).toNatClampNeg = z := ⟨_, rfl⟩
  refine lv_aload_n hx hb dL_law_1179 rfl (lv_at hl 3 rfl) ?_
  obtain ⟨⟨r1, Tn_2, C_3, q0_4⟩, hcx, hq5⟩ := (t_X7_back pa qa X Tn Ti C q0 q1 bX bTn bTi bC e0 e1)
  refine lw_ci (As := []) (rest := []) hP hD hS hA hK hN ⟨hx, hb, hml, hown, hT⟩ (c_X7_back l G cA H.size xa ka ra na ia ua va ca za pa qa X K R P L P2 L2 Tn Ti Tu Tv C Z q0 q1 q2 q3 q4 q5 r1 Tn_2 C_3 q0_4 hcx) (cwV 0 hT (tq_gV kw_59_7 kw_59_8 kw_59_9 kw_1_2 kw_59_10) rfl rfl rfl dkdV_yX7_back_0 ⟨Nat.le_of_ble_eq_true rfl, Nat.le_of_ble_eq_true rfl⟩) (wX_rec hK hP) rfl hl.1 rfl (lv_room (Nat.le_of_ble_eq_true rfl)) dL_law_1180 hfit (fun _ _ H locs z9 hP hD hS => ?_)
  have z9 := z9.symm
  subst z9
  refine lv_pop hx hb dL_law_1183 rfl ?_
  refine lv_aload_n hx hb dL_law_1184 rfl (lv_at hl 2 rfl) ?_
  obtain ⟨⟨r6, S_7, LM_8⟩, hcm, hq9⟩ := (Q_back S LM jx)
  replace hP : va_P G vwCl (wM cA aa S LM ++ (wX cA xa ka ra na ia ua va ca za pa qa X K R P L P2 L2 Tn_2 Ti Tu Tv C_3 Z q0_4 q1 q2 q3 q4 q5 ++ [(oa, .inl (cA 2, 1, .inr (.inl og)))])) H := tw_P wl_rot hP
  replace hD : va_D A (wM cA aa S LM ++ (wX cA xa ka ra na ia ua va ca za pa qa X K R P L P2 L2 Tn_2 Ti Tu Tv C_3 Z q0_4 q1 q2 q3 q4 q5 ++ [(oa, .inl (cA 2, 1, .inr (.inl og)))])) := tw_D wl_rot hD
  refine lw_ci (As := []) (rest := []) hP hD hS hA hK hN ⟨hx, hb, hml, hown, hT⟩ (c_X8_back l G cA H.size aa S LM r6 S_7 LM_8 hcm) (cwV 0 hT (tq_gV kw_59_11 kw_59_12 kw_59_13 kw_1_5 kw_59_14) rfl rfl rfl dkdV_yX8_back_0 ⟨Nat.le_of_ble_eq_true rfl, Nat.le_of_ble_eq_true rfl⟩) (wM_rec hK hP) rfl hl.1 rfl (lv_room (Nat.le_of_ble_eq_true rfl)) dL_law_1185 hfit (fun _ _ H locs z9 hP hD hS => ?_)
  have z9 := z9.symm
  subst z9
  replace hP : va_P G vwCl (wX cA xa ka ra na ia ua va ca za pa qa X K R P L P2 L2 Tn_2 Ti Tu Tv C_3 Z q0_4 q1 q2 q3 q4 q5 ++ (wM cA aa S_7 LM_8 ++ [(oa, .inl (cA 2, 1, .inr (.inl og)))])) H := tw_P wl_rot hP
  replace hD : va_D A (wX cA xa ka ra na ia ua va ca za pa qa X K R P L P2 L2 Tn_2 Ti Tu Tv C_3 Z q0_4 q1 q2 q3 q4 q5 ++ (wM cA aa S_7 LM_8 ++ [(oa, .inl (cA 2, 1, .inr (.inl og)))])) := tw_D wl_rot hD
  refine lv_pop hx hb dL_law_1188 rfl ?_
  refine lv_goto (tgt := 1217) hx hb dL_law_1189 (by decide) ?_
  exact hk H locs ls ⟨xa, ka, ra, na, ia, ua, va, ca, za, pa, qa, aa, X, K, R, P, L, P2, L2, Tn_2, Ti, Tu, Tv, C_3, Z, q0_4, q1, q2, q3, q4, q5, S_7, LM_8, og, rfl, rfl, ⟨bX, bK, bR, bP, bP2, hq5.1, bTi, bTu, bTv, hq5.2.1, bZ, dz, hq5.2.2, e4, e5, e1⟩, hq9.1, (E_back hok jx hrel hcx hcm), hP, hD⟩ hS hl
set_option maxHeartbeats 4000000 in
set_option maxRecDepth 100000 in
theorem lc_33 {p : Program} {e : Env} {s : State} {m : MethodId} {below : List Frame} {meth : Method} {c : Code} (l : Launch) {b Ln : Nat} {xs : Nat → Int32} (C0 : lw_At p s m meth c b Ln xs) (G : va_G) (cA : Nat → ClassId) {A : Nat → Prop} (hAe : A = fun q : Nat => s.heap.size ≤ q) (hK : va_K G vwCl (tyL cA) s) (hN : tqN s) {bA : Nat} (hB : tqB bA A s s.heap) {H : Heap} {locs : List Loc} {ls : Array Slot} {kc ks : Nat} (hfit : kc ≤ 601024 ∧ ks ≤ 7293034) {i : Int32} (hi : 0 ≤ i.toInt ∧ i.toInt + 6 ≤ (Ln : Int)) (hLn : Ln ≤ 3072) {x0 mm oa : Nat} (hI : lwP G cA A x0 mm oa H) (hS : va_S A s.heap H locs) (hl : lv_has ls 7 [(4, .int i), (3, .ref oa), (2, .ref mm), (1, .ref x0), (0, .ref b)]) (hk : (∀ (H : Heap) (locs : List Loc) (ls : Array Slot), lwP G cA A x0 mm oa H → va_S A s.heap H locs → lv_has ls 7 [(4, .int i), (3, .ref oa), (2, .ref mm), (1, .ref x0), (0, .ref b)] → W p l e room_1 s m #[Value.ref b] below meth c H locs kc ks (lw_Z below #[Value.ref b] s) (F0 m 1217 ls []))) : W p l e room_1 s m #[Value.ref b] below meth c H locs kc ks (lw_Z below #[Value.ref b] s) (F0 m 1192 ls []) := by
  obtain ⟨hx, hb, hr, hml, hown, hts, hX, hbl, hlocks, hgv⟩ := id C0
  have hT : ∀ v ∈ T0, v.before #[Value.ref b] s = true := fun v h => hts v (tq_law_in v h)
  have hown : s.vm.findClass RL = some m.cls := hown
  have hA : ∀ q : Nat, s.heap.size ≤ q → A q := fun q h => by rw [hAe]; exact h
  have hbA : ¬ A b := by rw [hAe]; exact Nat.not_le.mpr hbl
  obtain ⟨xa, ka, ra, na, ia, ua, va, ca, za, pa, qa, aa, X, K, R, P, L, P2, L2, Tn, Ti, Tu, Tv, C, Z, q0, q1, q2, q3, q4, q5, S, LM, og, rfl, rfl, hok, jx, hrel, hP, hD⟩ := hI
  obtain ⟨bX, bK, bR, bP, bP2, bTn, bTi, bTu, bTv, bC, bZ, dz, e0, e4, e5, e1⟩ := id hok
  obtain ⟨w1, hw1⟩ : ∃ z, xs (i + 1).toNatClampNeg = z := ⟨_, rfl⟩
  obtain ⟨w2, hw2⟩ : ∃ z, xs (i + 2).toNatClampNeg = z := ⟨_, rfl⟩
  obtain ⟨w3, hw3⟩ : ∃ z, xs (i + 3).toNatClampNeg = z := ⟨_, rfl⟩
  obtain ⟨w4, hw4⟩ : ∃ z, xs (i + 4).toNatClampNeg = z := ⟨_, rfl⟩
  obtain ⟨w5, hw5⟩ : ∃ z, xs (i + 5).toNatClampNeg = z := ⟨_, rfl⟩
  refine lv_aload_n hx hb dL_law_1192 rfl (lv_at hl 3 rfl) ?_
  refine lv_aload_n hx hb dL_law_1193 rfl (lv_at hl 4 rfl) ?_
  refine lv_iload hx hb dL_law_1194 (lv_at hl 0 rfl) ?_
  refine lv_iconst (v := 1) hx hb dL_law_1196 (by decide) ?_
  refine lv_iadd hx hb dL_law_1197 ?_
  refine va_sld (i := i + 1) hx hb hX hbl hbA hS (lw_in hi (by decide)) dL_law_1198 ?_
  refine tq_i (w := w1) hw1 ?_
  obtain ⟨r1, hcx, hq2⟩ := (t_X7_count pa qa P Tn C Z q0 q4 w1 bP bTn bC bZ e0 e4)
  refine lw_ci (As := [.int w1]) (rest := []) hP hD hS hA hK hN ⟨hx, hb, hml, hown, hT⟩ (c_X7_count l G cA H.size xa ka ra na ia ua va ca za pa qa X K R P L P2 L2 Tn Ti Tu Tv C Z q0 q1 q2 q3 q4 q5 w1 r1 hcx) (cwV 1 hT (tq_gV kw_59_15 kw_59_16 kw_59_17 kw_1_2 kw_59_18) rfl rfl rfl dkdV_yX7_count_1 ⟨Nat.le_of_ble_eq_true rfl, Nat.le_of_ble_eq_true rfl⟩) (wX_rec hK hP) rfl hl.1 rfl (lv_room (Nat.le_of_ble_eq_true rfl)) dL_law_1199 hfit (fun _ _ H locs z9 hP hD hS => ?_)
  have z9 := z9.symm
  subst z9
  refine lv_pop hx hb dL_law_1202 rfl ?_
  refine lv_aload_n hx hb dL_law_1203 rfl (lv_at hl 2 rfl) ?_
  refine lv_aload_n hx hb dL_law_1204 rfl (lv_at hl 4 rfl) ?_
  refine lv_iload hx hb dL_law_1205 (lv_at hl 0 rfl) ?_
  refine lv_iconst (v := 1) hx hb dL_law_1207 (by decide) ?_
  refine lv_iadd hx hb dL_law_1208 ?_
  refine va_sld (i := i + 1) hx hb hX hbl hbA hS (lw_in hi (by decide)) dL_law_1209 ?_
  refine tq_i (w := w1) hw1 ?_
  obtain ⟨⟨r3, S_4⟩, hcm, hq5⟩ := (Q_count S w1 jx)
  replace hP : va_P G vwCl (wM cA aa S LM ++ (wX cA xa ka ra na ia ua va ca za pa qa X K R P L P2 L2 Tn Ti Tu Tv C Z q0 q1 q2 q3 q4 q5 ++ [(oa, .inl (cA 2, 1, .inr (.inl og)))])) H := tw_P wl_rot hP
  replace hD : va_D A (wM cA aa S LM ++ (wX cA xa ka ra na ia ua va ca za pa qa X K R P L P2 L2 Tn Ti Tu Tv C Z q0 q1 q2 q3 q4 q5 ++ [(oa, .inl (cA 2, 1, .inr (.inl og)))])) := tw_D wl_rot hD
  refine lw_ci (As := [.int w1]) (rest := []) hP hD hS hA hK hN ⟨hx, hb, hml, hown, hT⟩ (c_X8_count l G cA H.size aa S LM w1 r3 S_4 hcm) (cwV 1 hT (tq_gV kw_60_6 kw_60_7 kw_60_8 kw_1_5 kw_60_9) rfl rfl rfl dkdV_yX8_count_1 ⟨Nat.le_of_ble_eq_true rfl, Nat.le_of_ble_eq_true rfl⟩) (wM_rec hK hP) rfl hl.1 rfl (lv_room (Nat.le_of_ble_eq_true rfl)) dL_law_1210 hfit (fun _ _ H locs z9 hP hD hS => ?_)
  have z9 := z9.symm
  subst z9
  replace hP : va_P G vwCl (wX cA xa ka ra na ia ua va ca za pa qa X K R P L P2 L2 Tn Ti Tu Tv C Z q0 q1 q2 q3 q4 q5 ++ (wM cA aa S_4 LM ++ [(oa, .inl (cA 2, 1, .inr (.inl og)))])) H := tw_P wl_rot hP
  replace hD : va_D A (wX cA xa ka ra na ia ua va ca za pa qa X K R P L P2 L2 Tn Ti Tu Tv C Z q0 q1 q2 q3 q4 q5 ++ (wM cA aa S_4 LM ++ [(oa, .inl (cA 2, 1, .inr (.inl og)))])) := tw_D wl_rot hD
  refine lv_pop hx hb dL_law_1213 rfl ?_
  refine lv_goto (tgt := 1217) hx hb dL_law_1214 (by decide) ?_
  exact hk H locs ls ⟨xa, ka, ra, na, ia, ua, va, ca, za, pa, qa, aa, X, K, R, P, L, P2, L2, Tn, Ti, Tu, Tv, C, Z, q0, q1, q2, q3, q4, q5, S_4, LM, og, rfl, rfl, ⟨bX, bK, bR, bP, bP2, bTn, bTi, bTu, bTv, bC, bZ, dz, e0, e4, e5, e1⟩, hq5.1, (E_count hok jx hrel hcx hcm), hP, hD⟩ hS hl
