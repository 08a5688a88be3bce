set_option maxHeartbeats 4000000 in
set_option maxRecDepth 100000 in
theorem lc_0 {p : Program} {e : Env} {s : State} {m : MethodId} {below : List Frame} {meth : Method} {c : Code} (l : Launch) {b Ln : Nat} {xs : Nat → Int32} (C0 : lw_At p s m meth c b Ln xs) (G : va_G) (cA : Nat → ClassId) {A : Nat → Prop} (hAe : A = fun q : Nat => s.heap.size ≤ q) (hK : va_K G vwCl (tyL cA) s) (hN : tqN s) {bA : Nat} (hB : tqB bA A s s.heap) {H : Heap} {locs : List Loc} {ls : Array Slot} {kc ks : Nat} (hfit : kc ≤ 601024 ∧ ks ≤ 7293034) {i : Int32} (hi : 0 ≤ i.toInt ∧ i.toInt + 6 ≤ (Ln : Int)) (hLn : Ln ≤ 3072) {x0 mm oa : Nat} (hI : lwP G cA A x0 mm oa H) (hS : va_S A s.heap H locs) (hl : lv_has ls 7 [(4, .int i), (3, .ref oa), (2, .ref mm), (1, .ref x0), (0, .ref b)]) (hk : (∀ (H : Heap) (locs : List Loc) (ls : Array Slot), lwP G cA A x0 mm oa H → va_S A s.heap H locs → lv_has ls 7 [(4, .int i), (3, .ref oa), (2, .ref mm), (1, .ref x0), (0, .ref b)] → W p l e room_1 s m #[Value.ref b] below meth c H locs kc ks (lw_Z below #[Value.ref b] s) (F0 m 1217 ls []))) : W p l e room_1 s m #[Value.ref b] below meth c H locs kc ks (lw_Z below #[Value.ref b] s) (F0 m 192 ls []) := by
  obtain ⟨hx, hb, hr, hml, hown, hts, hX, hbl, hlocks, hgv⟩ := id C0
  have hT : ∀ v ∈ T0, v.before #[Value.ref b] s = true := fun v h => hts v (tq_law_in v h)
  have hown : s.vm.findClass RL = some m.cls := hown
  have hA : ∀ q : Nat, s.heap.size ≤ q → A q := fun q h => by rw [hAe]; exact h
  have hbA : ¬ A b := by rw [hAe]; exact Nat.not_le.mpr hbl
  obtain ⟨xa, ka, ra, na, ia, ua, va, ca, za, pa, qa, aa, X, K, R, P, L, P2, L2, Tn, Ti, Tu, Tv, C, Z, q0, q1, q2, q3, q4, q5, S, LM, og, rfl, rfl, hok, jx, hrel, hP, hD⟩ := hI
  obtain ⟨bX, bK, bR, bP, bP2, bTn, bTi, bTu, bTv, bC, bZ, dz, e0, e4, e5, e1⟩ := id hok
  obtain ⟨w1, hw1⟩ : ∃ z, xs (i + 1).toNatClampNeg = z := ⟨_, rfl⟩
  obtain ⟨w2, hw2⟩ : ∃ z, xs (i + 2).toNatClampNeg = z := ⟨_, rfl⟩
  obtain ⟨w3, hw3⟩ : ∃ z, xs (i + 3).toNatClampNeg = z := ⟨_, rfl⟩
  obtain ⟨w4, hw4⟩ : ∃ z, xs (i + 4).toNatClampNeg = z := ⟨_, rfl⟩
  obtain ⟨w5, hw5⟩ : ∃ z, xs (i + 5).toNatClampNeg = z := ⟨_, rfl⟩
  refine lv_aload_n hx hb dL_law_192 rfl (lv_at hl 3 rfl) ?_
  refine lv_aload_n hx hb dL_law_193 rfl (lv_at hl 4 rfl) ?_
  refine lv_iload hx hb dL_law_194 (lv_at hl 0 rfl) ?_
  refine lv_iconst (v := 1) hx hb dL_law_196 (by decide) ?_
  refine lv_iadd hx hb dL_law_197 ?_
  refine va_sld (i := i + 1) hx hb hX hbl hbA hS (lw_in hi (by decide)) dL_law_198 ?_
  refine tq_i (w := w1) hw1 ?_
  refine lv_aload_n hx hb dL_law_199 rfl (lv_at hl 4 rfl) ?_
  refine lv_iload hx hb dL_law_200 (lv_at hl 0 rfl) ?_
  refine lv_iconst (v := 2) hx hb dL_law_202 (by decide) ?_
  refine lv_iadd hx hb dL_law_203 ?_
  refine va_sld (i := i + 2) hx hb hX hbl hbA hS (lw_in hi (by decide)) dL_law_204 ?_
  refine tq_i (w := w2) hw2 ?_
  refine lv_aload_n hx hb dL_law_205 rfl (lv_at hl 4 rfl) ?_
  refine lv_iload hx hb dL_law_206 (lv_at hl 0 rfl) ?_
  refine lv_iconst (v := 3) hx hb dL_law_208 (by decide) ?_
  refine lv_iadd hx hb dL_law_209 ?_
  refine va_sld (i := i + 3) hx hb hX hbl hbA hS (lw_in hi (by decide)) dL_law_210 ?_
  refine tq_i (w := w3) hw3 ?_
  refine lv_aload_n hx hb dL_law_211 rfl (lv_at hl 4 rfl) ?_
  refine lv_iload hx hb dL_law_212 (lv_at hl 0 rfl) ?_
  refine lv_iconst (v := 4) hx hb dL_law_214 (by decide) ?_
  refine lv_iadd hx hb dL_law_215 ?_
  refine va_sld (i := i + 4) hx hb hX hbl hbA hS (lw_in hi (by decide)) dL_law_216 ?_
  refine tq_i (w := w4) hw4 ?_
  refine lv_aload_n hx hb dL_law_217 rfl (lv_at hl 4 rfl) ?_
  refine lv_iload hx hb dL_law_218 (lv_at hl 0 rfl) ?_
  refine lv_iconst (v := 5) hx hb dL_law_220 (by decide) ?_
  refine lv_iadd hx hb dL_law_221 ?_
  refine va_sld (i := i + 5) hx hb hX hbl hbA hS (lw_in hi (by decide)) dL_law_222 ?_
  refine tq_i (w := w5) hw5 ?_
  obtain ⟨⟨r1, K_2⟩, hcx, hq3⟩ := (D_Ep (t_X7_feed pa qa K w1 w2 w3 w4 w5 bK) (e_feed pa qa K w1 w2 w3 w4 w5 (bK 0 0)))
  refine lw_ci (As := [.int w1, .int w2, .int w3, .int w4, .int w5]) (rest := []) hP hD hS hA hK hN ⟨hx, hb, hml, hown, hT⟩ (c_X7_feed l G cA H.size xa ka ra na ia ua va ca za pa qa X K R P L P2 L2 Tn Ti Tu Tv C Z q0 q1 q2 q3 q4 q5 w1 w2 w3 w4 w5 r1 K_2 hcx) (cwV 5 hT (tq_gV kw_13_9 kw_13_10 kw_13_11 kw_1_2 kw_13_12) rfl rfl rfl (by decide +kernel) ⟨Nat.le_of_ble_eq_true rfl, Nat.le_of_ble_eq_true rfl⟩) (wX_rec hK hP) rfl hl.1 rfl (lv_room (Nat.le_of_ble_eq_true rfl)) dL_law_223 hfit (fun _ _ H locs z9 hP hD hS => ?_)
  have z9 := z9.symm
  subst z9
  refine lv_pop hx hb dL_law_226 rfl ?_
  refine lv_aload_n hx hb dL_law_227 rfl (lv_at hl 2 rfl) ?_
  refine lv_aload_n hx hb dL_law_228 rfl (lv_at hl 4 rfl) ?_
  refine lv_iload hx hb dL_law_229 (lv_at hl 0 rfl) ?_
  refine lv_iconst (v := 1) hx hb dL_law_231 (by decide) ?_
  refine lv_iadd hx hb dL_law_232 ?_
  refine va_sld (i := i + 1) hx hb hX hbl hbA hS (lw_in hi (by decide)) dL_law_233 ?_
  refine tq_i (w := w1) hw1 ?_
  refine lv_aload_n hx hb dL_law_234 rfl (lv_at hl 4 rfl) ?_
  refine lv_iload hx hb dL_law_235 (lv_at hl 0 rfl) ?_
  refine lv_iconst (v := 2) hx hb dL_law_237 (by decide) ?_
  refine lv_iadd hx hb dL_law_238 ?_
  refine va_sld (i := i + 2) hx hb hX hbl hbA hS (lw_in hi (by decide)) dL_law_239 ?_
  refine tq_i (w := w2) hw2 ?_
  refine lv_aload_n hx hb dL_law_240 rfl (lv_at hl 4 rfl) ?_
  refine lv_iload hx hb dL_law_241 (lv_at hl 0 rfl) ?_
  refine lv_iconst (v := 3) hx hb dL_law_243 (by decide) ?_
  refine lv_iadd hx hb dL_law_244 ?_
  refine va_sld (i := i + 3) hx hb hX hbl hbA hS (lw_in hi (by decide)) dL_law_245 ?_
  refine tq_i (w := w3) hw3 ?_
  refine lv_aload_n hx hb dL_law_246 rfl (lv_at hl 4 rfl) ?_
  refine lv_iload hx hb dL_law_247 (lv_at hl 0 rfl) ?_
  refine lv_iconst (v := 4) hx hb dL_law_249 (by decide) ?_
  refine lv_iadd hx hb dL_law_250 ?_
  refine va_sld (i := i + 4) hx hb hX hbl hbA hS (lw_in hi (by decide)) dL_law_251 ?_
  refine tq_i (w := w4) hw4 ?_
  refine lv_aload_n hx hb dL_law_252 rfl (lv_at hl 4 rfl) ?_
  refine lv_iload hx hb dL_law_253 (lv_at hl 0 rfl) ?_
  refine lv_iconst (v := 5) hx hb dL_law_255 (by decide) ?_
  refine lv_iadd hx hb dL_law_256 ?_
  refine va_sld (i := i + 5) hx hb hX hbl hbA hS (lw_in hi (by decide)) dL_law_257 ?_
  refine tq_i (w := w5) hw5 ?_
  obtain ⟨⟨r4, S_5⟩, hcm, hq6⟩ := (Q_feed S w1 w2 w3 w4 w5 jx)
  replace hP : va_P G vwCl (wM cA aa S LM ++ (wX cA xa ka ra na ia ua va ca za pa qa X K_2 R P L P2 L2 Tn Ti Tu Tv C Z q0 q1 q2 q3 q4 q5 ++ [(oa, .inl (cA 2, 1, .inr (.inl og)))])) H := tw_P wl_rot hP
  replace hD : va_D A (wM cA aa S LM ++ (wX cA xa ka ra na ia ua va ca za pa qa X K_2 R P L P2 L2 Tn Ti Tu Tv C Z q0 q1 q2 q3 q4 q5 ++ [(oa, .inl (cA 2, 1, .inr (.inl og)))])) := tw_D wl_rot hD
  refine lw_ci (As := [.int w1, .int w2, .int w3, .int w4, .int w5]) (rest := []) hP hD hS hA hK hN ⟨hx, hb, hml, hown, hT⟩ (c_X8_feed l G cA H.size aa S LM w1 w2 w3 w4 w5 r4 S_5 hcm) (cwV 5 hT (tq_gV kw_13_20 kw_13_21 kw_13_22 kw_1_5 kw_13_23) rfl rfl rfl (by decide +kernel) ⟨Nat.le_of_ble_eq_true rfl, Nat.le_of_ble_eq_true rfl⟩) (wM_rec hK hP) rfl hl.1 rfl (lv_room (Nat.le_of_ble_eq_true rfl)) dL_law_258 hfit (fun _ _ H locs z9 hP hD hS => ?_)
  have z9 := z9.symm
  subst z9
  replace hP : va_P G vwCl (wX cA xa ka ra na ia ua va ca za pa qa X K_2 R P L P2 L2 Tn Ti Tu Tv C Z q0 q1 q2 q3 q4 q5 ++ (wM cA aa S_5 LM ++ [(oa, .inl (cA 2, 1, .inr (.inl og)))])) H := tw_P wl_rot hP
  replace hD : va_D A (wX cA xa ka ra na ia ua va ca za pa qa X K_2 R P L P2 L2 Tn Ti Tu Tv C Z q0 q1 q2 q3 q4 q5 ++ (wM cA aa S_5 LM ++ [(oa, .inl (cA 2, 1, .inr (.inl og)))])) := tw_D wl_rot hD
  refine lv_pop hx hb dL_law_261 rfl ?_
  refine lv_goto (tgt := 1217) hx hb dL_law_262 (by decide) ?_
  exact hk H locs ls ⟨xa, ka, ra, na, ia, ua, va, ca, za, pa, qa, aa, X, K_2, R, P, L, P2, L2, Tn, Ti, Tu, Tv, C, Z, q0, q1, q2, q3, q4, q5, S_5, LM, og, rfl, rfl, ⟨bX, hq3.1, bR, bP, bP2, bTn, bTi, bTu, bTv, bC, bZ, dz, e0, e4, e5, e1⟩, hq6.1, (E_feed hok jx hrel hcx hcm), hP, hD⟩ hS hl
set_option maxHeartbeats 4000000 in
set_option maxRecDepth 100000 in
theorem lc_1 {p : Program} {e : Env} {s : State} {m : MethodId} {below : List Frame} {meth : Method} {c : Code} (l : Launch) {b Ln : Nat} {xs : Nat → Int32} (C0 : lw_At p s m meth c b Ln xs) (G : va_G) (cA : Nat → ClassId) {A : Nat → Prop} (hAe : A = fun q : Nat => s.heap.size ≤ q) (hK : va_K G vwCl (tyL cA) s) (hN : tqN s) {bA : Nat} (hB : tqB bA A s s.heap) {H : Heap} {locs : List Loc} {ls : Array Slot} {kc ks : Nat} (hfit : kc ≤ 601024 ∧ ks ≤ 7293034) {i : Int32} (hi : 0 ≤ i.toInt ∧ i.toInt + 6 ≤ (Ln : Int)) (hLn : Ln ≤ 3072) {x0 mm oa : Nat} (hI : lwP G cA A x0 mm oa H) (hS : va_S A s.heap H locs) (hl : lv_has ls 7 [(4, .int i), (3, .ref oa), (2, .ref mm), (1, .ref x0), (0, .ref b)]) (hk : (∀ (H : Heap) (locs : List Loc) (ls : Array Slot), lwP G cA A x0 mm oa H → va_S A s.heap H locs → lv_has ls 7 [(4, .int i), (3, .ref oa), (2, .ref mm), (1, .ref x0), (0, .ref b)] → W p l e room_1 s m #[Value.ref b] below meth c H locs kc ks (lw_Z below #[Value.ref b] s) (F0 m 1217 ls []))) : W p l e room_1 s m #[Value.ref b] below meth c H locs kc ks (lw_Z below #[Value.ref b] s) (F0 m 265 ls []) := by
  obtain ⟨hx, hb, hr, hml, hown, hts, hX, hbl, hlocks, hgv⟩ := id C0
  have hT : ∀ v ∈ T0, v.before #[Value.ref b] s = true := fun v h => hts v (tq_law_in v h)
  have hown : s.vm.findClass RL = some m.cls := hown
  have hA : ∀ q : Nat, s.heap.size ≤ q → A q := fun q h => by rw [hAe]; exact h
  have hbA : ¬ A b := by rw [hAe]; exact Nat.not_le.mpr hbl
  obtain ⟨xa, ka, ra, na, ia, ua, va, ca, za, pa, qa, aa, X, K, R, P, L, P2, L2, Tn, Ti, Tu, Tv, C, Z, q0, q1, q2, q3, q4, q5, S, LM, og, rfl, rfl, hok, jx, hrel, hP, hD⟩ := hI
  obtain ⟨bX, bK, bR, bP, bP2, bTn, bTi, bTu, bTv, bC, bZ, dz, e0, e4, e5, e1⟩ := id hok
  obtain ⟨w1, hw1⟩ : ∃ z, xs (i + 1).toNatClampNeg = z := ⟨_, rfl⟩
  obtain ⟨w2, hw2⟩ : ∃ z, xs (i + 2).toNatClampNeg = z := ⟨_, rfl⟩
  obtain ⟨w3, hw3⟩ : ∃ z, xs (i + 3).toNatClampNeg = z := ⟨_, rfl⟩
  obtain ⟨w4, hw4⟩ : ∃ z, xs (i + 4).toNatClampNeg = z := ⟨_, rfl⟩
  obtain ⟨w5, hw5⟩ : ∃ z, xs (i + 5).toNatClampNeg = z := ⟨_, rfl⟩
  refine lv_aload_n hx hb dL_law_265 rfl (lv_at hl 3 rfl) ?_
  refine lv_aload_n hx hb dL_law_266 rfl (lv_at hl 4 rfl) ?_
  refine lv_iload hx hb dL_law_267 (lv_at hl 0 rfl) ?_
  refine lv_iconst (v := 1) hx hb dL_law_269 (by decide) ?_
  refine lv_iadd hx hb dL_law_270 ?_
  refine va_sld (i := i + 1) hx hb hX hbl hbA hS (lw_in hi (by decide)) dL_law_271 ?_
  refine tq_i (w := w1) hw1 ?_
  obtain ⟨⟨r1, X_2, K_3, R_4, P2_5, Tn_6, C_7, Z_8, q0_9, q4_10, q5_11⟩, hcx, hq12⟩ := (t_X7_text pa qa X K R P2 Tn C Z q0 q4 q5 w1 bX bK bR bP2 bTn bC bZ dz e0 e4 e5)
  refine lw_ciB (As := [.int w1]) (rest := []) hP hD hS hA hK hN hB ⟨hx, hb, hml, hown, hT⟩ (c_X7_text l G cA H.size bA xa ka ra na ia ua va ca za pa qa X K R P L P2 L2 Tn Ti Tu Tv C Z q0 q1 q2 q3 q4 q5 w1 r1 X_2 K_3 R_4 P2_5 Tn_6 C_7 Z_8 q0_9 q4_10 q5_11 hcx) (cwV 1 hT (tq_gV kw_14_2 kw_14_3 kw_14_4 kw_1_2 kw_14_5) rfl rfl rfl (by decide +kernel) ⟨Nat.le_of_ble_eq_true rfl, Nat.le_of_ble_eq_true rfl⟩) (wX_rec hK hP) rfl hl.1 rfl (lv_room (Nat.le_of_ble_eq_true rfl)) dL_law_272 hfit (fun _ _ H locs z9 hP hD hS => ?_)
  have z9 := z9.symm
  subst z9
  refine lv_pop hx hb dL_law_275 rfl ?_
  refine lv_aload_n hx hb dL_law_276 rfl (lv_at hl 2 rfl) ?_
  refine lv_aload_n hx hb dL_law_277 rfl (lv_at hl 4 rfl) ?_
  refine lv_iload hx hb dL_law_278 (lv_at hl 0 rfl) ?_
  refine lv_iconst (v := 1) hx hb dL_law_280 (by decide) ?_
  refine lv_iadd hx hb dL_law_281 ?_
  refine va_sld (i := i + 1) hx hb hX hbl hbA hS (lw_in hi (by decide)) dL_law_282 ?_
  refine tq_i (w := w1) hw1 ?_
  obtain ⟨⟨r13, S_14, LM_15⟩, hcm, hq16⟩ := (Q_text S LM w1 jx)
  replace hP : va_P G vwCl (wM cA aa S LM ++ (wX cA xa ka ra na ia ua va ca za pa qa X_2 K_3 R_4 P L P2_5 L2 Tn_6 Ti Tu Tv C_7 Z_8 q0_9 q1 q2 q3 q4_10 q5_11 ++ [(oa, .inl (cA 2, 1, .inr (.inl og)))])) H := tw_P wl_rot hP
  replace hD : va_D A (wM cA aa S LM ++ (wX cA xa ka ra na ia ua va ca za pa qa X_2 K_3 R_4 P L P2_5 L2 Tn_6 Ti Tu Tv C_7 Z_8 q0_9 q1 q2 q3 q4_10 q5_11 ++ [(oa, .inl (cA 2, 1, .inr (.inl og)))])) := tw_D wl_rot hD
  refine lw_ci (As := [.int w1]) (rest := []) hP hD hS hA hK hN ⟨hx, hb, hml, hown, hT⟩ (c_X8_text l G cA H.size aa S LM w1 r13 S_14 LM_15 hcm) (cwV 1 hT (tq_gV kw_22_7 kw_22_8 kw_22_9 kw_1_5 kw_22_10) rfl rfl rfl (by decide +kernel) ⟨Nat.le_of_ble_eq_true rfl, Nat.le_of_ble_eq_true rfl⟩) (wM_rec hK hP) rfl hl.1 rfl (lv_room (Nat.le_of_ble_eq_true rfl)) dL_law_283 hfit (fun _ _ H locs z9 hP hD hS => ?_)
  have z9 := z9.symm
  subst z9
  replace hP : va_P G vwCl (wX cA xa ka ra na ia ua va ca za pa qa X_2 K_3 R_4 P L P2_5 L2 Tn_6 Ti Tu Tv C_7 Z_8 q0_9 q1 q2 q3 q4_10 q5_11 ++ (wM cA aa S_14 LM_15 ++ [(oa, .inl (cA 2, 1, .inr (.inl og)))])) H := tw_P wl_rot hP
  replace hD : va_D A (wX cA xa ka ra na ia ua va ca za pa qa X_2 K_3 R_4 P L P2_5 L2 Tn_6 Ti Tu Tv C_7 Z_8 q0_9 q1 q2 q3 q4_10 q5_11 ++ (wM cA aa S_14 LM_15 ++ [(oa, .inl (cA 2, 1, .inr (.inl og)))])) := tw_D wl_rot hD
  refine lv_pop hx hb dL_law_286 rfl ?_
  refine lv_goto (tgt := 1217) hx hb dL_law_287 (by decide) ?_
  rcases (E_text hok jx hrel hcx hcm) with ⟨f0, f4, f5, fX, hr⟩ | ⟨f0, f4, f5, fX, hr⟩
  · exact hk H locs ls ⟨xa, ka, ra, na, ia, ua, va, ca, za, pa, qa, aa, X_2, K_3, R_4, P, L, P2_5, L2, Tn_6, Ti, Tu, Tv, C_7, Z_8, q0_9, q1, q2, q3, q4_10, q5_11, S_14, LM_15, og, rfl, rfl, ⟨hq12.1, hq12.2.1, hq12.2.2.1, bP, hq12.2.2.2.1, hq12.2.2.2.2.1, bTi, bTu, bTv, hq12.2.2.2.2.2.1, hq12.2.2.2.2.2.2.1, hq12.2.2.2.2.2.2.2.1, f0.trans e0, f4.trans e4, f5, fun hz => e1 (fun h9 => hz ((congrFun (congrFun fX 0) 4).trans h9))⟩, hq16.1, hr, hP, hD⟩ hS hl
  · exact hk H locs ls ⟨xa, ka, ra, na, ia, ua, va, ca, za, qa, pa, aa, X_2, K_3, R_4, P2_5, L2, P, L, Tn_6, Ti, Tu, Tv, C_7, Z_8, q0_9, q1, q2, q3, q4_10, q5_11, S_14, LM_15, og, rfl, rfl, ⟨hq12.1, hq12.2.1, hq12.2.2.1, hq12.2.2.2.1, bP, hq12.2.2.2.2.1, bTi, bTu, bTv, hq12.2.2.2.2.2.1, hq12.2.2.2.2.2.2.1, hq12.2.2.2.2.2.2.2.1, f0, f4, f5.trans e4, fun hz => absurd fX hz⟩, hq16.1, hr, tw_P (wX_sw.append_right _) hP, tw_D (wX_sw.append_right _) hD⟩ hS hl
set_option maxHeartbeats 4000000 in
set_option maxRecDepth 100000 in
theorem lc_2 {p : Program} {e : Env} {s : State} {m : MethodId} {below : List Frame} {meth : Method} {c : Code} (l : Launch) {b Ln : Nat} {xs : Nat → Int32} (C0 : lw_At p s m meth c b Ln xs) (G : va_G) (cA : Nat → ClassId) {A : Nat → Prop} (hAe : A = fun q : Nat => s.heap.size ≤ q) (hK : va_K G vwCl (tyL cA) s) (hN : tqN s) {bA : Nat} (hB : tqB bA A s s.heap) {H : Heap} {locs : List Loc} {ls : Array Slot} {kc ks : Nat} (hfit : kc ≤ 601024 ∧ ks ≤ 7293034) {i : Int32} (hi : 0 ≤ i.toInt ∧ i.toInt + 6 ≤ (Ln : Int)) (hLn : Ln ≤ 3072) {x0 mm oa : Nat} (hI : lwP G cA A x0 mm oa H) (hS : va_S A s.heap H locs) (hl : lv_has ls 7 [(4, .int i), (3, .ref oa), (2, .ref mm), (1, .ref x0), (0, .ref b)]) (hk : (∀ (H : Heap) (locs : List Loc) (ls : Array Slot), lwP G cA A x0 mm oa H → va_S A s.heap H locs → lv_has ls 7 [(4, .int i), (3, .ref oa), (2, .ref mm), (1, .ref x0), (0, .ref b)] → W p l e room_1 s m #[Value.ref b] below meth c H locs kc ks (lw_Z below #[Value.ref b] s) (F0 m 1217 ls []))) : W p l e room_1 s m #[Value.ref b] below meth c H locs kc ks (lw_Z below #[Value.ref b] s) (F0 m 290 ls []) := by
  obtain ⟨hx, hb, hr, hml, hown, hts, hX, hbl, hlocks, hgv⟩ := id C0
  have hT : ∀ v ∈ T0, v.before #[Value.ref b] s = true := fun v h => hts v (tq_law_in v h)
  have hown : s.vm.findClass RL = some m.cls := hown
  have hA : ∀ q : Nat, s.heap.size ≤ q → A q := fun q h => by rw [hAe]; exact h
  have hbA : ¬ A b := by rw [hAe]; exact Nat.not_le.mpr hbl
  obtain ⟨xa, ka, ra, na, ia, ua, va, ca, za, pa, qa, aa, X, K, R, P, L, P2, L2, Tn, Ti, Tu, Tv, C, Z, q0, q1, q2, q3, q4, q5, S, LM, og, rfl, rfl, hok, jx, hrel, hP, hD⟩ := hI
  obtain ⟨bX, bK, bR, bP, bP2, bTn, bTi, bTu, bTv, bC, bZ, dz, e0, e4, e5, e1⟩ := id hok
  obtain ⟨w1, hw1⟩ : ∃ z, xs (i + 1).toNatClampNeg = z := ⟨_, rfl⟩
  obtain ⟨w2, hw2⟩ : ∃ z, xs (i + 2).toNatClampNeg = z := ⟨_, rfl⟩
  obtain ⟨w3, hw3⟩ : ∃ z, xs (i + 3).toNatClampNeg = z := ⟨_, rfl⟩
  obtain ⟨w4, hw4⟩ : ∃ z, xs (i + 4).toNatClampNeg = z := ⟨_, rfl⟩
  obtain ⟨w5, hw5⟩ : ∃ z, xs (i + 5).toNatClampNeg = z := ⟨_, rfl⟩
  refine lv_aload_n hx hb dL_law_290 rfl (lv_at hl 3 rfl) ?_
  refine lv_aload_n hx hb dL_law_291 rfl (lv_at hl 4 rfl) ?_
  refine lv_iload hx hb dL_law_292 (lv_at hl 0 rfl) ?_
  refine lv_iconst (v := 1) hx hb dL_law_294 (by decide) ?_
  refine lv_iadd hx hb dL_law_295 ?_
  refine va_sld (i := i + 1) hx hb hX hbl hbA hS (lw_in hi (by decide)) dL_law_296 ?_
  refine tq_i (w := w1) hw1 ?_
  obtain ⟨r1, hcx, hq2⟩ := (t_X7_fault pa qa R w1 bR)
  refine lw_ci (As := [.int w1]) (rest := []) hP hD hS hA hK hN ⟨hx, hb, hml, hown, hT⟩ (c_X7_fault l G cA H.size xa ka ra na ia ua va ca za pa qa X K R P L P2 L2 Tn Ti Tu Tv C Z q0 q1 q2 q3 q4 q5 w1 r1 hcx) (cwV 1 hT (tq_gV kw_27_13 kw_27_14 kw_27_15 kw_1_2 kw_27_16) rfl rfl rfl (by decide +kernel) ⟨Nat.le_of_ble_eq_true rfl, Nat.le_of_ble_eq_true rfl⟩) (wX_rec hK hP) rfl hl.1 rfl (lv_room (Nat.le_of_ble_eq_true rfl)) dL_law_297 hfit (fun _ _ H locs z9 hP hD hS => ?_)
  have z9 := z9.symm
  subst z9
  refine lv_pop hx hb dL_law_300 rfl ?_
  refine lv_aload_n hx hb dL_law_301 rfl (lv_at hl 2 rfl) ?_
  refine lv_aload_n hx hb dL_law_302 rfl (lv_at hl 4 rfl) ?_
  refine lv_iload hx hb dL_law_303 (lv_at hl 0 rfl) ?_
  refine lv_iconst (v := 1) hx hb dL_law_305 (by decide) ?_
  refine lv_iadd hx hb dL_law_306 ?_
  refine va_sld (i := i + 1) hx hb hX hbl hbA hS (lw_in hi (by decide)) dL_law_307 ?_
  refine tq_i (w := w1) hw1 ?_
  obtain ⟨⟨r3, S_4⟩, hcm, hq5⟩ := (Q_fault S w1 jx)
  replace hP : va_P G vwCl (wM cA aa S LM ++ (wX cA xa ka ra na ia ua va ca za pa qa X K R P L P2 L2 Tn Ti Tu Tv C Z q0 q1 q2 q3 q4 q5 ++ [(oa, .inl (cA 2, 1, .inr (.inl og)))])) H := tw_P wl_rot hP
  replace hD : va_D A (wM cA aa S LM ++ (wX cA xa ka ra na ia ua va ca za pa qa X K R P L P2 L2 Tn Ti Tu Tv C Z q0 q1 q2 q3 q4 q5 ++ [(oa, .inl (cA 2, 1, .inr (.inl og)))])) := tw_D wl_rot hD
  refine lw_ci (As := [.int w1]) (rest := []) hP hD hS hA hK hN ⟨hx, hb, hml, hown, hT⟩ (c_X8_fault l G cA H.size aa S LM w1 r3 S_4 hcm) (cwV 1 hT (tq_gV kw_27_19 kw_27_20 kw_27_21 kw_1_5 kw_27_22) rfl rfl rfl (by decide +kernel) ⟨Nat.le_of_ble_eq_true rfl, Nat.le_of_ble_eq_true rfl⟩) (wM_rec hK hP) rfl hl.1 rfl (lv_room (Nat.le_of_ble_eq_true rfl)) dL_law_308 hfit (fun _ _ H locs z9 hP hD hS => ?_)
  have z9 := z9.symm
  subst z9
  replace hP : va_P G vwCl (wX cA xa ka ra na ia ua va ca za pa qa X K R P L P2 L2 Tn Ti Tu Tv C Z q0 q1 q2 q3 q4 q5 ++ (wM cA aa S_4 LM ++ [(oa, .inl (cA 2, 1, .inr (.inl og)))])) H := tw_P wl_rot hP
  replace hD : va_D A (wX cA xa ka ra na ia ua va ca za pa qa X K R P L P2 L2 Tn Ti Tu Tv C Z q0 q1 q2 q3 q4 q5 ++ (wM cA aa S_4 LM ++ [(oa, .inl (cA 2, 1, .inr (.inl og)))])) := tw_D wl_rot hD
  refine lv_pop hx hb dL_law_311 rfl ?_
  refine lv_goto (tgt := 1217) hx hb dL_law_312 (by decide) ?_
  exact hk H locs ls ⟨xa, ka, ra, na, ia, ua, va, ca, za, pa, qa, aa, X, K, R, P, L, P2, L2, Tn, Ti, Tu, Tv, C, Z, q0, q1, q2, q3, q4, q5, S_4, LM, og, rfl, rfl, ⟨bX, bK, bR, bP, bP2, bTn, bTi, bTu, bTv, bC, bZ, dz, e0, e4, e5, e1⟩, hq5.1, (E_fault hok jx hrel hcx hcm), hP, hD⟩ hS hl
set_option maxHeartbeats 4000000 in
set_option maxRecDepth 100000 in
theorem lc_3 {p : Program} {e : Env} {s : State} {m : MethodId} {below : List Frame} {meth : Method} {c : Code} (l : Launch) {b Ln : Nat} {xs : Nat → Int32} (C0 : lw_At p s m meth c b Ln xs) (G : va_G) (cA : Nat → ClassId) {A : Nat → Prop} (hAe : A = fun q : Nat => s.heap.size ≤ q) (hK : va_K G vwCl (tyL cA) s) (hN : tqN s) {bA : Nat} (hB : tqB bA A s s.heap) {H : Heap} {locs : List Loc} {ls : Array Slot} {kc ks : Nat} (hfit : kc ≤ 601024 ∧ ks ≤ 7293034) {i : Int32} (hi : 0 ≤ i.toInt ∧ i.toInt + 6 ≤ (Ln : Int)) (hLn : Ln ≤ 3072) {x0 mm oa : Nat} (hI : lwP G cA A x0 mm oa H) (hS : va_S A s.heap H locs) (hl : lv_has ls 7 [(4, .int i), (3, .ref oa), (2, .ref mm), (1, .ref x0), (0, .ref b)]) (hk : (∀ (H : Heap) (locs : List Loc) (ls : Array Slot), lwP G cA A x0 mm oa H → va_S A s.heap H locs → lv_has ls 7 [(4, .int i), (3, .ref oa), (2, .ref mm), (1, .ref x0), (0, .ref b)] → W p l e room_1 s m #[Value.ref b] below meth c H locs kc ks (lw_Z below #[Value.ref b] s) (F0 m 1217 ls []))) : W p l e room_1 s m #[Value.ref b] below meth c H locs kc ks (lw_Z below #[Value.ref b] s) (F0 m 315 ls []) := by
  obtain ⟨hx, hb, hr, hml, hown, hts, hX, hbl, hlocks, hgv⟩ := id C0
  have hT : ∀ v ∈ T0, v.before #[Value.ref b] s = true := fun v h => hts v (tq_law_in v h)
  have hown : s.vm.findClass RL = some m.cls := hown
  have hA : ∀ q : Nat, s.heap.size ≤ q → A q := fun q h => by rw [hAe]; exact h
  have hbA : ¬ A b := by rw [hAe]; exact Nat.not_le.mpr hbl
  obtain ⟨xa, ka, ra, na, ia, ua, va, ca, za, pa, qa, aa, X, K, R, P, L, P2, L2, Tn, Ti, Tu, Tv, C, Z, q0, q1, q2, q3, q4, q5, S, LM, og, rfl, rfl, hok, jx, hrel, hP, hD⟩ := hI
  obtain ⟨bX, bK, bR, bP, bP2, bTn, bTi, bTu, bTv, bC, bZ, dz, e0, e4, e5, e1⟩ := id hok
  obtain ⟨w1, hw1⟩ : ∃ z, xs (i + 1).toNatClampNeg = z := ⟨_, rfl⟩
  obtain ⟨w2, hw2⟩ : ∃ z, xs (i + 2).toNatClampNeg = z := ⟨_, rfl⟩
  obtain ⟨w3, hw3⟩ : ∃ z, xs (i + 3).toNatClampNeg = z := ⟨_, rfl⟩
  obtain ⟨w4, hw4⟩ : ∃ z, xs (i + 4).toNatClampNeg = z := ⟨_, rfl⟩
  obtain ⟨w5, hw5⟩ : ∃ z, xs (i + 5).toNatClampNeg = z := ⟨_, rfl⟩
  refine lv_aload_n hx hb dL_law_315 rfl (lv_at hl 3 rfl) ?_
  refine lv_aload_n hx hb dL_law_316 rfl (lv_at hl 4 rfl) ?_
  refine lv_iload hx hb dL_law_317 (lv_at hl 0 rfl) ?_
  refine lv_iconst (v := 1) hx hb dL_law_319 (by decide) ?_
  refine lv_iadd hx hb dL_law_320 ?_
  refine va_sld (i := i + 1) hx hb hX hbl hbA hS (lw_in hi (by decide)) dL_law_321 ?_
  refine tq_i (w := w1) hw1 ?_
  obtain ⟨r1, hcx, hq2⟩ := (t_X7_named pa qa P q4 w1 bP e4)
  refine lw_ci (As := [.int w1]) (rest := []) hP hD hS hA hK hN ⟨hx, hb, hml, hown, hT⟩ (c_X7_named l G cA H.size xa ka ra na ia ua va ca za pa qa X K R P L P2 L2 Tn Ti Tu Tv C Z q0 q1 q2 q3 q4 q5 w1 r1 hcx) (cwV 1 hT (tq_gV kw_27_23 kw_28_0 kw_28_1 kw_1_2 kw_28_2) rfl rfl rfl (by decide +kernel) ⟨Nat.le_of_ble_eq_true rfl, Nat.le_of_ble_eq_true rfl⟩) (wX_rec hK hP) rfl hl.1 rfl (lv_room (Nat.le_of_ble_eq_true rfl)) dL_law_322 hfit (fun _ _ H locs z9 hP hD hS => ?_)
  have z9 := z9.symm
  subst z9
  refine lv_pop hx hb dL_law_325 rfl ?_
  refine lv_aload_n hx hb dL_law_326 rfl (lv_at hl 2 rfl) ?_
  refine lv_aload_n hx hb dL_law_327 rfl (lv_at hl 4 rfl) ?_
  refine lv_iload hx hb dL_law_328 (lv_at hl 0 rfl) ?_
  refine lv_iconst (v := 1) hx hb dL_law_330 (by decide) ?_
  refine lv_iadd hx hb dL_law_331 ?_
  refine va_sld (i := i + 1) hx hb hX hbl hbA hS (lw_in hi (by decide)) dL_law_332 ?_
  refine tq_i (w := w1) hw1 ?_
  obtain ⟨⟨r3, S_4⟩, hcm, hq5⟩ := (Q_named S w1 jx)
  replace hP : va_P G vwCl (wM cA aa S LM ++ (wX cA xa ka ra na ia ua va ca za pa qa X K R P L P2 L2 Tn Ti Tu Tv C Z q0 q1 q2 q3 q4 q5 ++ [(oa, .inl (cA 2, 1, .inr (.inl og)))])) H := tw_P wl_rot hP
  replace hD : va_D A (wM cA aa S LM ++ (wX cA xa ka ra na ia ua va ca za pa qa X K R P L P2 L2 Tn Ti Tu Tv C Z q0 q1 q2 q3 q4 q5 ++ [(oa, .inl (cA 2, 1, .inr (.inl og)))])) := tw_D wl_rot hD
  refine lw_ci (As := [.int w1]) (rest := []) hP hD hS hA hK hN ⟨hx, hb, hml, hown, hT⟩ (c_X8_named l G cA H.size aa S LM w1 r3 S_4 hcm) (cwV 1 hT (tq_gV kw_28_4 kw_28_5 kw_28_6 kw_1_5 kw_28_7) rfl rfl rfl (by decide +kernel) ⟨Nat.le_of_ble_eq_true rfl, Nat.le_of_ble_eq_true rfl⟩) (wM_rec hK hP) rfl hl.1 rfl (lv_room (Nat.le_of_ble_eq_true rfl)) dL_law_333 hfit (fun _ _ H locs z9 hP hD hS => ?_)
  have z9 := z9.symm
  subst z9
  replace hP : va_P G vwCl (wX cA xa ka ra na ia ua va ca za pa qa X K R P L P2 L2 Tn Ti Tu Tv C Z q0 q1 q2 q3 q4 q5 ++ (wM cA aa S_4 LM ++ [(oa, .inl (cA 2, 1, .inr (.inl og)))])) H := tw_P wl_rot hP
  replace hD : va_D A (wX cA xa ka ra na ia ua va ca za pa qa X K R P L P2 L2 Tn Ti Tu Tv C Z q0 q1 q2 q3 q4 q5 ++ (wM cA aa S_4 LM ++ [(oa, .inl (cA 2, 1, .inr (.inl og)))])) := tw_D wl_rot hD
  refine lv_pop hx hb dL_law_336 rfl ?_
  refine lv_goto (tgt := 1217) hx hb dL_law_337 (by decide) ?_
  exact hk H locs ls ⟨xa, ka, ra, na, ia, ua, va, ca, za, pa, qa, aa, X, K, R, P, L, P2, L2, Tn, Ti, Tu, Tv, C, Z, q0, q1, q2, q3, q4, q5, S_4, LM, og, rfl, rfl, ⟨bX, bK, bR, bP, bP2, bTn, bTi, bTu, bTv, bC, bZ, dz, e0, e4, e5, e1⟩, hq5.1, (E_named hok jx hrel hcx hcm), hP, hD⟩ hS hl
set_option maxHeartbeats 4000000 in
set_option maxRecDepth 100000 in
theorem lc_5 {p : Program} {e : Env} {s : State} {m : MethodId} {below : List Frame} {meth : Method} {c : Code} (l : Launch) {b Ln : Nat} {xs : Nat → Int32} (C0 : lw_At p s m meth c b Ln xs) (G : va_G) (cA : Nat → ClassId) {A : Nat → Prop} (hAe : A = fun q : Nat => s.heap.size ≤ q) (hK : va_K G vwCl (tyL cA) s) (hN : tqN s) {bA : Nat} (hB : tqB bA A s s.heap) {H : Heap} {locs : List Loc} {ls : Array Slot} {kc ks : Nat} (hfit : kc ≤ 601024 ∧ ks ≤ 7293034) {i : Int32} (hi : 0 ≤ i.toInt ∧ i.toInt + 6 ≤ (Ln : Int)) (hLn : Ln ≤ 3072) {x0 mm oa : Nat} (hI : lwP G cA A x0 mm oa H) (hS : va_S A s.heap H locs) (hl : lv_has ls 7 [(4, .int i), (3, .ref oa), (2, .ref mm), (1, .ref x0), (0, .ref b)]) (hk : (∀ (H : Heap) (locs : List Loc) (ls : Array Slot), lwP G cA A x0 mm oa H → va_S A s.heap H locs → lv_has ls 7 [(4, .int i), (3, .ref oa), (2, .ref mm), (1, .ref x0), (0, .ref b)] → W p l e room_1 s m #[Value.ref b] below meth c H locs kc ks (lw_Z below #[Value.ref b] s) (F0 m 1217 ls []))) : W p l e room_1 s m #[Value.ref b] below meth c H locs kc ks (lw_Z below #[Value.ref b] s) (F0 m 380 ls []) := by
  obtain ⟨hx, hb, hr, hml, hown, hts, hX, hbl, hlocks, hgv⟩ := id C0
  have hT : ∀ v ∈ T0, v.before #[Value.ref b] s = true := fun v h => hts v (tq_law_in v h)
  have hown : s.vm.findClass RL = some m.cls := hown
  have hA : ∀ q : Nat, s.heap.size ≤ q → A q := fun q h => by rw [hAe]; exact h
  have hbA : ¬ A b := by rw [hAe]; exact Nat.not_le.mpr hbl
  obtain ⟨xa, ka, ra, na, ia, ua, va, ca, za, pa, qa, aa, X, K, R, P, L, P2, L2, Tn, Ti, Tu, Tv, C, Z, q0, q1, q2, q3, q4, q5, S, LM, og, rfl, rfl, hok, jx, hrel, hP, hD⟩ := hI
  obtain ⟨bX, bK, bR, bP, bP2, bTn, bTi, bTu, bTv, bC, bZ, dz, e0, e4, e5, e1⟩ := id hok
  obtain ⟨w1, hw1⟩ : ∃ z, xs (i + 1).toNatClampNeg = z := ⟨_, rfl⟩
  obtain ⟨w2, hw2⟩ : ∃ z, xs (i + 2).toNatClampNeg = z := ⟨_, rfl⟩
  obtain ⟨w3, hw3⟩ : ∃ z, xs (i + 3).toNatClampNeg = z := ⟨_, rfl⟩
  obtain ⟨w4, hw4⟩ : ∃ z, xs (i + 4).toNatClampNeg = z := ⟨_, rfl⟩
  obtain ⟨w5, hw5⟩ : ∃ z, xs (i + 5).toNatClampNeg = z := ⟨_, rfl⟩
  refine lv_aload_n hx hb dL_law_380 rfl (lv_at hl 3 rfl) ?_
  refine lv_aload_n hx hb dL_law_381 rfl (lv_at hl 4 rfl) ?_
  refine lv_iload hx hb dL_law_382 (lv_at hl 0 rfl) ?_
  refine lv_iconst (v := 1) hx hb dL_law_384 (by decide) ?_
  refine lv_iadd hx hb dL_law_385 ?_
  refine va_sld (i := i + 1) hx hb hX hbl hbA hS (lw_in hi (by decide)) dL_law_386 ?_
  refine tq_i (w := w1) hw1 ?_
  refine lv_aload_n hx hb dL_law_387 rfl (lv_at hl 4 rfl) ?_
  refine lv_iload hx hb dL_law_388 (lv_at hl 0 rfl) ?_
  refine lv_iconst (v := 2) hx hb dL_law_390 (by decide) ?_
  refine lv_iadd hx hb dL_law_391 ?_
  refine va_sld (i := i + 2) hx hb hX hbl hbA hS (lw_in hi (by decide)) dL_law_392 ?_
  refine tq_i (w := w2) hw2 ?_
  obtain ⟨r1, hcx, hq2⟩ := (t_X7_piece pa qa P Tn q0 q4 w1 w2 bP bTn e0 e4)
  refine lw_ci (As := [.int w1, .int w2]) (rest := []) hP hD hS hA hK hN ⟨hx, hb, hml, hown, hT⟩ (c_X7_piece l G cA H.size xa ka ra na ia ua va ca za pa qa X K R P L P2 L2 Tn Ti Tu Tv C Z q0 q1 q2 q3 q4 q5 w1 w2 r1 hcx) (cwV 2 hT (tq_gV kw_29_20 kw_29_21 kw_29_22 kw_1_2 kw_29_23) rfl rfl rfl (by decide +kernel) ⟨Nat.le_of_ble_eq_true rfl, Nat.le_of_ble_eq_true rfl⟩) (wX_rec hK hP) rfl hl.1 rfl (lv_room (Nat.le_of_ble_eq_true rfl)) dL_law_393 hfit (fun _ _ H locs z9 hP hD hS => ?_)
  have z9 := z9.symm
  subst z9
  refine lv_pop hx hb dL_law_396 rfl ?_
  refine lv_aload_n hx hb dL_law_397 rfl (lv_at hl 2 rfl) ?_
  refine lv_aload_n hx hb dL_law_398 rfl (lv_at hl 4 rfl) ?_
  refine lv_iload hx hb dL_law_399 (lv_at hl 0 rfl) ?_
  refine lv_iconst (v := 1) hx hb dL_law_401 (by decide) ?_
  refine lv_iadd hx hb dL_law_402 ?_
  refine va_sld (i := i + 1) hx hb hX hbl hbA hS (lw_in hi (by decide)) dL_law_403 ?_
  refine tq_i (w := w1) hw1 ?_
  refine lv_aload_n hx hb dL_law_404 rfl (lv_at hl 4 rfl) ?_
  refine lv_iload hx hb dL_law_405 (lv_at hl 0 rfl) ?_
  refine lv_iconst (v := 2) hx hb dL_law_407 (by decide) ?_
  refine lv_iadd hx hb dL_law_408 ?_
  refine va_sld (i := i + 2) hx hb hX hbl hbA hS (lw_in hi (by decide)) dL_law_409 ?_
  refine tq_i (w := w2) hw2 ?_
  obtain ⟨⟨r3, S_4⟩, hcm, hq5⟩ := (Q_piece S w1 w2 jx)
  replace hP : va_P G vwCl (wM cA aa S LM ++ (wX cA xa ka ra na ia ua va ca za pa qa X K R P L P2 L2 Tn Ti Tu Tv C Z q0 q1 q2 q3 q4 q5 ++ [(oa, .inl (cA 2, 1, .inr (.inl og)))])) H := tw_P wl_rot hP
  replace hD : va_D A (wM cA aa S LM ++ (wX cA xa ka ra na ia ua va ca za pa qa X K R P L P2 L2 Tn Ti Tu Tv C Z q0 q1 q2 q3 q4 q5 ++ [(oa, .inl (cA 2, 1, .inr (.inl og)))])) := tw_D wl_rot hD
  refine lw_ci (As := [.int w1, .int w2]) (rest := []) hP hD hS hA hK hN ⟨hx, hb, hml, hown, hT⟩ (c_X8_piece l G cA H.size aa S LM w1 w2 r3 S_4 hcm) (cwV 2 hT (tq_gV kw_30_18 kw_30_19 kw_30_20 kw_1_5 kw_30_21) rfl rfl rfl (by decide +kernel) ⟨Nat.le_of_ble_eq_true rfl, Nat.le_of_ble_eq_true rfl⟩) (wM_rec hK hP) rfl hl.1 rfl (lv_room (Nat.le_of_ble_eq_true rfl)) dL_law_410 hfit (fun _ _ H locs z9 hP hD hS => ?_)
  have z9 := z9.symm
  subst z9
  replace hP : va_P G vwCl (wX cA xa ka ra na ia ua va ca za pa qa X K R P L P2 L2 Tn Ti Tu Tv C Z q0 q1 q2 q3 q4 q5 ++ (wM cA aa S_4 LM ++ [(oa, .inl (cA 2, 1, .inr (.inl og)))])) H := tw_P wl_rot hP
  replace hD : va_D A (wX cA xa ka ra na ia ua va ca za pa qa X K R P L P2 L2 Tn Ti Tu Tv C Z q0 q1 q2 q3 q4 q5 ++ (wM cA aa S_4 LM ++ [(oa, .inl (cA 2, 1, .inr (.inl og)))])) := tw_D wl_rot hD
  refine lv_pop hx hb dL_law_413 rfl ?_
  refine lv_goto (tgt := 1217) hx hb dL_law_414 (by decide) ?_
  exact hk H locs ls ⟨xa, ka, ra, na, ia, ua, va, ca, za, pa, qa, aa, X, K, R, P, L, P2, L2, Tn, Ti, Tu, Tv, C, Z, q0, q1, q2, q3, q4, q5, S_4, LM, og, rfl, rfl, ⟨bX, bK, bR, bP, bP2, bTn, bTi, bTu, bTv, bC, bZ, dz, e0, e4, e5, e1⟩, hq5.1, (E_piece hok jx hrel hcx hcm), hP, hD⟩ hS hl
set_option maxHeartbeats 4000000 in
set_option maxRecDepth 100000 in
theorem lc_6 {p : Program} {e : Env} {s : State} {m : MethodId} {below : List Frame} {meth : Method} {c : Code} (l : Launch) {b Ln : Nat} {xs : Nat → Int32} (C0 : lw_At p s m meth c b Ln xs) (G : va_G) (cA : Nat → ClassId) {A : Nat → Prop} (hAe : A = fun q : Nat => s.heap.size ≤ q) (hK : va_K G vwCl (tyL cA) s) (hN : tqN s) {bA : Nat} (hB : tqB bA A s s.heap) {H : Heap} {locs : List Loc} {ls : Array Slot} {kc ks : Nat} (hfit : kc ≤ 601024 ∧ ks ≤ 7293034) {i : Int32} (hi : 0 ≤ i.toInt ∧ i.toInt + 6 ≤ (Ln : Int)) (hLn : Ln ≤ 3072) {x0 mm oa : Nat} (hI : lwP G cA A x0 mm oa H) (hS : va_S A s.heap H locs) (hl : lv_has ls 7 [(4, .int i), (3, .ref oa), (2, .ref mm), (1, .ref x0), (0, .ref b)]) (hk : (∀ (H : Heap) (locs : List Loc) (ls : Array Slot), lwP G cA A x0 mm oa H → va_S A s.heap H locs → lv_has ls 7 [(4, .int i), (3, .ref oa), (2, .ref mm), (1, .ref x0), (0, .ref b)] → W p l e room_1 s m #[Value.ref b] below meth c H locs kc ks (lw_Z below #[Value.ref b] s) (F0 m 1217 ls []))) : W p l e room_1 s m #[Value.ref b] below meth c H locs kc ks (lw_Z below #[Value.ref b] s) (F0 m 417 ls []) := by
  obtain ⟨hx, hb, hr, hml, hown, hts, hX, hbl, hlocks, hgv⟩ := id C0
  have hT : ∀ v ∈ T0, v.before #[Value.ref b] s = true := fun v h => hts v (tq_law_in v h)
  have hown : s.vm.findClass RL = some m.cls := hown
  have hA : ∀ q : Nat, s.heap.size ≤ q → A q := fun q h => by rw [hAe]; exact h
  have hbA : ¬ A b := by rw [hAe]; exact Nat.not_le.mpr hbl
  obtain ⟨xa, ka, ra, na, ia, ua, va, ca, za, pa, qa, aa, X, K, R, P, L, P2, L2, Tn, Ti, Tu, Tv, C, Z, q0, q1, q2, q3, q4, q5, S, LM, og, rfl, rfl, hok, jx, hrel, hP, hD⟩ := hI
  obtain ⟨bX, bK, bR, bP, bP2, bTn, bTi, bTu, bTv, bC, bZ, dz, e0, e4, e5, e1⟩ := id hok
  obtain ⟨w1, hw1⟩ : ∃ z, xs (i + 1).toNatClampNeg = z := ⟨_, rfl⟩
  obtain ⟨w2, hw2⟩ : ∃ z, xs (i + 2).toNatClampNeg = z := ⟨_, rfl⟩
  obtain ⟨w3, hw3⟩ : ∃ z, xs (i + 3).toNatClampNeg = z := ⟨_, rfl⟩
  obtain ⟨w4, hw4⟩ : ∃ z, xs (i + 4).toNatClampNeg = z := ⟨_, rfl⟩
  obtain ⟨w5, hw5⟩ : ∃ z, xs (i + 5).toNatClampNeg = z := ⟨_, rfl⟩
  refine lv_aload_n hx hb dL_law_417 rfl (lv_at hl 3 rfl) ?_
  refine lv_aload_n hx hb dL_law_418 rfl (lv_at hl 4 rfl) ?_
  refine lv_iload hx hb dL_law_419 (lv_at hl 0 rfl) ?_
  refine lv_iconst (v := 1) hx hb dL_law_421 (by decide) ?_
  refine lv_iadd hx hb dL_law_422 ?_
  refine va_sld (i := i + 1) hx hb hX hbl hbA hS (lw_in hi (by decide)) dL_law_423 ?_
  refine tq_i (w := w1) hw1 ?_
  refine lv_aload_n hx hb dL_law_424 rfl (lv_at hl 4 rfl) ?_
  refine lv_iload hx hb dL_law_425 (lv_at hl 0 rfl) ?_
  refine lv_iconst (v := 2) hx hb dL_law_427 (by decide) ?_
  refine lv_iadd hx hb dL_law_428 ?_
  refine va_sld (i := i + 2) hx hb hX hbl hbA hS (lw_in hi (by decide)) dL_law_429 ?_
  refine tq_i (w := w2) hw2 ?_
  obtain ⟨r1, hcx, hq2⟩ := (t_X7_place pa qa P Tn q0 q4 w1 w2 bP bTn e0 e4)
  refine lw_ci (As := [.int w1, .int w2]) (rest := []) hP hD hS hA hK hN ⟨hx, hb, hml, hown, hT⟩ (c_X7_place l G cA H.size xa ka ra na ia ua va ca za pa qa X K R P L P2 L2 Tn Ti Tu Tv C Z q0 q1 q2 q3 q4 q5 w1 w2 r1 hcx) (cwV 2 hT (tq_gV kw_31_14 kw_31_15 kw_31_16 kw_1_2 kw_31_17) rfl rfl rfl (by decide +kernel) ⟨Nat.le_of_ble_eq_true rfl, Nat.le_of_ble_eq_true rfl⟩) (wX_rec hK hP) rfl hl.1 rfl (lv_room (Nat.le_of_ble_eq_true rfl)) dL_law_430 hfit (fun _ _ H locs z9 hP hD hS => ?_)
  have z9 := z9.symm
  subst z9
  refine lv_pop hx hb dL_law_433 rfl ?_
  refine lv_aload_n hx hb dL_law_434 rfl (lv_at hl 2 rfl) ?_
  refine lv_aload_n hx hb dL_law_435 rfl (lv_at hl 4 rfl) ?_
  refine lv_iload hx hb dL_law_436 (lv_at hl 0 rfl) ?_
  refine lv_iconst (v := 1) hx hb dL_law_438 (by decide) ?_
  refine lv_iadd hx hb dL_law_439 ?_
  refine va_sld (i := i + 1) hx hb hX hbl hbA hS (lw_in hi (by decide)) dL_law_440 ?_
  refine tq_i (w := w1) hw1 ?_
  refine lv_aload_n hx hb dL_law_441 rfl (lv_at hl 4 rfl) ?_
  refine lv_iload hx hb dL_law_442 (lv_at hl 0 rfl) ?_
  refine lv_iconst (v := 2) hx hb dL_law_444 (by decide) ?_
  refine lv_iadd hx hb dL_law_445 ?_
  refine va_sld (i := i + 2) hx hb hX hbl hbA hS (lw_in hi (by decide)) dL_law_446 ?_
  refine tq_i (w := w2) hw2 ?_
  obtain ⟨⟨r3, S_4⟩, hcm, hq5⟩ := (Q_place S w1 w2 jx)
  replace hP : va_P G vwCl (wM cA aa S LM ++ (wX cA xa ka ra na ia ua va ca za pa qa X K R P L P2 L2 Tn Ti Tu Tv C Z q0 q1 q2 q3 q4 q5 ++ [(oa, .inl (cA 2, 1, .inr (.inl og)))])) H := tw_P wl_rot hP
  replace hD : va_D A (wM cA aa S LM ++ (wX cA xa ka ra na ia ua va ca za pa qa X K R P L P2 L2 Tn Ti Tu Tv C Z q0 q1 q2 q3 q4 q5 ++ [(oa, .inl (cA 2, 1, .inr (.inl og)))])) := tw_D wl_rot hD
  refine lw_ci (As := [.int w1, .int w2]) (rest := []) hP hD hS hA hK hN ⟨hx, hb, hml, hown, hT⟩ (c_X8_place l G cA H.size aa S LM w1 w2 r3 S_4 hcm) (cwV 2 hT (tq_gV kw_32_7 kw_32_8 kw_32_9 kw_1_5 kw_32_10) rfl rfl rfl (by decide +kernel) ⟨Nat.le_of_ble_eq_true rfl, Nat.le_of_ble_eq_true rfl⟩) (wM_rec hK hP) rfl hl.1 rfl (lv_room (Nat.le_of_ble_eq_true rfl)) dL_law_447 hfit (fun _ _ H locs z9 hP hD hS => ?_)
  have z9 := z9.symm
  subst z9
  replace hP : va_P G vwCl (wX cA xa ka ra na ia ua va ca za pa qa X K R P L P2 L2 Tn Ti Tu Tv C Z q0 q1 q2 q3 q4 q5 ++ (wM cA aa S_4 LM ++ [(oa, .inl (cA 2, 1, .inr (.inl og)))])) H := tw_P wl_rot hP
  replace hD : va_D A (wX cA xa ka ra na ia ua va ca za pa qa X K R P L P2 L2 Tn Ti Tu Tv C Z q0 q1 q2 q3 q4 q5 ++ (wM cA aa S_4 LM ++ [(oa, .inl (cA 2, 1, .inr (.inl og)))])) := tw_D wl_rot hD
  refine lv_pop hx hb dL_law_450 rfl ?_
  refine lv_goto (tgt := 1217) hx hb dL_law_451 (by decide) ?_
  exact hk H locs ls ⟨xa, ka, ra, na, ia, ua, va, ca, za, pa, qa, aa, X, K, R, P, L, P2, L2, Tn, Ti, Tu, Tv, C, Z, q0, q1, q2, q3, q4, q5, S_4, LM, og, rfl, rfl, ⟨bX, bK, bR, bP, bP2, bTn, bTi, bTu, bTv, bC, bZ, dz, e0, e4, e5, e1⟩, hq5.1, (E_place hok jx hrel hcx hcm), hP, hD⟩ hS hl
set_option maxHeartbeats 4000000 in
set_option maxRecDepth 100000 in
theorem lc_7 {p : Program} {e : Env} {s : State} {m : MethodId} {below : List Frame} {meth : Method} {c : Code} (l : Launch) {b Ln : Nat} {xs : Nat → Int32} (C0 : lw_At p s m meth c b Ln xs) (G : va_G) (cA : Nat → ClassId) {A : Nat → Prop} (hAe : A = fun q : Nat => s.heap.size ≤ q) (hK : va_K G vwCl (tyL cA) s) (hN : tqN s) {bA : Nat} (hB : tqB bA A s s.heap) {H : Heap} {locs : List Loc} {ls : Array Slot} {kc ks : Nat} (hfit : kc ≤ 601024 ∧ ks ≤ 7293034) {i : Int32} (hi : 0 ≤ i.toInt ∧ i.toInt + 6 ≤ (Ln : Int)) (hLn : Ln ≤ 3072) {x0 mm oa : Nat} (hI : lwP G cA A x0 mm oa H) (hS : va_S A s.heap H locs) (hl : lv_has ls 7 [(4, .int i), (3, .ref oa), (2, .ref mm), (1, .ref x0), (0, .ref b)]) (hk : (∀ (H : Heap) (locs : List Loc) (ls : Array Slot), lwP G cA A x0 mm oa H → va_S A s.heap H locs → lv_has ls 7 [(4, .int i), (3, .ref oa), (2, .ref mm), (1, .ref x0), (0, .ref b)] → W p l e room_1 s m #[Value.ref b] below meth c H locs kc ks (lw_Z below #[Value.ref b] s) (F0 m 1217 ls []))) : W p l e room_1 s m #[Value.ref b] below meth c H locs kc ks (lw_Z below #[Value.ref b] s) (F0 m 454 ls []) := by
  obtain ⟨hx, hb, hr, hml, hown, hts, hX, hbl, hlocks, hgv⟩ := id C0
  have hT : ∀ v ∈ T0, v.before #[Value.ref b] s = true := fun v h => hts v (tq_law_in v h)
  have hown : s.vm.findClass RL = some m.cls := hown
  have hA : ∀ q : Nat, s.heap.size ≤ q → A q := fun q h => by rw [hAe]; exact h
  have hbA : ¬ A b := by rw [hAe]; exact Nat.not_le.mpr hbl
  obtain ⟨xa, ka, ra, na, ia, ua, va, ca, za, pa, qa, aa, X, K, R, P, L, P2, L2, Tn, Ti, Tu, Tv, C, Z, q0, q1, q2, q3, q4, q5, S, LM, og, rfl, rfl, hok, jx, hrel, hP, hD⟩ := hI
  obtain ⟨bX, bK, bR, bP, bP2, bTn, bTi, bTu, bTv, bC, bZ, dz, e0, e4, e5, e1⟩ := id hok
  obtain ⟨w1, hw1⟩ : ∃ z, xs (i + 1).toNatClampNeg = z := ⟨_, rfl⟩
  obtain ⟨w2, hw2⟩ : ∃ z, xs (i + 2).toNatClampNeg = z := ⟨_, rfl⟩
  obtain ⟨w3, hw3⟩ : ∃ z, xs (i + 3).toNatClampNeg = z := ⟨_, rfl⟩
  obtain ⟨w4, hw4⟩ : ∃ z, xs (i + 4).toNatClampNeg = z := ⟨_, rfl⟩
  obtain ⟨w5, hw5⟩ : ∃ z, xs (i + 5).toNatClampNeg = z := ⟨_, rfl⟩
  refine lv_aload_n hx hb dL_law_454 rfl (lv_at hl 3 rfl) ?_
  refine lv_aload_n hx hb dL_law_455 rfl (lv_at hl 4 rfl) ?_
  refine lv_iload hx hb dL_law_456 (lv_at hl 0 rfl) ?_
  refine lv_iconst (v := 1) hx hb dL_law_458 (by decide) ?_
  refine lv_iadd hx hb dL_law_459 ?_
  refine va_sld (i := i + 1) hx hb hX hbl hbA hS (lw_in hi (by decide)) dL_law_460 ?_
  refine tq_i (w := w1) hw1 ?_
  obtain ⟨r1, hcx, hq2⟩ := (t_X7_waits pa qa P q4 w1 bP e4)
  refine lw_ci (As := [.int w1]) (rest := []) hP hD hS hA hK hN ⟨hx, hb, hml, hown, hT⟩ (c_X7_waits l G cA H.size xa ka ra na ia ua va ca za pa qa X K R P L P2 L2 Tn Ti Tu Tv C Z q0 q1 q2 q3 q4 q5 w1 r1 hcx) (cwV 1 hT (tq_gV kw_32_19 kw_32_20 kw_32_21 kw_1_2 kw_32_22) rfl rfl rfl (by decide +kernel) ⟨Nat.le_of_ble_eq_true rfl, Nat.le_of_ble_eq_true rfl⟩) (wX_rec hK hP) rfl hl.1 rfl (lv_room (Nat.le_of_ble_eq_true rfl)) dL_law_461 hfit (fun _ _ H locs z9 hP hD hS => ?_)
  have z9 := z9.symm
  subst z9
  refine lv_pop hx hb dL_law_464 rfl ?_
  refine lv_aload_n hx hb dL_law_465 rfl (lv_at hl 2 rfl) ?_
  refine lv_aload_n hx hb dL_law_466 rfl (lv_at hl 4 rfl) ?_
  refine lv_iload hx hb dL_law_467 (lv_at hl 0 rfl) ?_
  refine lv_iconst (v := 1) hx hb dL_law_469 (by decide) ?_
  refine lv_iadd hx hb dL_law_470 ?_
  refine va_sld (i := i + 1) hx hb hX hbl hbA hS (lw_in hi (by decide)) dL_law_471 ?_
  refine tq_i (w := w1) hw1 ?_
  obtain ⟨⟨r3, S_4⟩, hcm, hq5⟩ := (Q_waits S w1 jx)
  replace hP : va_P G vwCl (wM cA aa S LM ++ (wX cA xa ka ra na ia ua va ca za pa qa X K R P L P2 L2 Tn Ti Tu Tv C Z q0 q1 q2 q3 q4 q5 ++ [(oa, .inl (cA 2, 1, .inr (.inl og)))])) H := tw_P wl_rot hP
  replace hD : va_D A (wM cA aa S LM ++ (wX cA xa ka ra na ia ua va ca za pa qa X K R P L P2 L2 Tn Ti Tu Tv C Z q0 q1 q2 q3 q4 q5 ++ [(oa, .inl (cA 2, 1, .inr (.inl og)))])) := tw_D wl_rot hD
  refine lw_ci (As := [.int w1]) (rest := []) hP hD hS hA hK hN ⟨hx, hb, hml, hown, hT⟩ (c_X8_waits l G cA H.size aa S LM w1 r3 S_4 hcm) (cwV 1 hT (tq_gV kw_33_0 kw_33_1 kw_33_2 kw_1_5 kw_33_3) rfl rfl rfl (by decide +kernel) ⟨Nat.le_of_ble_eq_true rfl, Nat.le_of_ble_eq_true rfl⟩) (wM_rec hK hP) rfl hl.1 rfl (lv_room (Nat.le_of_ble_eq_true rfl)) dL_law_472 hfit (fun _ _ H locs z9 hP hD hS => ?_)
  have z9 := z9.symm
  subst z9
  replace hP : va_P G vwCl (wX cA xa ka ra na ia ua va ca za pa qa X K R P L P2 L2 Tn Ti Tu Tv C Z q0 q1 q2 q3 q4 q5 ++ (wM cA aa S_4 LM ++ [(oa, .inl (cA 2, 1, .inr (.inl og)))])) H := tw_P wl_rot hP
  replace hD : va_D A (wX cA xa ka ra na ia ua va ca za pa qa X K R P L P2 L2 Tn Ti Tu Tv C Z q0 q1 q2 q3 q4 q5 ++ (wM cA aa S_4 LM ++ [(oa, .inl (cA 2, 1, .inr (.inl og)))])) := tw_D wl_rot hD
  refine lv_pop hx hb dL_law_475 rfl ?_
  refine lv_goto (tgt := 1217) hx hb dL_law_476 (by decide) ?_
  exact hk H locs ls ⟨xa, ka, ra, na, ia, ua, va, ca, za, pa, qa, aa, X, K, R, P, L, P2, L2, Tn, Ti, Tu, Tv, C, Z, q0, q1, q2, q3, q4, q5, S_4, LM, og, rfl, rfl, ⟨bX, bK, bR, bP, bP2, bTn, bTi, bTu, bTv, bC, bZ, dz, e0, e4, e5, e1⟩, hq5.1, (E_waits hok jx hrel hcx hcm), hP, hD⟩ hS hl
set_option maxHeartbeats 4000000 in
set_option maxRecDepth 100000 in
theorem lc_8 {p : Program} {e : Env} {s : State} {m : MethodId} {below : List Frame} {meth : Method} {c : Code} (l : Launch) {b Ln : Nat} {xs : Nat → Int32} (C0 : lw_At p s m meth c b Ln xs) (G : va_G) (cA : Nat → ClassId) {A : Nat → Prop} (hAe : A = fun q : Nat => s.heap.size ≤ q) (hK : va_K G vwCl (tyL cA) s) (hN : tqN s) {bA : Nat} (hB : tqB bA A s s.heap) {H : Heap} {locs : List Loc} {ls : Array Slot} {kc ks : Nat} (hfit : kc ≤ 601024 ∧ ks ≤ 7293034) {i : Int32} (hi : 0 ≤ i.toInt ∧ i.toInt + 6 ≤ (Ln : Int)) (hLn : Ln ≤ 3072) {x0 mm oa : Nat} (hI : lwP G cA A x0 mm oa H) (hS : va_S A s.heap H locs) (hl : lv_has ls 7 [(4, .int i), (3, .ref oa), (2, .ref mm), (1, .ref x0), (0, .ref b)]) (hk : (∀ (H : Heap) (locs : List Loc) (ls : Array Slot), lwP G cA A x0 mm oa H → va_S A s.heap H locs → lv_has ls 7 [(4, .int i), (3, .ref oa), (2, .ref mm), (1, .ref x0), (0, .ref b)] → W p l e room_1 s m #[Value.ref b] below meth c H locs kc ks (lw_Z below #[Value.ref b] s) (F0 m 1217 ls []))) : W p l e room_1 s m #[Value.ref b] below meth c H locs kc ks (lw_Z below #[Value.ref b] s) (F0 m 479 ls []) := by
  obtain ⟨hx, hb, hr, hml, hown, hts, hX, hbl, hlocks, hgv⟩ := id C0
  have hT : ∀ v ∈ T0, v.before #[Value.ref b] s = true := fun v h => hts v (tq_law_in v h)
  have hown : s.vm.findClass RL = some m.cls := hown
  have hA : ∀ q : Nat, s.heap.size ≤ q → A q := fun q h => by rw [hAe]; exact h
  have hbA : ¬ A b := by rw [hAe]; exact Nat.not_le.mpr hbl
  obtain ⟨xa, ka, ra, na, ia, ua, va, ca, za, pa, qa, aa, X, K, R, P, L, P2, L2, Tn, Ti, Tu, Tv, C, Z, q0, q1, q2, q3, q4, q5, S, LM, og, rfl, rfl, hok, jx, hrel, hP, hD⟩ := hI
  obtain ⟨bX, bK, bR, bP, bP2, bTn, bTi, bTu, bTv, bC, bZ, dz, e0, e4, e5, e1⟩ := id hok
  obtain ⟨w1, hw1⟩ : ∃ z, xs (i + 1).toNatClampNeg = z := ⟨_, rfl⟩
  obtain ⟨w2, hw2⟩ : ∃ z, xs (i + 2).toNatClampNeg = z := ⟨_, rfl⟩
  obtain ⟨w3, hw3⟩ : ∃ z, xs (i + 3).toNatClampNeg = z := ⟨_, rfl⟩
  obtain ⟨w4, hw4⟩ : ∃ z, xs (i + 4).toNatClampNeg = z := ⟨_, rfl⟩
  obtain ⟨w5, hw5⟩ : ∃ z, xs (i + 5).toNatClampNeg = z := ⟨_, rfl⟩
  refine lv_aload_n hx hb dL_law_479 rfl (lv_at hl 3 rfl) ?_
  refine lv_aload_n hx hb dL_law_480 rfl (lv_at hl 4 rfl) ?_
  refine lv_iload hx hb dL_law_481 (lv_at hl 0 rfl) ?_
  refine lv_iconst (v := 1) hx hb dL_law_483 (by decide) ?_
  refine lv_iadd hx hb dL_law_484 ?_
  refine va_sld (i := i + 1) hx hb hX hbl hbA hS (lw_in hi (by decide)) dL_law_485 ?_
  refine tq_i (w := w1) hw1 ?_
  refine lv_aload_n hx hb dL_law_486 rfl (lv_at hl 4 rfl) ?_
  refine lv_iload hx hb dL_law_487 (lv_at hl 0 rfl) ?_
  refine lv_iconst (v := 2) hx hb dL_law_489 (by decide) ?_
  refine lv_iadd hx hb dL_law_490 ?_
  refine va_sld (i := i + 2) hx hb hX hbl hbA hS (lw_in hi (by decide)) dL_law_491 ?_
  refine tq_i (w := w2) hw2 ?_
  obtain ⟨⟨r1, L_2, Tn_3⟩, hcx, hq4⟩ := (t_X7_law pa qa P L Tn q0 q4 w1 w2 bP bTn e0 e4)
  refine lw_cl (As := [.int w1, .int w2]) (rest := []) hP hD hS hA hK hN ⟨hx, hb, hml, hown, hT⟩ (c_X7_law l G cA H.size xa ka ra na ia ua va ca za pa qa X K R P L P2 L2 Tn Ti Tu Tv C Z q0 q1 q2 q3 q4 q5 w1 w2 r1 L_2 Tn_3 hcx) (cwV 2 hT (tq_gV kw_33_4 kw_33_5 kw_33_6 kw_1_2 kw_33_7) rfl rfl rfl (by decide +kernel) ⟨Nat.le_of_ble_eq_true rfl, Nat.le_of_ble_eq_true rfl⟩) (wX_rec hK hP) rfl hl.1 rfl (lv_room (Nat.le_of_ble_eq_true rfl)) dL_law_492 hfit (fun _ _ H locs z9 hP hD hS => ?_)
  have z9 := z9.symm
  subst z9
  refine lv_pop2_2 hx hb dL_law_495 rfl ?_
  refine lv_aload_n hx hb dL_law_496 rfl (lv_at hl 2 rfl) ?_
  refine lv_aload_n hx hb dL_law_497 rfl (lv_at hl 4 rfl) ?_
  refine lv_iload hx hb dL_law_498 (lv_at hl 0 rfl) ?_
  refine lv_iconst (v := 1) hx hb dL_law_500 (by decide) ?_
  refine lv_iadd hx hb dL_law_501 ?_
  refine va_sld (i := i + 1) hx hb hX hbl hbA hS (lw_in hi (by decide)) dL_law_502 ?_
  refine tq_i (w := w1) hw1 ?_
  refine lv_aload_n hx hb dL_law_503 rfl (lv_at hl 4 rfl) ?_
  refine lv_iload hx hb dL_law_504 (lv_at hl 0 rfl) ?_
  refine lv_iconst (v := 2) hx hb dL_law_506 (by decide) ?_
  refine lv_iadd hx hb dL_law_507 ?_
  refine va_sld (i := i + 2) hx hb hX hbl hbA hS (lw_in hi (by decide)) dL_law_508 ?_
  refine tq_i (w := w2) hw2 ?_
  obtain ⟨⟨r5, S_6, LM_7⟩, hcm, hq8⟩ := (Q_law S LM w1 w2 jx)
  replace hP : va_P G vwCl (wM cA aa S LM ++ (wX cA xa ka ra na ia ua va ca za pa qa X K R P L_2 P2 L2 Tn_3 Ti Tu Tv C Z q0 q1 q2 q3 q4 q5 ++ [(oa, .inl (cA 2, 1, .inr (.inl og)))])) H := tw_P wl_rot hP
  replace hD : va_D A (wM cA aa S LM ++ (wX cA xa ka ra na ia ua va ca za pa qa X K R P L_2 P2 L2 Tn_3 Ti Tu Tv C Z q0 q1 q2 q3 q4 q5 ++ [(oa, .inl (cA 2, 1, .inr (.inl og)))])) := tw_D wl_rot hD
  refine lw_cl (As := [.int w1, .int w2]) (rest := []) hP hD hS hA hK hN ⟨hx, hb, hml, hown, hT⟩ (c_X8_law l G cA H.size aa S LM w1 w2 r5 S_6 LM_7 hcm) (cwV 2 hT (tq_gV kw_34_5 kw_34_6 kw_34_7 kw_1_5 kw_34_8) rfl rfl rfl (by decide +kernel) ⟨Nat.le_of_ble_eq_true rfl, Nat.le_of_ble_eq_true rfl⟩) (wM_rec hK hP) rfl hl.1 rfl (lv_room (Nat.le_of_ble_eq_true rfl)) dL_law_509 hfit (fun _ _ H locs z9 hP hD hS => ?_)
  have z9 := z9.symm
  subst z9
  replace hP : va_P G vwCl (wX cA xa ka ra na ia ua va ca za pa qa X K R P L_2 P2 L2 Tn_3 Ti Tu Tv C Z q0 q1 q2 q3 q4 q5 ++ (wM cA aa S_6 LM_7 ++ [(oa, .inl (cA 2, 1, .inr (.inl og)))])) H := tw_P wl_rot hP
  replace hD : va_D A (wX cA xa ka ra na ia ua va ca za pa qa X K R P L_2 P2 L2 Tn_3 Ti Tu Tv C Z q0 q1 q2 q3 q4 q5 ++ (wM cA aa S_6 LM_7 ++ [(oa, .inl (cA 2, 1, .inr (.inl og)))])) := tw_D wl_rot hD
  refine lv_pop2_2 hx hb dL_law_512 rfl ?_
  refine lv_goto (tgt := 1217) hx hb dL_law_513 (by decide) ?_
  exact hk H locs ls ⟨xa, ka, ra, na, ia, ua, va, ca, za, pa, qa, aa, X, K, R, P, L_2, P2, L2, Tn_3, Ti, Tu, Tv, C, Z, q0, q1, q2, q3, q4, q5, S_6, LM_7, og, rfl, rfl, ⟨bX, bK, bR, bP, bP2, hq4, bTi, bTu, bTv, bC, bZ, dz, e0, e4, e5, e1⟩, hq8.1, (E_law hok jx hrel hcx hcm), hP, hD⟩ hS hl
set_option maxHeartbeats 4000000 in
set_option maxRecDepth 100000 in
theorem lc_9 {p : Program} {e : Env} {s : State} {m : MethodId} {below : List Frame} {meth : Method} {c : Code} (l : Launch) {b Ln : Nat} {xs : Nat → Int32} (C0 : lw_At p s m meth c b Ln xs) (G : va_G) (cA : Nat → ClassId) {A : Nat → Prop} (hAe : A = fun q : Nat => s.heap.size ≤ q) (hK : va_K G vwCl (tyL cA) s) (hN : tqN s) {bA : Nat} (hB : tqB bA A s s.heap) {H : Heap} {locs : List Loc} {ls : Array Slot} {kc ks : Nat} (hfit : kc ≤ 601024 ∧ ks ≤ 7293034) {i : Int32} (hi : 0 ≤ i.toInt ∧ i.toInt + 6 ≤ (Ln : Int)) (hLn : Ln ≤ 3072) {x0 mm oa : Nat} (hI : lwP G cA A x0 mm oa H) (hS : va_S A s.heap H locs) (hl : lv_has ls 7 [(4, .int i), (3, .ref oa), (2, .ref mm), (1, .ref x0), (0, .ref b)]) (hk : (∀ (H : Heap) (locs : List Loc) (ls : Array Slot), lwP G cA A x0 mm oa H → va_S A s.heap H locs → lv_has ls 7 [(4, .int i), (3, .ref oa), (2, .ref mm), (1, .ref x0), (0, .ref b)] → W p l e room_1 s m #[Value.ref b] below meth c H locs kc ks (lw_Z below #[Value.ref b] s) (F0 m 1217 ls []))) : W p l e room_1 s m #[Value.ref b] below meth c H locs kc ks (lw_Z below #[Value.ref b] s) (F0 m 516 ls []) := by
  obtain ⟨hx, hb, hr, hml, hown, hts, hX, hbl, hlocks, hgv⟩ := id C0
  have hT : ∀ v ∈ T0, v.before #[Value.ref b] s = true := fun v h => hts v (tq_law_in v h)
  have hown : s.vm.findClass RL = some m.cls := hown
  have hA : ∀ q : Nat, s.heap.size ≤ q → A q := fun q h => by rw [hAe]; exact h
  have hbA : ¬ A b := by rw [hAe]; exact Nat.not_le.mpr hbl
  obtain ⟨xa, ka, ra, na, ia, ua, va, ca, za, pa, qa, aa, X, K, R, P, L, P2, L2, Tn, Ti, Tu, Tv, C, Z, q0, q1, q2, q3, q4, q5, S, LM, og, rfl, rfl, hok, jx, hrel, hP, hD⟩ := hI
  obtain ⟨bX, bK, bR, bP, bP2, bTn, bTi, bTu, bTv, bC, bZ, dz, e0, e4, e5, e1⟩ := id hok
  obtain ⟨w1, hw1⟩ : ∃ z, xs (i + 1).toNatClampNeg = z := ⟨_, rfl⟩
  obtain ⟨w2, hw2⟩ : ∃ z, xs (i + 2).toNatClampNeg = z := ⟨_, rfl⟩
  obtain ⟨w3, hw3⟩ : ∃ z, xs (i + 3).toNatClampNeg = z := ⟨_, rfl⟩
  obtain ⟨w4, hw4⟩ : ∃ z, xs (i + 4).toNatClampNeg = z := ⟨_, rfl⟩
  obtain ⟨w5, hw5⟩ : ∃ z, xs (i + 5).toNatClampNeg = z := ⟨_, rfl⟩
  refine lv_aload_n hx hb dL_law_516 rfl (lv_at hl 3 rfl) ?_
  refine lv_aload_n hx hb dL_law_517 rfl (lv_at hl 4 rfl) ?_
  refine lv_iload hx hb dL_law_518 (lv_at hl 0 rfl) ?_
  refine lv_iconst (v := 1) hx hb dL_law_520 (by decide) ?_
  refine lv_iadd hx hb dL_law_521 ?_
  refine va_sld (i := i + 1) hx hb hX hbl hbA hS (lw_in hi (by decide)) dL_law_522 ?_
  refine tq_i (w := w1) hw1 ?_
  refine lv_aload_n hx hb dL_law_523 rfl (lv_at hl 4 rfl) ?_
  refine lv_iload hx hb dL_law_524 (lv_at hl 0 rfl) ?_
  refine lv_iconst (v := 2) hx hb dL_law_526 (by decide) ?_
  refine lv_iadd hx hb dL_law_527 ?_
  refine va_sld (i := i + 2) hx hb hX hbl hbA hS (lw_in hi (by decide)) dL_law_528 ?_
  refine tq_i (w := w2) hw2 ?_
  obtain ⟨⟨r1, Tn_2, C_3⟩, hcx, hq4⟩ := (t_X7_move pa qa P Tn C q0 q4 w1 w2 bP bTn bC e0 e4)
  refine lw_ci (As := [.int w1, .int w2]) (rest := []) hP hD hS hA hK hN ⟨hx, hb, hml, hown, hT⟩ (c_X7_move l G cA H.size xa ka ra na ia ua va ca za pa qa X K R P L P2 L2 Tn Ti Tu Tv C Z q0 q1 q2 q3 q4 q5 w1 w2 r1 Tn_2 C_3 hcx) (cwV 2 hT (tq_gV kw_35_16 kw_35_17 kw_35_18 kw_1_2 kw_35_19) rfl rfl rfl (by decide +kernel) ⟨Nat.le_of_ble_eq_true rfl, Nat.le_of_ble_eq_true rfl⟩) (wX_rec hK hP) rfl hl.1 rfl (lv_room (Nat.le_of_ble_eq_true rfl)) dL_law_529 hfit (fun _ _ H locs z9 hP hD hS => ?_)
  have z9 := z9.symm
  subst z9
  refine lv_pop hx hb dL_law_532 rfl ?_
  refine lv_aload_n hx hb dL_law_533 rfl (lv_at hl 2 rfl) ?_
  refine lv_aload_n hx hb dL_law_534 rfl (lv_at hl 4 rfl) ?_
  refine lv_iload hx hb dL_law_535 (lv_at hl 0 rfl) ?_
  refine lv_iconst (v := 1) hx hb dL_law_537 (by decide) ?_
  refine lv_iadd hx hb dL_law_538 ?_
  refine va_sld (i := i + 1) hx hb hX hbl hbA hS (lw_in hi (by decide)) dL_law_539 ?_
  refine tq_i (w := w1) hw1 ?_
  refine lv_aload_n hx hb dL_law_540 rfl (lv_at hl 4 rfl) ?_
  refine lv_iload hx hb dL_law_541 (lv_at hl 0 rfl) ?_
  refine lv_iconst (v := 2) hx hb dL_law_543 (by decide) ?_
  refine lv_iadd hx hb dL_law_544 ?_
  refine va_sld (i := i + 2) hx hb hX hbl hbA hS (lw_in hi (by decide)) dL_law_545 ?_
  refine tq_i (w := w2) hw2 ?_
  obtain ⟨⟨r5, S_6⟩, hcm, hq7⟩ := (Q_move S w1 w2 jx)
  replace hP : va_P G vwCl (wM cA aa S LM ++ (wX cA xa ka ra na ia ua va ca za pa qa X K R P L P2 L2 Tn_2 Ti Tu Tv C_3 Z q0 q1 q2 q3 q4 q5 ++ [(oa, .inl (cA 2, 1, .inr (.inl og)))])) H := tw_P wl_rot hP
  replace hD : va_D A (wM cA aa S LM ++ (wX cA xa ka ra na ia ua va ca za pa qa X K R P L P2 L2 Tn_2 Ti Tu Tv C_3 Z q0 q1 q2 q3 q4 q5 ++ [(oa, .inl (cA 2, 1, .inr (.inl og)))])) := tw_D wl_rot hD
  refine lw_ci (As := [.int w1, .int w2]) (rest := []) hP hD hS hA hK hN ⟨hx, hb, hml, hown, hT⟩ (c_X8_move l G cA H.size aa S LM w1 w2 r5 S_6 hcm) (cwV 2 hT (tq_gV kw_37_2 kw_37_3 kw_37_4 kw_1_5 kw_37_5) rfl rfl rfl (by decide +kernel) ⟨Nat.le_of_ble_eq_true rfl, Nat.le_of_ble_eq_true rfl⟩) (wM_rec hK hP) rfl hl.1 rfl (lv_room (Nat.le_of_ble_eq_true rfl)) dL_law_546 hfit (fun _ _ H locs z9 hP hD hS => ?_)
  have z9 := z9.symm
  subst z9
  replace hP : va_P G vwCl (wX cA xa ka ra na ia ua va ca za pa qa X K R P L P2 L2 Tn_2 Ti Tu Tv C_3 Z q0 q1 q2 q3 q4 q5 ++ (wM cA aa S_6 LM ++ [(oa, .inl (cA 2, 1, .inr (.inl og)))])) H := tw_P wl_rot hP
  replace hD : va_D A (wX cA xa ka ra na ia ua va ca za pa qa X K R P L P2 L2 Tn_2 Ti Tu Tv C_3 Z q0 q1 q2 q3 q4 q5 ++ (wM cA aa S_6 LM ++ [(oa, .inl (cA 2, 1, .inr (.inl og)))])) := tw_D wl_rot hD
  refine lv_pop hx hb dL_law_549 rfl ?_
  refine lv_goto (tgt := 1217) hx hb dL_law_550 (by decide) ?_
  exact hk H locs ls ⟨xa, ka, ra, na, ia, ua, va, ca, za, pa, qa, aa, X, K, R, P, L, P2, L2, Tn_2, Ti, Tu, Tv, C_3, Z, q0, q1, q2, q3, q4, q5, S_6, LM, og, rfl, rfl, ⟨bX, bK, bR, bP, bP2, hq4.2.1, bTi, bTu, bTv, hq4.2.2, bZ, dz, e0, e4, e5, e1⟩, hq7.1, (E_move hok jx hrel hcx hcm), hP, hD⟩ hS hl
set_option maxHeartbeats 4000000 in
set_option maxRecDepth 100000 in
theorem lc_10 {p : Program} {e : Env} {s : State} {m : MethodId} {below : List Frame} {meth : Method} {c : Code} (l : Launch) {b Ln : Nat} {xs : Nat → Int32} (C0 : lw_At p s m meth c b Ln xs) (G : va_G) (cA : Nat → ClassId) {A : Nat → Prop} (hAe : A = fun q : Nat => s.heap.size ≤ q) (hK : va_K G vwCl (tyL cA) s) (hN : tqN s) {bA : Nat} (hB : tqB bA A s s.heap) {H : Heap} {locs : List Loc} {ls : Array Slot} {kc ks : Nat} (hfit : kc ≤ 601024 ∧ ks ≤ 7293034) {i : Int32} (hi : 0 ≤ i.toInt ∧ i.toInt + 6 ≤ (Ln : Int)) (hLn : Ln ≤ 3072) {x0 mm oa : Nat} (hI : lwP G cA A x0 mm oa H) (hS : va_S A s.heap H locs) (hl : lv_has ls 7 [(4, .int i), (3, .ref oa), (2, .ref mm), (1, .ref x0), (0, .ref b)]) (hk : (∀ (H : Heap) (locs : List Loc) (ls : Array Slot), lwP G cA A x0 mm oa H → va_S A s.heap H locs → lv_has ls 7 [(4, .int i), (3, .ref oa), (2, .ref mm), (1, .ref x0), (0, .ref b)] → W p l e room_1 s m #[Value.ref b] below meth c H locs kc ks (lw_Z below #[Value.ref b] s) (F0 m 1217 ls []))) : W p l e room_1 s m #[Value.ref b] below meth c H locs kc ks (lw_Z below #[Value.ref b] s) (F0 m 553 ls []) := by
  obtain ⟨hx, hb, hr, hml, hown, hts, hX, hbl, hlocks, hgv⟩ := id C0
  have hT : ∀ v ∈ T0, v.before #[Value.ref b] s = true := fun v h => hts v (tq_law_in v h)
  have hown : s.vm.findClass RL = some m.cls := hown
  have hA : ∀ q : Nat, s.heap.size ≤ q → A q := fun q h => by rw [hAe]; exact h
  have hbA : ¬ A b := by rw [hAe]; exact Nat.not_le.mpr hbl
  obtain ⟨xa, ka, ra, na, ia, ua, va, ca, za, pa, qa, aa, X, K, R, P, L, P2, L2, Tn, Ti, Tu, Tv, C, Z, q0, q1, q2, q3, q4, q5, S, LM, og, rfl, rfl, hok, jx, hrel, hP, hD⟩ := hI
  obtain ⟨bX, bK, bR, bP, bP2, bTn, bTi, bTu, bTv, bC, bZ, dz, e0, e4, e5, e1⟩ := id hok
  obtain ⟨w1, hw1⟩ : ∃ z, xs (i + 1).toNatClampNeg = z := ⟨_, rfl⟩
  obtain ⟨w2, hw2⟩ : ∃ z, xs (i + 2).toNatClampNeg = z := ⟨_, rfl⟩
  obtain ⟨w3, hw3⟩ : ∃ z, xs (i + 3).toNatClampNeg = z := ⟨_, rfl⟩
  obtain ⟨w4, hw4⟩ : ∃ z, xs (i + 4).toNatClampNeg = z := ⟨_, rfl⟩
  obtain ⟨w5, hw5⟩ : ∃ z, xs (i + 5).toNatClampNeg = z := ⟨_, rfl⟩
  refine lv_aload_n hx hb dL_law_553 rfl (lv_at hl 3 rfl) ?_
  refine lv_aload_n hx hb dL_law_554 rfl (lv_at hl 4 rfl) ?_
  refine lv_iload hx hb dL_law_555 (lv_at hl 0 rfl) ?_
  refine lv_iconst (v := 1) hx hb dL_law_557 (by decide) ?_
  refine lv_iadd hx hb dL_law_558 ?_
  refine va_sld (i := i + 1) hx hb hX hbl hbA hS (lw_in hi (by decide)) dL_law_559 ?_
  refine tq_i (w := w1) hw1 ?_
  obtain ⟨⟨r1, Tn_2, Tv_3, C_4, q3_5⟩, hcx, hq6⟩ := (t_X7_turn pa qa P Tn Tv C q0 q3 q4 w1 bP bTn bTv bC e0 e4)
  refine lw_ci (As := [.int w1]) (rest := []) hP hD hS hA hK hN ⟨hx, hb, hml, hown, hT⟩ (c_X7_turn l G cA H.size xa ka ra na ia ua va ca za pa qa X K R P L P2 L2 Tn Ti Tu Tv C Z q0 q1 q2 q3 q4 q5 w1 r1 Tn_2 Tv_3 C_4 q3_5 hcx) (cwV 1 hT (tq_gV kw_38_2 kw_38_3 kw_38_4 kw_1_2 kw_38_5) rfl rfl rfl (by decide +kernel) ⟨Nat.le_of_ble_eq_true rfl, Nat.le_of_ble_eq_true rfl⟩) (wX_rec hK hP) rfl hl.1 rfl (lv_room (Nat.le_of_ble_eq_true rfl)) dL_law_560 hfit (fun _ _ H locs z9 hP hD hS => ?_)
  have z9 := z9.symm
  subst z9
  refine lv_aload_n hx hb dL_law_563 rfl (lv_at hl 2 rfl) ?_
  refine lv_aload_n hx hb dL_law_564 rfl (lv_at hl 4 rfl) ?_
  refine lv_iload hx hb dL_law_565 (lv_at hl 0 rfl) ?_
  refine lv_iconst (v := 1) hx hb dL_law_567 (by decide) ?_
  refine lv_iadd hx hb dL_law_568 ?_
  refine va_sld (i := i + 1) hx hb hX hbl hbA hS (lw_in hi (by decide)) dL_law_569 ?_
  refine tq_i (w := w1) hw1 ?_
  obtain ⟨⟨r7, S_8⟩, hcm, hq9⟩ := (Q_turn S w1 jx)
  replace hP : va_P G vwCl (wM cA aa S LM ++ (wX cA xa ka ra na ia ua va ca za pa qa X K R P L P2 L2 Tn_2 Ti Tu Tv_3 C_4 Z q0 q1 q2 q3_5 q4 q5 ++ [(oa, .inl (cA 2, 1, .inr (.inl og)))])) H := tw_P wl_rot hP
  replace hD : va_D A (wM cA aa S LM ++ (wX cA xa ka ra na ia ua va ca za pa qa X K R P L P2 L2 Tn_2 Ti Tu Tv_3 C_4 Z q0 q1 q2 q3_5 q4 q5 ++ [(oa, .inl (cA 2, 1, .inr (.inl og)))])) := tw_D wl_rot hD
  refine lw_ci (As := [.int w1]) (rest := [.int r1]) hP hD hS hA hK hN ⟨hx, hb, hml, hown, hT⟩ (c_X8_turn l G cA H.size aa S LM w1 r7 S_8 hcm) (cwV 1 hT (tq_gV kw_39_1 kw_39_2 kw_39_3 kw_1_5 kw_39_4) rfl rfl rfl (by decide +kernel) ⟨Nat.le_of_ble_eq_true rfl, Nat.le_of_ble_eq_true rfl⟩) (wM_rec hK hP) rfl hl.1 rfl (lv_room (Nat.le_of_ble_eq_true rfl)) dL_law_570 hfit (fun _ _ H locs z9 hP hD hS => ?_)
  have z9 := z9.symm
  subst z9
  replace hP : va_P G vwCl (wX cA xa ka ra na ia ua va ca za pa qa X K R P L P2 L2 Tn_2 Ti Tu Tv_3 C_4 Z q0 q1 q2 q3_5 q4 q5 ++ (wM cA aa S_8 LM ++ [(oa, .inl (cA 2, 1, .inr (.inl og)))])) H := tw_P wl_rot hP
  replace hD : va_D A (wX cA xa ka ra na ia ua va ca za pa qa X K R P L P2 L2 Tn_2 Ti Tu Tv_3 C_4 Z q0 q1 q2 q3_5 q4 q5 ++ (wM cA aa S_8 LM ++ [(oa, .inl (cA 2, 1, .inr (.inl og)))])) := tw_D wl_rot hD
  refine lv_icmp_eq (tgt := 1217) hx hb dL_law_573 (by decide) (fun c => ?_) (fun c => absurd (A_turn hok jx hrel hcx hcm) c)
  exact hk H locs ls ⟨xa, ka, ra, na, ia, ua, va, ca, za, pa, qa, aa, X, K, R, P, L, P2, L2, Tn_2, Ti, Tu, Tv_3, C_4, Z, q0, q1, q2, q3_5, q4, q5, S_8, LM, og, rfl, rfl, ⟨bX, bK, bR, bP, bP2, hq6.1, bTi, bTu, hq6.2.1, hq6.2.2, bZ, dz, e0, e4, e5, e1⟩, hq9.1, (E_turn hok jx hrel hcx hcm), hP, hD⟩ hS hl
set_option maxHeartbeats 4000000 in
set_option maxRecDepth 100000 in
theorem lc_11 {p : Program} {e : Env} {s : State} {m : MethodId} {below : List Frame} {meth : Method} {c : Code} (l : Launch) {b Ln : Nat} {xs : Nat → Int32} (C0 : lw_At p s m meth c b Ln xs) (G : va_G) (cA : Nat → ClassId) {A : Nat → Prop} (hAe : A = fun q : Nat => s.heap.size ≤ q) (hK : va_K G vwCl (tyL cA) s) (hN : tqN s) {bA : Nat} (hB : tqB bA A s s.heap) {H : Heap} {locs : List Loc} {ls : Array Slot} {kc ks : Nat} (hfit : kc ≤ 601024 ∧ ks ≤ 7293034) {i : Int32} (hi : 0 ≤ i.toInt ∧ i.toInt + 6 ≤ (Ln : Int)) (hLn : Ln ≤ 3072) {x0 mm oa : Nat} (hI : lwP G cA A x0 mm oa H) (hS : va_S A s.heap H locs) (hl : lv_has ls 7 [(4, .int i), (3, .ref oa), (2, .ref mm), (1, .ref x0), (0, .ref b)]) (hk : (∀ (H : Heap) (locs : List Loc) (ls : Array Slot), lwP G cA A x0 mm oa H → va_S A s.heap H locs → lv_has ls 7 [(4, .int i), (3, .ref oa), (2, .ref mm), (1, .ref x0), (0, .ref b)] → W p l e room_1 s m #[Value.ref b] below meth c H locs kc ks (lw_Z below #[Value.ref b] s) (F0 m 1217 ls []))) : W p l e room_1 s m #[Value.ref b] below meth c H locs kc ks (lw_Z below #[Value.ref b] s) (F0 m 578 ls []) := by
  obtain ⟨hx, hb, hr, hml, hown, hts, hX, hbl, hlocks, hgv⟩ := id C0
  have hT : ∀ v ∈ T0, v.before #[Value.ref b] s = true := fun v h => hts v (tq_law_in v h)
  have hown : s.vm.findClass RL = some m.cls := hown
  have hA : ∀ q : Nat, s.heap.size ≤ q → A q := fun q h => by rw [hAe]; exact h
  have hbA : ¬ A b := by rw [hAe]; exact Nat.not_le.mpr hbl
  obtain ⟨xa, ka, ra, na, ia, ua, va, ca, za, pa, qa, aa, X, K, R, P, L, P2, L2, Tn, Ti, Tu, Tv, C, Z, q0, q1, q2, q3, q4, q5, S, LM, og, rfl, rfl, hok, jx, hrel, hP, hD⟩ := hI
  obtain ⟨bX, bK, bR, bP, bP2, bTn, bTi, bTu, bTv, bC, bZ, dz, e0, e4, e5, e1⟩ := id hok
  obtain ⟨w1, hw1⟩ : ∃ z, xs (i + 1).toNatClampNeg = z := ⟨_, rfl⟩
  obtain ⟨w2, hw2⟩ : ∃ z, xs (i + 2).toNatClampNeg = z := ⟨_, rfl⟩
  obtain ⟨w3, hw3⟩ : ∃ z, xs (i + 3).toNatClampNeg = z := ⟨_, rfl⟩
  obtain ⟨w4, hw4⟩ : ∃ z, xs (i + 4).toNatClampNeg = z := ⟨_, rfl⟩
  obtain ⟨w5, hw5⟩ : ∃ z, xs (i + 5).toNatClampNeg = z := ⟨_, rfl⟩
  refine lv_aload_n hx hb dL_law_578 rfl (lv_at hl 3 rfl) ?_
  refine lv_aload_n hx hb dL_law_579 rfl (lv_at hl 4 rfl) ?_
  refine lv_iload hx hb dL_law_580 (lv_at hl 0 rfl) ?_
  refine lv_iconst (v := 1) hx hb dL_law_582 (by decide) ?_
  refine lv_iadd hx hb dL_law_583 ?_
  refine va_sld (i := i + 1) hx hb hX hbl hbA hS (lw_in hi (by decide)) dL_law_584 ?_
  refine tq_i (w := w1) hw1 ?_
  refine lv_aload_n hx hb dL_law_585 rfl (lv_at hl 4 rfl) ?_
  refine lv_iload hx hb dL_law_586 (lv_at hl 0 rfl) ?_
  refine lv_iconst (v := 2) hx hb dL_law_588 (by decide) ?_
  refine lv_iadd hx hb dL_law_589 ?_
  refine va_sld (i := i + 2) hx hb hX hbl hbA hS (lw_in hi (by decide)) dL_law_590 ?_
  refine tq_i (w := w2) hw2 ?_
  obtain ⟨⟨r1, Tn_2, C_3⟩, hcx, hq4⟩ := (t_X7_help pa qa P Tn C q4 w1 w2 bP bTn bC e4)
  refine lw_ci (As := [.int w1, .int w2]) (rest := []) hP hD hS hA hK hN ⟨hx, hb, hml, hown, hT⟩ (c_X7_help l G cA H.size xa ka ra na ia ua va ca za pa qa X K R P L P2 L2 Tn Ti Tu Tv C Z q0 q1 q2 q3 q4 q5 w1 w2 r1 Tn_2 C_3 hcx) (cwV 2 hT (tq_gV kw_39_17 kw_39_18 kw_39_19 kw_1_2 kw_39_20) rfl rfl rfl (by decide +kernel) ⟨Nat.le_of_ble_eq_true rfl, Nat.le_of_ble_eq_true rfl⟩) (wX_rec hK hP) rfl hl.1 rfl (lv_room (Nat.le_of_ble_eq_true rfl)) dL_law_591 hfit (fun _ _ H locs z9 hP hD hS => ?_)
  have z9 := z9.symm
  subst z9
  refine lv_pop hx hb dL_law_594 rfl ?_
  refine lv_aload_n hx hb dL_law_595 rfl (lv_at hl 2 rfl) ?_
  refine lv_aload_n hx hb dL_law_596 rfl (lv_at hl 4 rfl) ?_
  refine lv_iload hx hb dL_law_597 (lv_at hl 0 rfl) ?_
  refine lv_iconst (v := 1) hx hb dL_law_599 (by decide) ?_
  refine lv_iadd hx hb dL_law_600 ?_
  refine va_sld (i := i + 1) hx hb hX hbl hbA hS (lw_in hi (by decide)) dL_law_601 ?_
  refine tq_i (w := w1) hw1 ?_
  refine lv_aload_n hx hb dL_law_602 rfl (lv_at hl 4 rfl) ?_
  refine lv_iload hx hb dL_law_603 (lv_at hl 0 rfl) ?_
  refine lv_iconst (v := 2) hx hb dL_law_605 (by decide) ?_
  refine lv_iadd hx hb dL_law_606 ?_
  refine va_sld (i := i + 2) hx hb hX hbl hbA hS (lw_in hi (by decide)) dL_law_607 ?_
  refine tq_i (w := w2) hw2 ?_
  obtain ⟨⟨r5, S_6⟩, hcm, hq7⟩ := (Q_help S w1 w2 jx)
  replace hP : va_P G vwCl (wM cA aa S LM ++ (wX cA xa ka ra na ia ua va ca za pa qa X K R P L P2 L2 Tn_2 Ti Tu Tv C_3 Z q0 q1 q2 q3 q4 q5 ++ [(oa, .inl (cA 2, 1, .inr (.inl og)))])) H := tw_P wl_rot hP
  replace hD : va_D A (wM cA aa S LM ++ (wX cA xa ka ra na ia ua va ca za pa qa X K R P L P2 L2 Tn_2 Ti Tu Tv C_3 Z q0 q1 q2 q3 q4 q5 ++ [(oa, .inl (cA 2, 1, .inr (.inl og)))])) := tw_D wl_rot hD
  refine lw_ci (As := [.int w1, .int w2]) (rest := []) hP hD hS hA hK hN ⟨hx, hb, hml, hown, hT⟩ (c_X8_help l G cA H.size aa S LM w1 w2 r5 S_6 hcm) (cwV 2 hT (tq_gV kw_39_21 kw_39_22 kw_39_23 kw_1_5 kw_40_0) rfl rfl rfl (by decide +kernel) ⟨Nat.le_of_ble_eq_true rfl, Nat.le_of_ble_eq_true rfl⟩) (wM_rec hK hP) rfl hl.1 rfl (lv_room (Nat.le_of_ble_eq_true rfl)) dL_law_608 hfit (fun _ _ H locs z9 hP hD hS => ?_)
  have z9 := z9.symm
  subst z9
  replace hP : va_P G vwCl (wX cA xa ka ra na ia ua va ca za pa qa X K R P L P2 L2 Tn_2 Ti Tu Tv C_3 Z q0 q1 q2 q3 q4 q5 ++ (wM cA aa S_6 LM ++ [(oa, .inl (cA 2, 1, .inr (.inl og)))])) H := tw_P wl_rot hP
  replace hD : va_D A (wX cA xa ka ra na ia ua va ca za pa qa X K R P L P2 L2 Tn_2 Ti Tu Tv C_3 Z q0 q1 q2 q3 q4 q5 ++ (wM cA aa S_6 LM ++ [(oa, .inl (cA 2, 1, .inr (.inl og)))])) := tw_D wl_rot hD
  refine lv_pop hx hb dL_law_611 rfl ?_
  refine lv_goto (tgt := 1217) hx hb dL_law_612 (by decide) ?_
  exact hk H locs ls ⟨xa, ka, ra, na, ia, ua, va, ca, za, pa, qa, aa, X, K, R, P, L, P2, L2, Tn_2, Ti, Tu, Tv, C_3, Z, q0, q1, q2, q3, q4, q5, S_6, LM, og, rfl, rfl, ⟨bX, bK, bR, bP, bP2, hq4.2.1, bTi, bTu, bTv, hq4.2.2, bZ, dz, e0, e4, e5, e1⟩, hq7.1, (E_help hok jx hrel hcx hcm), hP, hD⟩ hS hl
