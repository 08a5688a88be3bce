set_option maxHeartbeats 4000000 in
set_option maxRecDepth 100000 in
theorem lc_12 {p : Program} {e : Env} {s : State} {m : MethodId} {below : List Frame} {meth : Method} {c : Code} (l : Launch) {b Ln : Nat} {xs : Nat → Int32} (C0 : lw_At p s m meth c b Ln xs) (G : va_G) (cA : Nat → ClassId) {A : Nat → Prop} (hAe : A = fun q : Nat => s.heap.size ≤ q) (hK : va_K G vwCl (tyL cA) s) (hN : tqN s) {bA : Nat} (hB : tqB bA A s s.heap) {H : Heap} {locs : List Loc} {ls : Array Slot} {kc ks : Nat} (hfit : kc ≤ 601024 ∧ ks ≤ 7293034) {i : Int32} (hi : 0 ≤ i.toInt ∧ i.toInt + 6 ≤ (Ln : Int)) (hLn : Ln ≤ 3072) {x0 mm oa : Nat} (hI : lwP G cA A x0 mm oa H) (hS : va_S A s.heap H locs) (hl : lv_has ls 7 [(4, .int i), (3, .ref oa), (2, .ref mm), (1, .ref x0), (0, .ref b)]) (hk : (∀ (H : Heap) (locs : List Loc) (ls : Array Slot), lwP G cA A x0 mm oa H → va_S A s.heap H locs → lv_has ls 7 [(4, .int i), (3, .ref oa), (2, .ref mm), (1, .ref x0), (0, .ref b)] → W p l e room_1 s m #[Value.ref b] below meth c H locs kc ks (lw_Z below #[Value.ref b] s) (F0 m 1217 ls []))) : W p l e room_1 s m #[Value.ref b] below meth c H locs kc ks (lw_Z below #[Value.ref b] s) (F0 m 615 ls []) := by
  obtain ⟨hx, hb, hr, hml, hown, hts, hX, hbl, hlocks, hgv⟩ := id C0
  have hT : ∀ v ∈ T0, v.before #[Value.ref b] s = true := fun v h => hts v (tq_law_in v h)
  have hown : s.vm.findClass RL = some m.cls := hown
  have hA : ∀ q : Nat, s.heap.size ≤ q → A q := fun q h => by rw [hAe]; exact h
  have hbA : ¬ A b := by rw [hAe]; exact Nat.not_le.mpr hbl
  obtain ⟨xa, ka, ra, na, ia, ua, va, ca, za, pa, qa, aa, X, K, R, P, L, P2, L2, Tn, Ti, Tu, Tv, C, Z, q0, q1, q2, q3, q4, q5, S, LM, og, rfl, rfl, hok, jx, hrel, hP, hD⟩ := hI
  obtain ⟨bX, bK, bR, bP, bP2, bTn, bTi, bTu, bTv, bC, bZ, dz, e0, e4, e5, e1⟩ := id hok
  obtain ⟨w1, hw1⟩ : ∃ z, xs (i + 1).toNatClampNeg = z := ⟨_, rfl⟩
  obtain ⟨w2, hw2⟩ : ∃ z, xs (i + 2).toNatClampNeg = z := ⟨_, rfl⟩
  obtain ⟨w3, hw3⟩ : ∃ z, xs (i + 3).toNatClampNeg = z := ⟨_, rfl⟩
  obtain ⟨w4, hw4⟩ : ∃ z, xs (i + 4).toNatClampNeg = z := ⟨_, rfl⟩
  obtain ⟨w5, hw5⟩ : ∃ z, xs (i + 5).toNatClampNeg = z := ⟨_, rfl⟩
  refine lv_aload_n hx hb dL_law_615 rfl (lv_at hl 3 rfl) ?_
  refine lv_aload_n hx hb dL_law_616 rfl (lv_at hl 4 rfl) ?_
  refine lv_iload hx hb dL_law_617 (lv_at hl 0 rfl) ?_
  refine lv_iconst (v := 1) hx hb dL_law_619 (by decide) ?_
  refine lv_iadd hx hb dL_law_620 ?_
  refine va_sld (i := i + 1) hx hb hX hbl hbA hS (lw_in hi (by decide)) dL_law_621 ?_
  refine tq_i (w := w1) hw1 ?_
  obtain ⟨⟨r1, L_2, Tn_3, C_4⟩, hcx, hq5⟩ := (t_X7_go pa qa P L Tn C q0 w1 bP bTn bC e0)
  refine lw_ci (As := [.int w1]) (rest := []) hP hD hS hA hK hN ⟨hx, hb, hml, hown, hT⟩ (c_X7_go l G cA H.size xa ka ra na ia ua va ca za pa qa X K R P L P2 L2 Tn Ti Tu Tv C Z q0 q1 q2 q3 q4 q5 w1 r1 L_2 Tn_3 C_4 hcx) (cwV 1 hT (tq_gV kw_40_1 kw_40_2 kw_40_3 kw_1_2 kw_40_4) rfl rfl rfl (by decide +kernel) ⟨Nat.le_of_ble_eq_true rfl, Nat.le_of_ble_eq_true rfl⟩) (wX_rec hK hP) rfl hl.1 rfl (lv_room (Nat.le_of_ble_eq_true rfl)) dL_law_622 hfit (fun _ _ H locs z9 hP hD hS => ?_)
  have z9 := z9.symm
  subst z9
  refine lv_pop hx hb dL_law_625 rfl ?_
  refine lv_aload_n hx hb dL_law_626 rfl (lv_at hl 2 rfl) ?_
  refine lv_aload_n hx hb dL_law_627 rfl (lv_at hl 4 rfl) ?_
  refine lv_iload hx hb dL_law_628 (lv_at hl 0 rfl) ?_
  refine lv_iconst (v := 1) hx hb dL_law_630 (by decide) ?_
  refine lv_iadd hx hb dL_law_631 ?_
  refine va_sld (i := i + 1) hx hb hX hbl hbA hS (lw_in hi (by decide)) dL_law_632 ?_
  refine tq_i (w := w1) hw1 ?_
  obtain ⟨⟨r6, S_7, LM_8⟩, hcm, hq9⟩ := (Q_go S LM w1 jx)
  replace hP : va_P G vwCl (wM cA aa S LM ++ (wX cA xa ka ra na ia ua va ca za pa qa X K R P L_2 P2 L2 Tn_3 Ti Tu Tv C_4 Z q0 q1 q2 q3 q4 q5 ++ [(oa, .inl (cA 2, 1, .inr (.inl og)))])) H := tw_P wl_rot hP
  replace hD : va_D A (wM cA aa S LM ++ (wX cA xa ka ra na ia ua va ca za pa qa X K R P L_2 P2 L2 Tn_3 Ti Tu Tv C_4 Z q0 q1 q2 q3 q4 q5 ++ [(oa, .inl (cA 2, 1, .inr (.inl og)))])) := tw_D wl_rot hD
  refine lw_ci (As := [.int w1]) (rest := []) hP hD hS hA hK hN ⟨hx, hb, hml, hown, hT⟩ (c_X8_go l G cA H.size aa S LM w1 r6 S_7 LM_8 hcm) (cwV 1 hT (tq_gV kw_43_10 kw_43_11 kw_43_12 kw_1_5 kw_43_13) rfl rfl rfl (by decide +kernel) ⟨Nat.le_of_ble_eq_true rfl, Nat.le_of_ble_eq_true rfl⟩) (wM_rec hK hP) rfl hl.1 rfl (lv_room (Nat.le_of_ble_eq_true rfl)) dL_law_633 hfit (fun _ _ H locs z9 hP hD hS => ?_)
  have z9 := z9.symm
  subst z9
  replace hP : va_P G vwCl (wX cA xa ka ra na ia ua va ca za pa qa X K R P L_2 P2 L2 Tn_3 Ti Tu Tv C_4 Z q0 q1 q2 q3 q4 q5 ++ (wM cA aa S_7 LM_8 ++ [(oa, .inl (cA 2, 1, .inr (.inl og)))])) H := tw_P wl_rot hP
  replace hD : va_D A (wX cA xa ka ra na ia ua va ca za pa qa X K R P L_2 P2 L2 Tn_3 Ti Tu Tv C_4 Z q0 q1 q2 q3 q4 q5 ++ (wM cA aa S_7 LM_8 ++ [(oa, .inl (cA 2, 1, .inr (.inl og)))])) := tw_D wl_rot hD
  refine lv_pop hx hb dL_law_636 rfl ?_
  refine lv_goto (tgt := 1217) hx hb dL_law_637 (by decide) ?_
  exact hk H locs ls ⟨xa, ka, ra, na, ia, ua, va, ca, za, pa, qa, aa, X, K, R, P, L_2, P2, L2, Tn_3, Ti, Tu, Tv, C_4, Z, q0, q1, q2, q3, q4, q5, S_7, LM_8, og, rfl, rfl, ⟨bX, bK, bR, bP, bP2, hq5.1, bTi, bTu, bTv, hq5.2, bZ, dz, e0, e4, e5, e1⟩, hq9.1, (E_go hok jx hrel hcx hcm), hP, hD⟩ hS hl
set_option maxHeartbeats 4000000 in
set_option maxRecDepth 100000 in
theorem lc_13 {p : Program} {e : Env} {s : State} {m : MethodId} {below : List Frame} {meth : Method} {c : Code} (l : Launch) {b Ln : Nat} {xs : Nat → Int32} (C0 : lw_At p s m meth c b Ln xs) (G : va_G) (cA : Nat → ClassId) {A : Nat → Prop} (hAe : A = fun q : Nat => s.heap.size ≤ q) (hK : va_K G vwCl (tyL cA) s) (hN : tqN s) {bA : Nat} (hB : tqB bA A s s.heap) {H : Heap} {locs : List Loc} {ls : Array Slot} {kc ks : Nat} (hfit : kc ≤ 601024 ∧ ks ≤ 7293034) {i : Int32} (hi : 0 ≤ i.toInt ∧ i.toInt + 6 ≤ (Ln : Int)) (hLn : Ln ≤ 3072) {x0 mm oa : Nat} (hI : lwP G cA A x0 mm oa H) (hS : va_S A s.heap H locs) (hl : lv_has ls 7 [(4, .int i), (3, .ref oa), (2, .ref mm), (1, .ref x0), (0, .ref b)]) (hk : (∀ (H : Heap) (locs : List Loc) (ls : Array Slot), lwP G cA A x0 mm oa H → va_S A s.heap H locs → lv_has ls 7 [(4, .int i), (3, .ref oa), (2, .ref mm), (1, .ref x0), (0, .ref b)] → W p l e room_1 s m #[Value.ref b] below meth c H locs kc ks (lw_Z below #[Value.ref b] s) (F0 m 1217 ls []))) : W p l e room_1 s m #[Value.ref b] below meth c H locs kc ks (lw_Z below #[Value.ref b] s) (F0 m 640 ls []) := by
  obtain ⟨hx, hb, hr, hml, hown, hts, hX, hbl, hlocks, hgv⟩ := id C0
  have hT : ∀ v ∈ T0, v.before #[Value.ref b] s = true := fun v h => hts v (tq_law_in v h)
  have hown : s.vm.findClass RL = some m.cls := hown
  have hA : ∀ q : Nat, s.heap.size ≤ q → A q := fun q h => by rw [hAe]; exact h
  have hbA : ¬ A b := by rw [hAe]; exact Nat.not_le.mpr hbl
  obtain ⟨xa, ka, ra, na, ia, ua, va, ca, za, pa, qa, aa, X, K, R, P, L, P2, L2, Tn, Ti, Tu, Tv, C, Z, q0, q1, q2, q3, q4, q5, S, LM, og, rfl, rfl, hok, jx, hrel, hP, hD⟩ := hI
  obtain ⟨bX, bK, bR, bP, bP2, bTn, bTi, bTu, bTv, bC, bZ, dz, e0, e4, e5, e1⟩ := id hok
  obtain ⟨w1, hw1⟩ : ∃ z, xs (i + 1).toNatClampNeg = z := ⟨_, rfl⟩
  obtain ⟨w2, hw2⟩ : ∃ z, xs (i + 2).toNatClampNeg = z := ⟨_, rfl⟩
  obtain ⟨w3, hw3⟩ : ∃ z, xs (i + 3).toNatClampNeg = z := ⟨_, rfl⟩
  obtain ⟨w4, hw4⟩ : ∃ z, xs (i + 4).toNatClampNeg = z := ⟨_, rfl⟩
  obtain ⟨w5, hw5⟩ : ∃ z, xs (i + 5).toNatClampNeg = z := ⟨_, rfl⟩
  refine lv_aload_n hx hb dL_law_640 rfl (lv_at hl 3 rfl) ?_
  refine lv_aload_n hx hb dL_law_641 rfl (lv_at hl 4 rfl) ?_
  refine lv_iload hx hb dL_law_642 (lv_at hl 0 rfl) ?_
  refine lv_iconst (v := 1) hx hb dL_law_644 (by decide) ?_
  refine lv_iadd hx hb dL_law_645 ?_
  refine va_sld (i := i + 1) hx hb hX hbl hbA hS (lw_in hi (by decide)) dL_law_646 ?_
  refine tq_i (w := w1) hw1 ?_
  obtain ⟨⟨r1, X_2, L_3, Tu_4, Tv_5, q2_6, q3_7⟩, hcx, hq8⟩ := (D_Ep (t_X7_least pa qa X P L Tn Tu Tv q0 q2 q3 q4 w1 bX bP bTn bTu bTv e0 e4) (e_least pa qa X P L Tn Tu Tv q0 q2 q3 q4 w1))
  refine lw_ci (As := [.int w1]) (rest := []) hP hD hS hA hK hN ⟨hx, hb, hml, hown, hT⟩ (c_X7_least l G cA H.size xa ka ra na ia ua va ca za pa qa X K R P L P2 L2 Tn Ti Tu Tv C Z q0 q1 q2 q3 q4 q5 w1 r1 X_2 L_3 Tu_4 Tv_5 q2_6 q3_7 hcx) (cwV 1 hT (tq_gV kw_45_23 kw_46_0 kw_46_1 kw_1_2 kw_46_2) rfl rfl rfl (by decide +kernel) ⟨Nat.le_of_ble_eq_true rfl, Nat.le_of_ble_eq_true rfl⟩) (wX_rec hK hP) rfl hl.1 rfl (lv_room (Nat.le_of_ble_eq_true rfl)) dL_law_647 hfit (fun _ _ H locs z9 hP hD hS => ?_)
  have z9 := z9.symm
  subst z9
  refine lv_pop hx hb dL_law_650 rfl ?_
  refine lv_aload_n hx hb dL_law_651 rfl (lv_at hl 2 rfl) ?_
  refine lv_aload_n hx hb dL_law_652 rfl (lv_at hl 4 rfl) ?_
  refine lv_iload hx hb dL_law_653 (lv_at hl 0 rfl) ?_
  refine lv_iconst (v := 1) hx hb dL_law_655 (by decide) ?_
  refine lv_iadd hx hb dL_law_656 ?_
  refine va_sld (i := i + 1) hx hb hX hbl hbA hS (lw_in hi (by decide)) dL_law_657 ?_
  refine tq_i (w := w1) hw1 ?_
  obtain ⟨⟨r9, S_10, LM_11⟩, hcm, hq12⟩ := (Q_least S LM w1 jx)
  replace hP : va_P G vwCl (wM cA aa S LM ++ (wX cA xa ka ra na ia ua va ca za pa qa X_2 K R P L_3 P2 L2 Tn Ti Tu_4 Tv_5 C Z q0 q1 q2_6 q3_7 q4 q5 ++ [(oa, .inl (cA 2, 1, .inr (.inl og)))])) H := tw_P wl_rot hP
  replace hD : va_D A (wM cA aa S LM ++ (wX cA xa ka ra na ia ua va ca za pa qa X_2 K R P L_3 P2 L2 Tn Ti Tu_4 Tv_5 C Z q0 q1 q2_6 q3_7 q4 q5 ++ [(oa, .inl (cA 2, 1, .inr (.inl og)))])) := tw_D wl_rot hD
  refine lw_ci (As := [.int w1]) (rest := []) hP hD hS hA hK hN ⟨hx, hb, hml, hown, hT⟩ (c_X8_least l G cA H.size aa S LM w1 r9 S_10 LM_11 hcm) (cwV 1 hT (tq_gV kw_47_18 kw_47_19 kw_47_20 kw_1_5 kw_47_21) rfl rfl rfl (by decide +kernel) ⟨Nat.le_of_ble_eq_true rfl, Nat.le_of_ble_eq_true rfl⟩) (wM_rec hK hP) rfl hl.1 rfl (lv_room (Nat.le_of_ble_eq_true rfl)) dL_law_658 hfit (fun _ _ H locs z9 hP hD hS => ?_)
  have z9 := z9.symm
  subst z9
  replace hP : va_P G vwCl (wX cA xa ka ra na ia ua va ca za pa qa X_2 K R P L_3 P2 L2 Tn Ti Tu_4 Tv_5 C Z q0 q1 q2_6 q3_7 q4 q5 ++ (wM cA aa S_10 LM_11 ++ [(oa, .inl (cA 2, 1, .inr (.inl og)))])) H := tw_P wl_rot hP
  replace hD : va_D A (wX cA xa ka ra na ia ua va ca za pa qa X_2 K R P L_3 P2 L2 Tn Ti Tu_4 Tv_5 C Z q0 q1 q2_6 q3_7 q4 q5 ++ (wM cA aa S_10 LM_11 ++ [(oa, .inl (cA 2, 1, .inr (.inl og)))])) := tw_D wl_rot hD
  refine lv_pop hx hb dL_law_661 rfl ?_
  refine lv_goto (tgt := 1217) hx hb dL_law_662 (by decide) ?_
  exact hk H locs ls ⟨xa, ka, ra, na, ia, ua, va, ca, za, pa, qa, aa, X_2, K, R, P, L_3, P2, L2, Tn, Ti, Tu_4, Tv_5, C, Z, q0, q1, q2_6, q3_7, q4, q5, S_10, LM_11, og, rfl, rfl, ⟨hq8.1.1, bK, bR, bP, bP2, bTn, bTi, hq8.1.2.1, hq8.1.2.2, bC, bZ, dz, e0, e4, e5, (fun hz => e1 (fun h9 => hz ((congrFun hq8.2 4).trans h9)))⟩, hq12.1, (E_least hok jx hrel hcx hcm), hP, hD⟩ hS hl
set_option maxHeartbeats 4000000 in
set_option maxRecDepth 100000 in
theorem lc_14 {p : Program} {e : Env} {s : State} {m : MethodId} {below : List Frame} {meth : Method} {c : Code} (l : Launch) {b Ln : Nat} {xs : Nat → Int32} (C0 : lw_At p s m meth c b Ln xs) (G : va_G) (cA : Nat → ClassId) {A : Nat → Prop} (hAe : A = fun q : Nat => s.heap.size ≤ q) (hK : va_K G vwCl (tyL cA) s) (hN : tqN s) {bA : Nat} (hB : tqB bA A s s.heap) {H : Heap} {locs : List Loc} {ls : Array Slot} {kc ks : Nat} (hfit : kc ≤ 601024 ∧ ks ≤ 7293034) {i : Int32} (hi : 0 ≤ i.toInt ∧ i.toInt + 6 ≤ (Ln : Int)) (hLn : Ln ≤ 3072) {x0 mm oa : Nat} (hI : lwP G cA A x0 mm oa H) (hS : va_S A s.heap H locs) (hl : lv_has ls 7 [(4, .int i), (3, .ref oa), (2, .ref mm), (1, .ref x0), (0, .ref b)]) (hk : (∀ (H : Heap) (locs : List Loc) (ls : Array Slot), lwP G cA A x0 mm oa H → va_S A s.heap H locs → lv_has ls 7 [(4, .int i), (3, .ref oa), (2, .ref mm), (1, .ref x0), (0, .ref b)] → W p l e room_1 s m #[Value.ref b] below meth c H locs kc ks (lw_Z below #[Value.ref b] s) (F0 m 1217 ls []))) : W p l e room_1 s m #[Value.ref b] below meth c H locs kc ks (lw_Z below #[Value.ref b] s) (F0 m 665 ls []) := by
  obtain ⟨hx, hb, hr, hml, hown, hts, hX, hbl, hlocks, hgv⟩ := id C0
  have hT : ∀ v ∈ T0, v.before #[Value.ref b] s = true := fun v h => hts v (tq_law_in v h)
  have hown : s.vm.findClass RL = some m.cls := hown
  have hA : ∀ q : Nat, s.heap.size ≤ q → A q := fun q h => by rw [hAe]; exact h
  have hbA : ¬ A b := by rw [hAe]; exact Nat.not_le.mpr hbl
  obtain ⟨xa, ka, ra, na, ia, ua, va, ca, za, pa, qa, aa, X, K, R, P, L, P2, L2, Tn, Ti, Tu, Tv, C, Z, q0, q1, q2, q3, q4, q5, S, LM, og, rfl, rfl, hok, jx, hrel, hP, hD⟩ := hI
  obtain ⟨bX, bK, bR, bP, bP2, bTn, bTi, bTu, bTv, bC, bZ, dz, e0, e4, e5, e1⟩ := id hok
  obtain ⟨w1, hw1⟩ : ∃ z, xs (i + 1).toNatClampNeg = z := ⟨_, rfl⟩
  obtain ⟨w2, hw2⟩ : ∃ z, xs (i + 2).toNatClampNeg = z := ⟨_, rfl⟩
  obtain ⟨w3, hw3⟩ : ∃ z, xs (i + 3).toNatClampNeg = z := ⟨_, rfl⟩
  obtain ⟨w4, hw4⟩ : ∃ z, xs (i + 4).toNatClampNeg = z := ⟨_, rfl⟩
  obtain ⟨w5, hw5⟩ : ∃ z, xs (i + 5).toNatClampNeg = z := ⟨_, rfl⟩
  refine lv_aload_n hx hb dL_law_665 rfl (lv_at hl 3 rfl) ?_
  refine lv_aload_n hx hb dL_law_666 rfl (lv_at hl 4 rfl) ?_
  refine lv_iload hx hb dL_law_667 (lv_at hl 0 rfl) ?_
  refine lv_iconst (v := 1) hx hb dL_law_669 (by decide) ?_
  refine lv_iadd hx hb dL_law_670 ?_
  refine va_sld (i := i + 1) hx hb hX hbl hbA hS (lw_in hi (by decide)) dL_law_671 ?_
  refine tq_i (w := w1) hw1 ?_
  refine lv_aload_n hx hb dL_law_672 rfl (lv_at hl 4 rfl) ?_
  refine lv_iload hx hb dL_law_673 (lv_at hl 0 rfl) ?_
  refine lv_iconst (v := 2) hx hb dL_law_675 (by decide) ?_
  refine lv_iadd hx hb dL_law_676 ?_
  refine va_sld (i := i + 2) hx hb hX hbl hbA hS (lw_in hi (by decide)) dL_law_677 ?_
  refine tq_i (w := w2) hw2 ?_
  obtain ⟨⟨r1, L_2, Tu_3, q2_4⟩, hcx, hq5⟩ := (t_X7_mine pa qa P L Tn Tu q0 q2 q4 w1 w2 bP bTn bTu e0 e4)
  refine lw_ci (As := [.int w1, .int w2]) (rest := []) hP hD hS hA hK hN ⟨hx, hb, hml, hown, hT⟩ (c_X7_mine l G cA H.size xa ka ra na ia ua va ca za pa qa X K R P L P2 L2 Tn Ti Tu Tv C Z q0 q1 q2 q3 q4 q5 w1 w2 r1 L_2 Tu_3 q2_4 hcx) (cwV 2 hT (tq_gV kw_48_13 kw_48_14 kw_48_15 kw_1_2 kw_48_16) rfl rfl rfl (by decide +kernel) ⟨Nat.le_of_ble_eq_true rfl, Nat.le_of_ble_eq_true rfl⟩) (wX_rec hK hP) rfl hl.1 rfl (lv_room (Nat.le_of_ble_eq_true rfl)) dL_law_678 hfit (fun _ _ H locs z9 hP hD hS => ?_)
  have z9 := z9.symm
  subst z9
  refine lv_pop hx hb dL_law_681 rfl ?_
  refine lv_aload_n hx hb dL_law_682 rfl (lv_at hl 2 rfl) ?_
  refine lv_aload_n hx hb dL_law_683 rfl (lv_at hl 4 rfl) ?_
  refine lv_iload hx hb dL_law_684 (lv_at hl 0 rfl) ?_
  refine lv_iconst (v := 1) hx hb dL_law_686 (by decide) ?_
  refine lv_iadd hx hb dL_law_687 ?_
  refine va_sld (i := i + 1) hx hb hX hbl hbA hS (lw_in hi (by decide)) dL_law_688 ?_
  refine tq_i (w := w1) hw1 ?_
  refine lv_aload_n hx hb dL_law_689 rfl (lv_at hl 4 rfl) ?_
  refine lv_iload hx hb dL_law_690 (lv_at hl 0 rfl) ?_
  refine lv_iconst (v := 2) hx hb dL_law_692 (by decide) ?_
  refine lv_iadd hx hb dL_law_693 ?_
  refine va_sld (i := i + 2) hx hb hX hbl hbA hS (lw_in hi (by decide)) dL_law_694 ?_
  refine tq_i (w := w2) hw2 ?_
  obtain ⟨⟨r6, S_7, LM_8⟩, hcm, hq9⟩ := (Q_mine S LM w1 w2 jx)
  replace hP : va_P G vwCl (wM cA aa S LM ++ (wX cA xa ka ra na ia ua va ca za pa qa X K R P L_2 P2 L2 Tn Ti Tu_3 Tv C Z q0 q1 q2_4 q3 q4 q5 ++ [(oa, .inl (cA 2, 1, .inr (.inl og)))])) H := tw_P wl_rot hP
  replace hD : va_D A (wM cA aa S LM ++ (wX cA xa ka ra na ia ua va ca za pa qa X K R P L_2 P2 L2 Tn Ti Tu_3 Tv C Z q0 q1 q2_4 q3 q4 q5 ++ [(oa, .inl (cA 2, 1, .inr (.inl og)))])) := tw_D wl_rot hD
  refine lw_ci (As := [.int w1, .int w2]) (rest := []) hP hD hS hA hK hN ⟨hx, hb, hml, hown, hT⟩ (c_X8_mine l G cA H.size aa S LM w1 w2 r6 S_7 LM_8 hcm) (cwV 2 hT (tq_gV kw_48_21 kw_48_22 kw_48_23 kw_1_5 kw_49_0) rfl rfl rfl (by decide +kernel) ⟨Nat.le_of_ble_eq_true rfl, Nat.le_of_ble_eq_true rfl⟩) (wM_rec hK hP) rfl hl.1 rfl (lv_room (Nat.le_of_ble_eq_true rfl)) dL_law_695 hfit (fun _ _ H locs z9 hP hD hS => ?_)
  have z9 := z9.symm
  subst z9
  replace hP : va_P G vwCl (wX cA xa ka ra na ia ua va ca za pa qa X K R P L_2 P2 L2 Tn Ti Tu_3 Tv C Z q0 q1 q2_4 q3 q4 q5 ++ (wM cA aa S_7 LM_8 ++ [(oa, .inl (cA 2, 1, .inr (.inl og)))])) H := tw_P wl_rot hP
  replace hD : va_D A (wX cA xa ka ra na ia ua va ca za pa qa X K R P L_2 P2 L2 Tn Ti Tu_3 Tv C Z q0 q1 q2_4 q3 q4 q5 ++ (wM cA aa S_7 LM_8 ++ [(oa, .inl (cA 2, 1, .inr (.inl og)))])) := tw_D wl_rot hD
  refine lv_pop hx hb dL_law_698 rfl ?_
  refine lv_goto (tgt := 1217) hx hb dL_law_699 (by decide) ?_
  exact hk H locs ls ⟨xa, ka, ra, na, ia, ua, va, ca, za, pa, qa, aa, X, K, R, P, L_2, P2, L2, Tn, Ti, Tu_3, Tv, C, Z, q0, q1, q2_4, q3, q4, q5, S_7, LM_8, og, rfl, rfl, ⟨bX, bK, bR, bP, bP2, bTn, bTi, hq5, bTv, bC, bZ, dz, e0, e4, e5, e1⟩, hq9.1, (E_mine hok jx hrel hcx hcm), hP, hD⟩ hS hl
set_option maxHeartbeats 4000000 in
set_option maxRecDepth 100000 in
theorem lc_15 {p : Program} {e : Env} {s : State} {m : MethodId} {below : List Frame} {meth : Method} {c : Code} (l : Launch) {b Ln : Nat} {xs : Nat → Int32} (C0 : lw_At p s m meth c b Ln xs) (G : va_G) (cA : Nat → ClassId) {A : Nat → Prop} (hAe : A = fun q : Nat => s.heap.size ≤ q) (hK : va_K G vwCl (tyL cA) s) (hN : tqN s) {bA : Nat} (hB : tqB bA A s s.heap) {H : Heap} {locs : List Loc} {ls : Array Slot} {kc ks : Nat} (hfit : kc ≤ 601024 ∧ ks ≤ 7293034) {i : Int32} (hi : 0 ≤ i.toInt ∧ i.toInt + 6 ≤ (Ln : Int)) (hLn : Ln ≤ 3072) {x0 mm oa : Nat} (hI : lwP G cA A x0 mm oa H) (hS : va_S A s.heap H locs) (hl : lv_has ls 7 [(4, .int i), (3, .ref oa), (2, .ref mm), (1, .ref x0), (0, .ref b)]) (hk : (∀ (H : Heap) (locs : List Loc) (ls : Array Slot), lwP G cA A x0 mm oa H → va_S A s.heap H locs → lv_has ls 7 [(4, .int i), (3, .ref oa), (2, .ref mm), (1, .ref x0), (0, .ref b)] → W p l e room_1 s m #[Value.ref b] below meth c H locs kc ks (lw_Z below #[Value.ref b] s) (F0 m 1217 ls []))) : W p l e room_1 s m #[Value.ref b] below meth c H locs kc ks (lw_Z below #[Value.ref b] s) (F0 m 702 ls []) := by
  obtain ⟨hx, hb, hr, hml, hown, hts, hX, hbl, hlocks, hgv⟩ := id C0
  have hT : ∀ v ∈ T0, v.before #[Value.ref b] s = true := fun v h => hts v (tq_law_in v h)
  have hown : s.vm.findClass RL = some m.cls := hown
  have hA : ∀ q : Nat, s.heap.size ≤ q → A q := fun q h => by rw [hAe]; exact h
  have hbA : ¬ A b := by rw [hAe]; exact Nat.not_le.mpr hbl
  obtain ⟨xa, ka, ra, na, ia, ua, va, ca, za, pa, qa, aa, X, K, R, P, L, P2, L2, Tn, Ti, Tu, Tv, C, Z, q0, q1, q2, q3, q4, q5, S, LM, og, rfl, rfl, hok, jx, hrel, hP, hD⟩ := hI
  obtain ⟨bX, bK, bR, bP, bP2, bTn, bTi, bTu, bTv, bC, bZ, dz, e0, e4, e5, e1⟩ := id hok
  obtain ⟨w1, hw1⟩ : ∃ z, xs (i + 1).toNatClampNeg = z := ⟨_, rfl⟩
  obtain ⟨w2, hw2⟩ : ∃ z, xs (i + 2).toNatClampNeg = z := ⟨_, rfl⟩
  obtain ⟨w3, hw3⟩ : ∃ z, xs (i + 3).toNatClampNeg = z := ⟨_, rfl⟩
  obtain ⟨w4, hw4⟩ : ∃ z, xs (i + 4).toNatClampNeg = z := ⟨_, rfl⟩
  obtain ⟨w5, hw5⟩ : ∃ z, xs (i + 5).toNatClampNeg = z := ⟨_, rfl⟩
  refine lv_aload_n hx hb dL_law_702 rfl (lv_at hl 3 rfl) ?_
  refine lv_aload_n hx hb dL_law_703 rfl (lv_at hl 4 rfl) ?_
  refine lv_iload hx hb dL_law_704 (lv_at hl 0 rfl) ?_
  refine lv_iconst (v := 1) hx hb dL_law_706 (by decide) ?_
  refine lv_iadd hx hb dL_law_707 ?_
  refine va_sld (i := i + 1) hx hb hX hbl hbA hS (lw_in hi (by decide)) dL_law_708 ?_
  refine tq_i (w := w1) hw1 ?_
  refine lv_aload_n hx hb dL_law_709 rfl (lv_at hl 4 rfl) ?_
  refine lv_iload hx hb dL_law_710 (lv_at hl 0 rfl) ?_
  refine lv_iconst (v := 2) hx hb dL_law_712 (by decide) ?_
  refine lv_iadd hx hb dL_law_713 ?_
  refine va_sld (i := i + 2) hx hb hX hbl hbA hS (lw_in hi (by decide)) dL_law_714 ?_
  refine tq_i (w := w2) hw2 ?_
  obtain ⟨⟨r1, L_2, Tu_3, Tv_4, q2_5, q3_6⟩, hcx, hq7⟩ := (t_X7_when pa qa P L Tn Tu Tv q0 q2 q3 q4 w1 w2 bP bTn bTu bTv e0 e4)
  refine lw_ci (As := [.int w1, .int w2]) (rest := []) hP hD hS hA hK hN ⟨hx, hb, hml, hown, hT⟩ (c_X7_when l G cA H.size xa ka ra na ia ua va ca za pa qa X K R P L P2 L2 Tn Ti Tu Tv C Z q0 q1 q2 q3 q4 q5 w1 w2 r1 L_2 Tu_3 Tv_4 q2_5 q3_6 hcx) (cwV 2 hT (tq_gV kw_49_1 kw_49_2 kw_49_3 kw_1_2 kw_49_4) rfl rfl rfl (by decide +kernel) ⟨Nat.le_of_ble_eq_true rfl, Nat.le_of_ble_eq_true rfl⟩) (wX_rec hK hP) rfl hl.1 rfl (lv_room (Nat.le_of_ble_eq_true rfl)) dL_law_715 hfit (fun _ _ H locs z9 hP hD hS => ?_)
  have z9 := z9.symm
  subst z9
  refine lv_pop hx hb dL_law_718 rfl ?_
  refine lv_aload_n hx hb dL_law_719 rfl (lv_at hl 2 rfl) ?_
  refine lv_aload_n hx hb dL_law_720 rfl (lv_at hl 4 rfl) ?_
  refine lv_iload hx hb dL_law_721 (lv_at hl 0 rfl) ?_
  refine lv_iconst (v := 1) hx hb dL_law_723 (by decide) ?_
  refine lv_iadd hx hb dL_law_724 ?_
  refine va_sld (i := i + 1) hx hb hX hbl hbA hS (lw_in hi (by decide)) dL_law_725 ?_
  refine tq_i (w := w1) hw1 ?_
  refine lv_aload_n hx hb dL_law_726 rfl (lv_at hl 4 rfl) ?_
  refine lv_iload hx hb dL_law_727 (lv_at hl 0 rfl) ?_
  refine lv_iconst (v := 2) hx hb dL_law_729 (by decide) ?_
  refine lv_iadd hx hb dL_law_730 ?_
  refine va_sld (i := i + 2) hx hb hX hbl hbA hS (lw_in hi (by decide)) dL_law_731 ?_
  refine tq_i (w := w2) hw2 ?_
  obtain ⟨⟨r8, S_9, LM_10⟩, hcm, hq11⟩ := (Q_when S LM w1 w2 jx)
  replace hP : va_P G vwCl (wM cA aa S LM ++ (wX cA xa ka ra na ia ua va ca za pa qa X K R P L_2 P2 L2 Tn Ti Tu_3 Tv_4 C Z q0 q1 q2_5 q3_6 q4 q5 ++ [(oa, .inl (cA 2, 1, .inr (.inl og)))])) H := tw_P wl_rot hP
  replace hD : va_D A (wM cA aa S LM ++ (wX cA xa ka ra na ia ua va ca za pa qa X K R P L_2 P2 L2 Tn Ti Tu_3 Tv_4 C Z q0 q1 q2_5 q3_6 q4 q5 ++ [(oa, .inl (cA 2, 1, .inr (.inl og)))])) := tw_D wl_rot hD
  refine lw_ci (As := [.int w1, .int w2]) (rest := []) hP hD hS hA hK hN ⟨hx, hb, hml, hown, hT⟩ (c_X8_when l G cA H.size aa S LM w1 w2 r8 S_9 LM_10 hcm) (cwV 2 hT (tq_gV kw_49_9 kw_49_10 kw_49_11 kw_1_5 kw_49_12) rfl rfl rfl (by decide +kernel) ⟨Nat.le_of_ble_eq_true rfl, Nat.le_of_ble_eq_true rfl⟩) (wM_rec hK hP) rfl hl.1 rfl (lv_room (Nat.le_of_ble_eq_true rfl)) dL_law_732 hfit (fun _ _ H locs z9 hP hD hS => ?_)
  have z9 := z9.symm
  subst z9
  replace hP : va_P G vwCl (wX cA xa ka ra na ia ua va ca za pa qa X K R P L_2 P2 L2 Tn Ti Tu_3 Tv_4 C Z q0 q1 q2_5 q3_6 q4 q5 ++ (wM cA aa S_9 LM_10 ++ [(oa, .inl (cA 2, 1, .inr (.inl og)))])) H := tw_P wl_rot hP
  replace hD : va_D A (wX cA xa ka ra na ia ua va ca za pa qa X K R P L_2 P2 L2 Tn Ti Tu_3 Tv_4 C Z q0 q1 q2_5 q3_6 q4 q5 ++ (wM cA aa S_9 LM_10 ++ [(oa, .inl (cA 2, 1, .inr (.inl og)))])) := tw_D wl_rot hD
  refine lv_pop hx hb dL_law_735 rfl ?_
  refine lv_goto (tgt := 1217) hx hb dL_law_736 (by decide) ?_
  exact hk H locs ls ⟨xa, ka, ra, na, ia, ua, va, ca, za, pa, qa, aa, X, K, R, P, L_2, P2, L2, Tn, Ti, Tu_3, Tv_4, C, Z, q0, q1, q2_5, q3_6, q4, q5, S_9, LM_10, og, rfl, rfl, ⟨bX, bK, bR, bP, bP2, bTn, bTi, hq7.1, hq7.2, bC, bZ, dz, e0, e4, e5, e1⟩, hq11.1, (E_when hok jx hrel hcx hcm), hP, hD⟩ hS hl
set_option maxHeartbeats 4000000 in
set_option maxRecDepth 100000 in
theorem lc_16 {p : Program} {e : Env} {s : State} {m : MethodId} {below : List Frame} {meth : Method} {c : Code} (l : Launch) {b Ln : Nat} {xs : Nat → Int32} (C0 : lw_At p s m meth c b Ln xs) (G : va_G) (cA : Nat → ClassId) {A : Nat → Prop} (hAe : A = fun q : Nat => s.heap.size ≤ q) (hK : va_K G vwCl (tyL cA) s) (hN : tqN s) {bA : Nat} (hB : tqB bA A s s.heap) {H : Heap} {locs : List Loc} {ls : Array Slot} {kc ks : Nat} (hfit : kc ≤ 601024 ∧ ks ≤ 7293034) {i : Int32} (hi : 0 ≤ i.toInt ∧ i.toInt + 6 ≤ (Ln : Int)) (hLn : Ln ≤ 3072) {x0 mm oa : Nat} (hI : lwP G cA A x0 mm oa H) (hS : va_S A s.heap H locs) (hl : lv_has ls 7 [(4, .int i), (3, .ref oa), (2, .ref mm), (1, .ref x0), (0, .ref b)]) (hk : (∀ (H : Heap) (locs : List Loc) (ls : Array Slot), lwP G cA A x0 mm oa H → va_S A s.heap H locs → lv_has ls 7 [(4, .int i), (3, .ref oa), (2, .ref mm), (1, .ref x0), (0, .ref b)] → W p l e room_1 s m #[Value.ref b] below meth c H locs kc ks (lw_Z below #[Value.ref b] s) (F0 m 1217 ls []))) : W p l e room_1 s m #[Value.ref b] below meth c H locs kc ks (lw_Z below #[Value.ref b] s) (F0 m 739 ls []) := by
  obtain ⟨hx, hb, hr, hml, hown, hts, hX, hbl, hlocks, hgv⟩ := id C0
  have hT : ∀ v ∈ T0, v.before #[Value.ref b] s = true := fun v h => hts v (tq_law_in v h)
  have hown : s.vm.findClass RL = some m.cls := hown
  have hA : ∀ q : Nat, s.heap.size ≤ q → A q := fun q h => by rw [hAe]; exact h
  have hbA : ¬ A b := by rw [hAe]; exact Nat.not_le.mpr hbl
  obtain ⟨xa, ka, ra, na, ia, ua, va, ca, za, pa, qa, aa, X, K, R, P, L, P2, L2, Tn, Ti, Tu, Tv, C, Z, q0, q1, q2, q3, q4, q5, S, LM, og, rfl, rfl, hok, jx, hrel, hP, hD⟩ := hI
  obtain ⟨bX, bK, bR, bP, bP2, bTn, bTi, bTu, bTv, bC, bZ, dz, e0, e4, e5, e1⟩ := id hok
  obtain ⟨w1, hw1⟩ : ∃ z, xs (i + 1).toNatClampNeg = z := ⟨_, rfl⟩
  obtain ⟨w2, hw2⟩ : ∃ z, xs (i + 2).toNatClampNeg = z := ⟨_, rfl⟩
  obtain ⟨w3, hw3⟩ : ∃ z, xs (i + 3).toNatClampNeg = z := ⟨_, rfl⟩
  obtain ⟨w4, hw4⟩ : ∃ z, xs (i + 4).toNatClampNeg = z := ⟨_, rfl⟩
  obtain ⟨w5, hw5⟩ : ∃ z, xs (i + 5).toNatClampNeg = z := ⟨_, rfl⟩
  refine lv_aload_n hx hb dL_law_739 rfl (lv_at hl 3 rfl) ?_
  refine lv_aload_n hx hb dL_law_740 rfl (lv_at hl 4 rfl) ?_
  refine lv_iload hx hb dL_law_741 (lv_at hl 0 rfl) ?_
  refine lv_iconst (v := 1) hx hb dL_law_743 (by decide) ?_
  refine lv_iadd hx hb dL_law_744 ?_
  refine va_sld (i := i + 1) hx hb hX hbl hbA hS (lw_in hi (by decide)) dL_law_745 ?_
  refine tq_i (w := w1) hw1 ?_
  refine lv_aload_n hx hb dL_law_746 rfl (lv_at hl 4 rfl) ?_
  refine lv_iload hx hb dL_law_747 (lv_at hl 0 rfl) ?_
  refine lv_iconst (v := 2) hx hb dL_law_749 (by decide) ?_
  refine lv_iadd hx hb dL_law_750 ?_
  refine va_sld (i := i + 2) hx hb hX hbl hbA hS (lw_in hi (by decide)) dL_law_751 ?_
  refine tq_i (w := w2) hw2 ?_
  obtain ⟨⟨r1, X_2, L_3, Tu_4, q2_5⟩, hcx, hq6⟩ := (D_Ep (t_X7_rests pa qa X P L Tn Tu q0 q2 q4 w1 w2 bX bP bTn bTu e0 e4) (e_rests pa qa X P L Tn Tu q0 q2 q4 w1 w2))
  refine lw_ci (As := [.int w1, .int w2]) (rest := []) hP hD hS hA hK hN ⟨hx, hb, hml, hown, hT⟩ (c_X7_rests l G cA H.size xa ka ra na ia ua va ca za pa qa X K R P L P2 L2 Tn Ti Tu Tv C Z q0 q1 q2 q3 q4 q5 w1 w2 r1 X_2 L_3 Tu_4 q2_5 hcx) (cwV 2 hT (tq_gV kw_49_13 kw_49_14 kw_49_15 kw_1_2 kw_49_16) rfl rfl rfl (by decide +kernel) ⟨Nat.le_of_ble_eq_true rfl, Nat.le_of_ble_eq_true rfl⟩) (wX_rec hK hP) rfl hl.1 rfl (lv_room (Nat.le_of_ble_eq_true rfl)) dL_law_752 hfit (fun _ _ H locs z9 hP hD hS => ?_)
  have z9 := z9.symm
  subst z9
  refine lv_pop hx hb dL_law_755 rfl ?_
  refine lv_aload_n hx hb dL_law_756 rfl (lv_at hl 2 rfl) ?_
  refine lv_aload_n hx hb dL_law_757 rfl (lv_at hl 4 rfl) ?_
  refine lv_iload hx hb dL_law_758 (lv_at hl 0 rfl) ?_
  refine lv_iconst (v := 1) hx hb dL_law_760 (by decide) ?_
  refine lv_iadd hx hb dL_law_761 ?_
  refine va_sld (i := i + 1) hx hb hX hbl hbA hS (lw_in hi (by decide)) dL_law_762 ?_
  refine tq_i (w := w1) hw1 ?_
  refine lv_aload_n hx hb dL_law_763 rfl (lv_at hl 4 rfl) ?_
  refine lv_iload hx hb dL_law_764 (lv_at hl 0 rfl) ?_
  refine lv_iconst (v := 2) hx hb dL_law_766 (by decide) ?_
  refine lv_iadd hx hb dL_law_767 ?_
  refine va_sld (i := i + 2) hx hb hX hbl hbA hS (lw_in hi (by decide)) dL_law_768 ?_
  refine tq_i (w := w2) hw2 ?_
  obtain ⟨⟨r7, S_8, LM_9⟩, hcm, hq10⟩ := (Q_rests S LM w1 w2 jx)
  replace hP : va_P G vwCl (wM cA aa S LM ++ (wX cA xa ka ra na ia ua va ca za pa qa X_2 K R P L_3 P2 L2 Tn Ti Tu_4 Tv C Z q0 q1 q2_5 q3 q4 q5 ++ [(oa, .inl (cA 2, 1, .inr (.inl og)))])) H := tw_P wl_rot hP
  replace hD : va_D A (wM cA aa S LM ++ (wX cA xa ka ra na ia ua va ca za pa qa X_2 K R P L_3 P2 L2 Tn Ti Tu_4 Tv C Z q0 q1 q2_5 q3 q4 q5 ++ [(oa, .inl (cA 2, 1, .inr (.inl og)))])) := tw_D wl_rot hD
  refine lw_ci (As := [.int w1, .int w2]) (rest := []) hP hD hS hA hK hN ⟨hx, hb, hml, hown, hT⟩ (c_X8_rests l G cA H.size aa S LM w1 w2 r7 S_8 LM_9 hcm) (cwV 2 hT (tq_gV kw_50_9 kw_50_10 kw_50_11 kw_1_5 kw_50_12) rfl rfl rfl (by decide +kernel) ⟨Nat.le_of_ble_eq_true rfl, Nat.le_of_ble_eq_true rfl⟩) (wM_rec hK hP) rfl hl.1 rfl (lv_room (Nat.le_of_ble_eq_true rfl)) dL_law_769 hfit (fun _ _ H locs z9 hP hD hS => ?_)
  have z9 := z9.symm
  subst z9
  replace hP : va_P G vwCl (wX cA xa ka ra na ia ua va ca za pa qa X_2 K R P L_3 P2 L2 Tn Ti Tu_4 Tv C Z q0 q1 q2_5 q3 q4 q5 ++ (wM cA aa S_8 LM_9 ++ [(oa, .inl (cA 2, 1, .inr (.inl og)))])) H := tw_P wl_rot hP
  replace hD : va_D A (wX cA xa ka ra na ia ua va ca za pa qa X_2 K R P L_3 P2 L2 Tn Ti Tu_4 Tv C Z q0 q1 q2_5 q3 q4 q5 ++ (wM cA aa S_8 LM_9 ++ [(oa, .inl (cA 2, 1, .inr (.inl og)))])) := tw_D wl_rot hD
  refine lv_pop hx hb dL_law_772 rfl ?_
  refine lv_goto (tgt := 1217) hx hb dL_law_773 (by decide) ?_
  exact hk H locs ls ⟨xa, ka, ra, na, ia, ua, va, ca, za, pa, qa, aa, X_2, K, R, P, L_3, P2, L2, Tn, Ti, Tu_4, Tv, C, Z, q0, q1, q2_5, q3, q4, q5, S_8, LM_9, og, rfl, rfl, ⟨hq6.1.1, bK, bR, bP, bP2, bTn, bTi, hq6.1.2, bTv, bC, bZ, dz, e0, e4, e5, (fun hz => e1 (fun h9 => hz ((congrFun hq6.2 4).trans h9)))⟩, hq10.1, (E_rests hok jx hrel hcx hcm), hP, hD⟩ hS hl
set_option maxHeartbeats 4000000 in
set_option maxRecDepth 100000 in
theorem lc_17 {p : Program} {e : Env} {s : State} {m : MethodId} {below : List Frame} {meth : Method} {c : Code} (l : Launch) {b Ln : Nat} {xs : Nat → Int32} (C0 : lw_At p s m meth c b Ln xs) (G : va_G) (cA : Nat → ClassId) {A : Nat → Prop} (hAe : A = fun q : Nat => s.heap.size ≤ q) (hK : va_K G vwCl (tyL cA) s) (hN : tqN s) {bA : Nat} (hB : tqB bA A s s.heap) {H : Heap} {locs : List Loc} {ls : Array Slot} {kc ks : Nat} (hfit : kc ≤ 601024 ∧ ks ≤ 7293034) {i : Int32} (hi : 0 ≤ i.toInt ∧ i.toInt + 6 ≤ (Ln : Int)) (hLn : Ln ≤ 3072) {x0 mm oa : Nat} (hI : lwP G cA A x0 mm oa H) (hS : va_S A s.heap H locs) (hl : lv_has ls 7 [(4, .int i), (3, .ref oa), (2, .ref mm), (1, .ref x0), (0, .ref b)]) (hk : (∀ (H : Heap) (locs : List Loc) (ls : Array Slot), lwP G cA A x0 mm oa H → va_S A s.heap H locs → lv_has ls 7 [(4, .int i), (3, .ref oa), (2, .ref mm), (1, .ref x0), (0, .ref b)] → W p l e room_1 s m #[Value.ref b] below meth c H locs kc ks (lw_Z below #[Value.ref b] s) (F0 m 1217 ls []))) : W p l e room_1 s m #[Value.ref b] below meth c H locs kc ks (lw_Z below #[Value.ref b] s) (F0 m 776 ls []) := by
  obtain ⟨hx, hb, hr, hml, hown, hts, hX, hbl, hlocks, hgv⟩ := id C0
  have hT : ∀ v ∈ T0, v.before #[Value.ref b] s = true := fun v h => hts v (tq_law_in v h)
  have hown : s.vm.findClass RL = some m.cls := hown
  have hA : ∀ q : Nat, s.heap.size ≤ q → A q := fun q h => by rw [hAe]; exact h
  have hbA : ¬ A b := by rw [hAe]; exact Nat.not_le.mpr hbl
  obtain ⟨xa, ka, ra, na, ia, ua, va, ca, za, pa, qa, aa, X, K, R, P, L, P2, L2, Tn, Ti, Tu, Tv, C, Z, q0, q1, q2, q3, q4, q5, S, LM, og, rfl, rfl, hok, jx, hrel, hP, hD⟩ := hI
  obtain ⟨bX, bK, bR, bP, bP2, bTn, bTi, bTu, bTv, bC, bZ, dz, e0, e4, e5, e1⟩ := id hok
  obtain ⟨w1, hw1⟩ : ∃ z, xs (i + 1).toNatClampNeg = z := ⟨_, rfl⟩
  obtain ⟨w2, hw2⟩ : ∃ z, xs (i + 2).toNatClampNeg = z := ⟨_, rfl⟩
  obtain ⟨w3, hw3⟩ : ∃ z, xs (i + 3).toNatClampNeg = z := ⟨_, rfl⟩
  obtain ⟨w4, hw4⟩ : ∃ z, xs (i + 4).toNatClampNeg = z := ⟨_, rfl⟩
  obtain ⟨w5, hw5⟩ : ∃ z, xs (i + 5).toNatClampNeg = z := ⟨_, rfl⟩
  refine lv_aload_n hx hb dL_law_776 rfl (lv_at hl 3 rfl) ?_
  refine lv_aload_n hx hb dL_law_777 rfl (lv_at hl 4 rfl) ?_
  refine lv_iload hx hb dL_law_778 (lv_at hl 0 rfl) ?_
  refine lv_iconst (v := 1) hx hb dL_law_780 (by decide) ?_
  refine lv_iadd hx hb dL_law_781 ?_
  refine va_sld (i := i + 1) hx hb hX hbl hbA hS (lw_in hi (by decide)) dL_law_782 ?_
  refine tq_i (w := w1) hw1 ?_
  refine lv_aload_n hx hb dL_law_783 rfl (lv_at hl 4 rfl) ?_
  refine lv_iload hx hb dL_law_784 (lv_at hl 0 rfl) ?_
  refine lv_iconst (v := 2) hx hb dL_law_786 (by decide) ?_
  refine lv_iadd hx hb dL_law_787 ?_
  refine va_sld (i := i + 2) hx hb hX hbl hbA hS (lw_in hi (by decide)) dL_law_788 ?_
  refine tq_i (w := w2) hw2 ?_
  refine lv_aload_n hx hb dL_law_789 rfl (lv_at hl 4 rfl) ?_
  refine lv_iload hx hb dL_law_790 (lv_at hl 0 rfl) ?_
  refine lv_iconst (v := 3) hx hb dL_law_792 (by decide) ?_
  refine lv_iadd hx hb dL_law_793 ?_
  refine va_sld (i := i + 3) hx hb hX hbl hbA hS (lw_in hi (by decide)) dL_law_794 ?_
  refine tq_i (w := w3) hw3 ?_
  obtain ⟨⟨r1, X_2, L_3, Tu_4, q2_5⟩, hcx, hq6⟩ := (D_Ep (t_X7_rest pa qa X P L Tn Tu q0 q2 q4 w1 w2 w3 bX bP bTn bTu e0 e4) (e_rest pa qa X P L Tn Tu q0 q2 q4 w1 w2 w3))
  refine lw_ci (As := [.int w1, .int w2, .int w3]) (rest := []) hP hD hS hA hK hN ⟨hx, hb, hml, hown, hT⟩ (c_X7_rest l G cA H.size xa ka ra na ia ua va ca za pa qa X K R P L P2 L2 Tn Ti Tu Tv C Z q0 q1 q2 q3 q4 q5 w1 w2 w3 r1 X_2 L_3 Tu_4 q2_5 hcx) (cwV 3 hT (tq_gV kw_51_1 kw_51_2 kw_51_3 kw_1_2 kw_51_4) rfl rfl rfl (by decide +kernel) ⟨Nat.le_of_ble_eq_true rfl, Nat.le_of_ble_eq_true rfl⟩) (wX_rec hK hP) rfl hl.1 rfl (lv_room (Nat.le_of_ble_eq_true rfl)) dL_law_795 hfit (fun _ _ H locs z9 hP hD hS => ?_)
  have z9 := z9.symm
  subst z9
  refine lv_pop hx hb dL_law_798 rfl ?_
  refine lv_aload_n hx hb dL_law_799 rfl (lv_at hl 2 rfl) ?_
  refine lv_aload_n hx hb dL_law_800 rfl (lv_at hl 4 rfl) ?_
  refine lv_iload hx hb dL_law_801 (lv_at hl 0 rfl) ?_
  refine lv_iconst (v := 1) hx hb dL_law_803 (by decide) ?_
  refine lv_iadd hx hb dL_law_804 ?_
  refine va_sld (i := i + 1) hx hb hX hbl hbA hS (lw_in hi (by decide)) dL_law_805 ?_
  refine tq_i (w := w1) hw1 ?_
  refine lv_aload_n hx hb dL_law_806 rfl (lv_at hl 4 rfl) ?_
  refine lv_iload hx hb dL_law_807 (lv_at hl 0 rfl) ?_
  refine lv_iconst (v := 2) hx hb dL_law_809 (by decide) ?_
  refine lv_iadd hx hb dL_law_810 ?_
  refine va_sld (i := i + 2) hx hb hX hbl hbA hS (lw_in hi (by decide)) dL_law_811 ?_
  refine tq_i (w := w2) hw2 ?_
  refine lv_aload_n hx hb dL_law_812 rfl (lv_at hl 4 rfl) ?_
  refine lv_iload hx hb dL_law_813 (lv_at hl 0 rfl) ?_
  refine lv_iconst (v := 3) hx hb dL_law_815 (by decide) ?_
  refine lv_iadd hx hb dL_law_816 ?_
  refine va_sld (i := i + 3) hx hb hX hbl hbA hS (lw_in hi (by decide)) dL_law_817 ?_
  refine tq_i (w := w3) hw3 ?_
  obtain ⟨⟨r7, S_8, LM_9⟩, hcm, hq10⟩ := (Q_rest S LM w1 w2 w3 jx)
  replace hP : va_P G vwCl (wM cA aa S LM ++ (wX cA xa ka ra na ia ua va ca za pa qa X_2 K R P L_3 P2 L2 Tn Ti Tu_4 Tv C Z q0 q1 q2_5 q3 q4 q5 ++ [(oa, .inl (cA 2, 1, .inr (.inl og)))])) H := tw_P wl_rot hP
  replace hD : va_D A (wM cA aa S LM ++ (wX cA xa ka ra na ia ua va ca za pa qa X_2 K R P L_3 P2 L2 Tn Ti Tu_4 Tv C Z q0 q1 q2_5 q3 q4 q5 ++ [(oa, .inl (cA 2, 1, .inr (.inl og)))])) := tw_D wl_rot hD
  refine lw_ci (As := [.int w1, .int w2, .int w3]) (rest := []) hP hD hS hA hK hN ⟨hx, hb, hml, hown, hT⟩ (c_X8_rest l G cA H.size aa S LM w1 w2 w3 r7 S_8 LM_9 hcm) (cwV 3 hT (tq_gV kw_51_5 kw_51_6 kw_51_7 kw_1_5 kw_51_8) rfl rfl rfl (by decide +kernel) ⟨Nat.le_of_ble_eq_true rfl, Nat.le_of_ble_eq_true rfl⟩) (wM_rec hK hP) rfl hl.1 rfl (lv_room (Nat.le_of_ble_eq_true rfl)) dL_law_818 hfit (fun _ _ H locs z9 hP hD hS => ?_)
  have z9 := z9.symm
  subst z9
  replace hP : va_P G vwCl (wX cA xa ka ra na ia ua va ca za pa qa X_2 K R P L_3 P2 L2 Tn Ti Tu_4 Tv C Z q0 q1 q2_5 q3 q4 q5 ++ (wM cA aa S_8 LM_9 ++ [(oa, .inl (cA 2, 1, .inr (.inl og)))])) H := tw_P wl_rot hP
  replace hD : va_D A (wX cA xa ka ra na ia ua va ca za pa qa X_2 K R P L_3 P2 L2 Tn Ti Tu_4 Tv C Z q0 q1 q2_5 q3 q4 q5 ++ (wM cA aa S_8 LM_9 ++ [(oa, .inl (cA 2, 1, .inr (.inl og)))])) := tw_D wl_rot hD
  refine lv_pop hx hb dL_law_821 rfl ?_
  refine lv_goto (tgt := 1217) hx hb dL_law_822 (by decide) ?_
  exact hk H locs ls ⟨xa, ka, ra, na, ia, ua, va, ca, za, pa, qa, aa, X_2, K, R, P, L_3, P2, L2, Tn, Ti, Tu_4, Tv, C, Z, q0, q1, q2_5, q3, q4, q5, S_8, LM_9, og, rfl, rfl, ⟨hq6.1.1, bK, bR, bP, bP2, bTn, bTi, hq6.1.2, bTv, bC, bZ, dz, e0, e4, e5, (fun hz => e1 (fun h9 => hz ((congrFun hq6.2 4).trans h9)))⟩, hq10.1, (E_rest hok jx hrel hcx hcm), hP, hD⟩ hS hl
set_option maxHeartbeats 4000000 in
set_option maxRecDepth 100000 in
theorem lc_18 {p : Program} {e : Env} {s : State} {m : MethodId} {below : List Frame} {meth : Method} {c : Code} (l : Launch) {b Ln : Nat} {xs : Nat → Int32} (C0 : lw_At p s m meth c b Ln xs) (G : va_G) (cA : Nat → ClassId) {A : Nat → Prop} (hAe : A = fun q : Nat => s.heap.size ≤ q) (hK : va_K G vwCl (tyL cA) s) (hN : tqN s) {bA : Nat} (hB : tqB bA A s s.heap) {H : Heap} {locs : List Loc} {ls : Array Slot} {kc ks : Nat} (hfit : kc ≤ 601024 ∧ ks ≤ 7293034) {i : Int32} (hi : 0 ≤ i.toInt ∧ i.toInt + 6 ≤ (Ln : Int)) (hLn : Ln ≤ 3072) {x0 mm oa : Nat} (hI : lwP G cA A x0 mm oa H) (hS : va_S A s.heap H locs) (hl : lv_has ls 7 [(4, .int i), (3, .ref oa), (2, .ref mm), (1, .ref x0), (0, .ref b)]) (hk : (∀ (H : Heap) (locs : List Loc) (ls : Array Slot), lwP G cA A x0 mm oa H → va_S A s.heap H locs → lv_has ls 7 [(4, .int i), (3, .ref oa), (2, .ref mm), (1, .ref x0), (0, .ref b)] → W p l e room_1 s m #[Value.ref b] below meth c H locs kc ks (lw_Z below #[Value.ref b] s) (F0 m 1217 ls []))) : W p l e room_1 s m #[Value.ref b] below meth c H locs kc ks (lw_Z below #[Value.ref b] s) (F0 m 825 ls []) := by
  obtain ⟨hx, hb, hr, hml, hown, hts, hX, hbl, hlocks, hgv⟩ := id C0
  have hT : ∀ v ∈ T0, v.before #[Value.ref b] s = true := fun v h => hts v (tq_law_in v h)
  have hown : s.vm.findClass RL = some m.cls := hown
  have hA : ∀ q : Nat, s.heap.size ≤ q → A q := fun q h => by rw [hAe]; exact h
  have hbA : ¬ A b := by rw [hAe]; exact Nat.not_le.mpr hbl
  obtain ⟨xa, ka, ra, na, ia, ua, va, ca, za, pa, qa, aa, X, K, R, P, L, P2, L2, Tn, Ti, Tu, Tv, C, Z, q0, q1, q2, q3, q4, q5, S, LM, og, rfl, rfl, hok, jx, hrel, hP, hD⟩ := hI
  obtain ⟨bX, bK, bR, bP, bP2, bTn, bTi, bTu, bTv, bC, bZ, dz, e0, e4, e5, e1⟩ := id hok
  obtain ⟨w1, hw1⟩ : ∃ z, xs (i + 1).toNatClampNeg = z := ⟨_, rfl⟩
  obtain ⟨w2, hw2⟩ : ∃ z, xs (i + 2).toNatClampNeg = z := ⟨_, rfl⟩
  obtain ⟨w3, hw3⟩ : ∃ z, xs (i + 3).toNatClampNeg = z := ⟨_, rfl⟩
  obtain ⟨w4, hw4⟩ : ∃ z, xs (i + 4).toNatClampNeg = z := ⟨_, rfl⟩
  obtain ⟨w5, hw5⟩ : ∃ z, xs (i + 5).toNatClampNeg = z := ⟨_, rfl⟩
  refine lv_aload_n hx hb dL_law_825 rfl (lv_at hl 3 rfl) ?_
  refine lv_aload_n hx hb dL_law_826 rfl (lv_at hl 4 rfl) ?_
  refine lv_iload hx hb dL_law_827 (lv_at hl 0 rfl) ?_
  refine lv_iconst (v := 1) hx hb dL_law_829 (by decide) ?_
  refine lv_iadd hx hb dL_law_830 ?_
  refine va_sld (i := i + 1) hx hb hX hbl hbA hS (lw_in hi (by decide)) dL_law_831 ?_
  refine tq_i (w := w1) hw1 ?_
  obtain ⟨⟨r1, L_2, Tu_3, q2_4⟩, hcx, hq5⟩ := (t_X7_byRule pa qa P L Tn Tu q0 q2 w1 bP bTn bTu e0)
  refine lw_ci (As := [.int w1]) (rest := []) hP hD hS hA hK hN ⟨hx, hb, hml, hown, hT⟩ (c_X7_byRule l G cA H.size xa ka ra na ia ua va ca za pa qa X K R P L P2 L2 Tn Ti Tu Tv C Z q0 q1 q2 q3 q4 q5 w1 r1 L_2 Tu_3 q2_4 hcx) (cwV 1 hT (tq_gV kw_51_9 kw_51_10 kw_51_11 kw_1_2 kw_51_12) rfl rfl rfl (by decide +kernel) ⟨Nat.le_of_ble_eq_true rfl, Nat.le_of_ble_eq_true rfl⟩) (wX_rec hK hP) rfl hl.1 rfl (lv_room (Nat.le_of_ble_eq_true rfl)) dL_law_832 hfit (fun _ _ H locs z9 hP hD hS => ?_)
  have z9 := z9.symm
  subst z9
  refine lv_pop hx hb dL_law_835 rfl ?_
  refine lv_aload_n hx hb dL_law_836 rfl (lv_at hl 2 rfl) ?_
  refine lv_aload_n hx hb dL_law_837 rfl (lv_at hl 4 rfl) ?_
  refine lv_iload hx hb dL_law_838 (lv_at hl 0 rfl) ?_
  refine lv_iconst (v := 1) hx hb dL_law_840 (by decide) ?_
  refine lv_iadd hx hb dL_law_841 ?_
  refine va_sld (i := i + 1) hx hb hX hbl hbA hS (lw_in hi (by decide)) dL_law_842 ?_
  refine tq_i (w := w1) hw1 ?_
  obtain ⟨⟨r6, S_7, LM_8⟩, hcm, hq9⟩ := (Q_byRule S LM w1 jx)
  replace hP : va_P G vwCl (wM cA aa S LM ++ (wX cA xa ka ra na ia ua va ca za pa qa X K R P L_2 P2 L2 Tn Ti Tu_3 Tv C Z q0 q1 q2_4 q3 q4 q5 ++ [(oa, .inl (cA 2, 1, .inr (.inl og)))])) H := tw_P wl_rot hP
  replace hD : va_D A (wM cA aa S LM ++ (wX cA xa ka ra na ia ua va ca za pa qa X K R P L_2 P2 L2 Tn Ti Tu_3 Tv C Z q0 q1 q2_4 q3 q4 q5 ++ [(oa, .inl (cA 2, 1, .inr (.inl og)))])) := tw_D wl_rot hD
  refine lw_ci (As := [.int w1]) (rest := []) hP hD hS hA hK hN ⟨hx, hb, hml, hown, hT⟩ (c_X8_byRule l G cA H.size aa S LM w1 r6 S_7 LM_8 hcm) (cwV 1 hT (tq_gV kw_51_14 kw_51_15 kw_51_16 kw_1_5 kw_51_17) rfl rfl rfl (by decide +kernel) ⟨Nat.le_of_ble_eq_true rfl, Nat.le_of_ble_eq_true rfl⟩) (wM_rec hK hP) rfl hl.1 rfl (lv_room (Nat.le_of_ble_eq_true rfl)) dL_law_843 hfit (fun _ _ H locs z9 hP hD hS => ?_)
  have z9 := z9.symm
  subst z9
  replace hP : va_P G vwCl (wX cA xa ka ra na ia ua va ca za pa qa X K R P L_2 P2 L2 Tn Ti Tu_3 Tv C Z q0 q1 q2_4 q3 q4 q5 ++ (wM cA aa S_7 LM_8 ++ [(oa, .inl (cA 2, 1, .inr (.inl og)))])) H := tw_P wl_rot hP
  replace hD : va_D A (wX cA xa ka ra na ia ua va ca za pa qa X K R P L_2 P2 L2 Tn Ti Tu_3 Tv C Z q0 q1 q2_4 q3 q4 q5 ++ (wM cA aa S_7 LM_8 ++ [(oa, .inl (cA 2, 1, .inr (.inl og)))])) := tw_D wl_rot hD
  refine lv_pop hx hb dL_law_846 rfl ?_
  refine lv_goto (tgt := 1217) hx hb dL_law_847 (by decide) ?_
  exact hk H locs ls ⟨xa, ka, ra, na, ia, ua, va, ca, za, pa, qa, aa, X, K, R, P, L_2, P2, L2, Tn, Ti, Tu_3, Tv, C, Z, q0, q1, q2_4, q3, q4, q5, S_7, LM_8, og, rfl, rfl, ⟨bX, bK, bR, bP, bP2, bTn, bTi, hq5, bTv, bC, bZ, dz, e0, e4, e5, e1⟩, hq9.1, (E_byRule hok jx hrel hcx hcm), hP, hD⟩ hS hl
set_option maxHeartbeats 4000000 in
set_option maxRecDepth 100000 in
theorem lc_19 {p : Program} {e : Env} {s : State} {m : MethodId} {below : List Frame} {meth : Method} {c : Code} (l : Launch) {b Ln : Nat} {xs : Nat → Int32} (C0 : lw_At p s m meth c b Ln xs) (G : va_G) (cA : Nat → ClassId) {A : Nat → Prop} (hAe : A = fun q : Nat => s.heap.size ≤ q) (hK : va_K G vwCl (tyL cA) s) (hN : tqN s) {bA : Nat} (hB : tqB bA A s s.heap) {H : Heap} {locs : List Loc} {ls : Array Slot} {kc ks : Nat} (hfit : kc ≤ 601024 ∧ ks ≤ 7293034) {i : Int32} (hi : 0 ≤ i.toInt ∧ i.toInt + 6 ≤ (Ln : Int)) (hLn : Ln ≤ 3072) {x0 mm oa : Nat} (hI : lwP G cA A x0 mm oa H) (hS : va_S A s.heap H locs) (hl : lv_has ls 7 [(4, .int i), (3, .ref oa), (2, .ref mm), (1, .ref x0), (0, .ref b)]) (hk : (∀ (H : Heap) (locs : List Loc) (ls : Array Slot), lwP G cA A x0 mm oa H → va_S A s.heap H locs → lv_has ls 7 [(4, .int i), (3, .ref oa), (2, .ref mm), (1, .ref x0), (0, .ref b)] → W p l e room_1 s m #[Value.ref b] below meth c H locs kc ks (lw_Z below #[Value.ref b] s) (F0 m 1217 ls []))) : W p l e room_1 s m #[Value.ref b] below meth c H locs kc ks (lw_Z below #[Value.ref b] s) (F0 m 850 ls []) := by
  obtain ⟨hx, hb, hr, hml, hown, hts, hX, hbl, hlocks, hgv⟩ := id C0
  have hT : ∀ v ∈ T0, v.before #[Value.ref b] s = true := fun v h => hts v (tq_law_in v h)
  have hown : s.vm.findClass RL = some m.cls := hown
  have hA : ∀ q : Nat, s.heap.size ≤ q → A q := fun q h => by rw [hAe]; exact h
  have hbA : ¬ A b := by rw [hAe]; exact Nat.not_le.mpr hbl
  obtain ⟨xa, ka, ra, na, ia, ua, va, ca, za, pa, qa, aa, X, K, R, P, L, P2, L2, Tn, Ti, Tu, Tv, C, Z, q0, q1, q2, q3, q4, q5, S, LM, og, rfl, rfl, hok, jx, hrel, hP, hD⟩ := hI
  obtain ⟨bX, bK, bR, bP, bP2, bTn, bTi, bTu, bTv, bC, bZ, dz, e0, e4, e5, e1⟩ := id hok
  obtain ⟨w1, hw1⟩ : ∃ z, xs (i + 1).toNatClampNeg = z := ⟨_, rfl⟩
  obtain ⟨w2, hw2⟩ : ∃ z, xs (i + 2).toNatClampNeg = z := ⟨_, rfl⟩
  obtain ⟨w3, hw3⟩ : ∃ z, xs (i + 3).toNatClampNeg = z := ⟨_, rfl⟩
  obtain ⟨w4, hw4⟩ : ∃ z, xs (i + 4).toNatClampNeg = z := ⟨_, rfl⟩
  obtain ⟨w5, hw5⟩ : ∃ z, xs (i + 5).toNatClampNeg = z := ⟨_, rfl⟩
  refine lv_aload_n hx hb dL_law_850 rfl (lv_at hl 3 rfl) ?_
  obtain ⟨⟨r1, L_2, Tu_3, q2_4⟩, hcx, hq5⟩ := (t_X7_bestRule pa qa P L Tn Tu q0 q2 bP bTn bTu e0)
  refine lw_ci (As := []) (rest := []) hP hD hS hA hK hN ⟨hx, hb, hml, hown, hT⟩ (c_X7_bestRule l G cA H.size xa ka ra na ia ua va ca za pa qa X K R P L P2 L2 Tn Ti Tu Tv C Z q0 q1 q2 q3 q4 q5 r1 L_2 Tu_3 q2_4 hcx) (cwV 0 hT (tq_gV kw_51_22 kw_51_23 kw_52_0 kw_1_2 kw_52_1) rfl rfl rfl (by decide +kernel) ⟨Nat.le_of_ble_eq_true rfl, Nat.le_of_ble_eq_true rfl⟩) (wX_rec hK hP) rfl hl.1 rfl (lv_room (Nat.le_of_ble_eq_true rfl)) dL_law_851 hfit (fun _ _ H locs z9 hP hD hS => ?_)
  have z9 := z9.symm
  subst z9
  refine lv_pop hx hb dL_law_854 rfl ?_
  refine lv_aload_n hx hb dL_law_855 rfl (lv_at hl 2 rfl) ?_
  obtain ⟨⟨r6, S_7, LM_8⟩, hcm, hq9⟩ := (Q_bestRule S LM jx)
  replace hP : va_P G vwCl (wM cA aa S LM ++ (wX cA xa ka ra na ia ua va ca za pa qa X K R P L_2 P2 L2 Tn Ti Tu_3 Tv C Z q0 q1 q2_4 q3 q4 q5 ++ [(oa, .inl (cA 2, 1, .inr (.inl og)))])) H := tw_P wl_rot hP
  replace hD : va_D A (wM cA aa S LM ++ (wX cA xa ka ra na ia ua va ca za pa qa X K R P L_2 P2 L2 Tn Ti Tu_3 Tv C Z q0 q1 q2_4 q3 q4 q5 ++ [(oa, .inl (cA 2, 1, .inr (.inl og)))])) := tw_D wl_rot hD
  refine lw_ci (As := []) (rest := []) hP hD hS hA hK hN ⟨hx, hb, hml, hown, hT⟩ (c_X8_bestRule l G cA H.size aa S LM r6 S_7 LM_8 hcm) (cwV 0 hT (tq_gV kw_52_3 kw_52_4 kw_52_5 kw_1_5 kw_52_6) rfl rfl rfl (by decide +kernel) ⟨Nat.le_of_ble_eq_true rfl, Nat.le_of_ble_eq_true rfl⟩) (wM_rec hK hP) rfl hl.1 rfl (lv_room (Nat.le_of_ble_eq_true rfl)) dL_law_856 hfit (fun _ _ H locs z9 hP hD hS => ?_)
  have z9 := z9.symm
  subst z9
  replace hP : va_P G vwCl (wX cA xa ka ra na ia ua va ca za pa qa X K R P L_2 P2 L2 Tn Ti Tu_3 Tv C Z q0 q1 q2_4 q3 q4 q5 ++ (wM cA aa S_7 LM_8 ++ [(oa, .inl (cA 2, 1, .inr (.inl og)))])) H := tw_P wl_rot hP
  replace hD : va_D A (wX cA xa ka ra na ia ua va ca za pa qa X K R P L_2 P2 L2 Tn Ti Tu_3 Tv C Z q0 q1 q2_4 q3 q4 q5 ++ (wM cA aa S_7 LM_8 ++ [(oa, .inl (cA 2, 1, .inr (.inl og)))])) := tw_D wl_rot hD
  refine lv_pop hx hb dL_law_859 rfl ?_
  refine lv_goto (tgt := 1217) hx hb dL_law_860 (by decide) ?_
  exact hk H locs ls ⟨xa, ka, ra, na, ia, ua, va, ca, za, pa, qa, aa, X, K, R, P, L_2, P2, L2, Tn, Ti, Tu_3, Tv, C, Z, q0, q1, q2_4, q3, q4, q5, S_7, LM_8, og, rfl, rfl, ⟨bX, bK, bR, bP, bP2, bTn, bTi, hq5, bTv, bC, bZ, dz, e0, e4, e5, e1⟩, hq9.1, (E_bestRule hok jx hrel hcx hcm), hP, hD⟩ hS hl
set_option maxHeartbeats 4000000 in
set_option maxRecDepth 100000 in
theorem lc_20 {p : Program} {e : Env} {s : State} {m : MethodId} {below : List Frame} {meth : Method} {c : Code} (l : Launch) {b Ln : Nat} {xs : Nat → Int32} (C0 : lw_At p s m meth c b Ln xs) (G : va_G) (cA : Nat → ClassId) {A : Nat → Prop} (hAe : A = fun q : Nat => s.heap.size ≤ q) (hK : va_K G vwCl (tyL cA) s) (hN : tqN s) {bA : Nat} (hB : tqB bA A s s.heap) {H : Heap} {locs : List Loc} {ls : Array Slot} {kc ks : Nat} (hfit : kc ≤ 601024 ∧ ks ≤ 7293034) {i : Int32} (hi : 0 ≤ i.toInt ∧ i.toInt + 6 ≤ (Ln : Int)) (hLn : Ln ≤ 3072) {x0 mm oa : Nat} (hI : lwP G cA A x0 mm oa H) (hS : va_S A s.heap H locs) (hl : lv_has ls 7 [(4, .int i), (3, .ref oa), (2, .ref mm), (1, .ref x0), (0, .ref b)]) (hk : (∀ (H : Heap) (locs : List Loc) (ls : Array Slot), lwP G cA A x0 mm oa H → va_S A s.heap H locs → lv_has ls 7 [(4, .int i), (3, .ref oa), (2, .ref mm), (1, .ref x0), (0, .ref b)] → W p l e room_1 s m #[Value.ref b] below meth c H locs kc ks (lw_Z below #[Value.ref b] s) (F0 m 1217 ls []))) : W p l e room_1 s m #[Value.ref b] below meth c H locs kc ks (lw_Z below #[Value.ref b] s) (F0 m 863 ls []) := by
  obtain ⟨hx, hb, hr, hml, hown, hts, hX, hbl, hlocks, hgv⟩ := id C0
  have hT : ∀ v ∈ T0, v.before #[Value.ref b] s = true := fun v h => hts v (tq_law_in v h)
  have hown : s.vm.findClass RL = some m.cls := hown
  have hA : ∀ q : Nat, s.heap.size ≤ q → A q := fun q h => by rw [hAe]; exact h
  have hbA : ¬ A b := by rw [hAe]; exact Nat.not_le.mpr hbl
  obtain ⟨xa, ka, ra, na, ia, ua, va, ca, za, pa, qa, aa, X, K, R, P, L, P2, L2, Tn, Ti, Tu, Tv, C, Z, q0, q1, q2, q3, q4, q5, S, LM, og, rfl, rfl, hok, jx, hrel, hP, hD⟩ := hI
  obtain ⟨bX, bK, bR, bP, bP2, bTn, bTi, bTu, bTv, bC, bZ, dz, e0, e4, e5, e1⟩ := id hok
  obtain ⟨w1, hw1⟩ : ∃ z, xs (i + 1).toNatClampNeg = z := ⟨_, rfl⟩
  obtain ⟨w2, hw2⟩ : ∃ z, xs (i + 2).toNatClampNeg = z := ⟨_, rfl⟩
  obtain ⟨w3, hw3⟩ : ∃ z, xs (i + 3).toNatClampNeg = z := ⟨_, rfl⟩
  obtain ⟨w4, hw4⟩ : ∃ z, xs (i + 4).toNatClampNeg = z := ⟨_, rfl⟩
  obtain ⟨w5, hw5⟩ : ∃ z, xs (i + 5).toNatClampNeg = z := ⟨_, rfl⟩
  refine lv_aload_n hx hb dL_law_863 rfl (lv_at hl 3 rfl) ?_
  refine lv_aload_n hx hb dL_law_864 rfl (lv_at hl 4 rfl) ?_
  refine lv_iload hx hb dL_law_865 (lv_at hl 0 rfl) ?_
  refine lv_iconst (v := 1) hx hb dL_law_867 (by decide) ?_
  refine lv_iadd hx hb dL_law_868 ?_
  refine va_sld (i := i + 1) hx hb hX hbl hbA hS (lw_in hi (by decide)) dL_law_869 ?_
  refine tq_i (w := w1) hw1 ?_
  obtain ⟨⟨r1, L_2, Tu_3, Tv_4, q2_5, q3_6⟩, hcx, hq7⟩ := (t_X7_missed pa qa P L Tn Tu Tv q0 q2 q3 q4 w1 bP bTn bTu bTv e0 e4)
  refine lw_ci (As := [.int w1]) (rest := []) hP hD hS hA hK hN ⟨hx, hb, hml, hown, hT⟩ (c_X7_missed l G cA H.size xa ka ra na ia ua va ca za pa qa X K R P L P2 L2 Tn Ti Tu Tv C Z q0 q1 q2 q3 q4 q5 w1 r1 L_2 Tu_3 Tv_4 q2_5 q3_6 hcx) (cwV 1 hT (tq_gV kw_52_7 kw_52_8 kw_52_9 kw_1_2 kw_52_10) rfl rfl rfl (by decide +kernel) ⟨Nat.le_of_ble_eq_true rfl, Nat.le_of_ble_eq_true rfl⟩) (wX_rec hK hP) rfl hl.1 rfl (lv_room (Nat.le_of_ble_eq_true rfl)) dL_law_870 hfit (fun _ _ H locs z9 hP hD hS => ?_)
  have z9 := z9.symm
  subst z9
  refine lv_pop hx hb dL_law_873 rfl ?_
  refine lv_aload_n hx hb dL_law_874 rfl (lv_at hl 2 rfl) ?_
  refine lv_aload_n hx hb dL_law_875 rfl (lv_at hl 4 rfl) ?_
  refine lv_iload hx hb dL_law_876 (lv_at hl 0 rfl) ?_
  refine lv_iconst (v := 1) hx hb dL_law_878 (by decide) ?_
  refine lv_iadd hx hb dL_law_879 ?_
  refine va_sld (i := i + 1) hx hb hX hbl hbA hS (lw_in hi (by decide)) dL_law_880 ?_
  refine tq_i (w := w1) hw1 ?_
  obtain ⟨⟨r8, S_9, LM_10⟩, hcm, hq11⟩ := (Q_missed S LM w1 jx)
  replace hP : va_P G vwCl (wM cA aa S LM ++ (wX cA xa ka ra na ia ua va ca za pa qa X K R P L_2 P2 L2 Tn Ti Tu_3 Tv_4 C Z q0 q1 q2_5 q3_6 q4 q5 ++ [(oa, .inl (cA 2, 1, .inr (.inl og)))])) H := tw_P wl_rot hP
  replace hD : va_D A (wM cA aa S LM ++ (wX cA xa ka ra na ia ua va ca za pa qa X K R P L_2 P2 L2 Tn Ti Tu_3 Tv_4 C Z q0 q1 q2_5 q3_6 q4 q5 ++ [(oa, .inl (cA 2, 1, .inr (.inl og)))])) := tw_D wl_rot hD
  refine lw_ci (As := [.int w1]) (rest := []) hP hD hS hA hK hN ⟨hx, hb, hml, hown, hT⟩ (c_X8_missed l G cA H.size aa S LM w1 r8 S_9 LM_10 hcm) (cwV 1 hT (tq_gV kw_52_15 kw_52_16 kw_52_17 kw_1_5 kw_52_18) rfl rfl rfl (by decide +kernel) ⟨Nat.le_of_ble_eq_true rfl, Nat.le_of_ble_eq_true rfl⟩) (wM_rec hK hP) rfl hl.1 rfl (lv_room (Nat.le_of_ble_eq_true rfl)) dL_law_881 hfit (fun _ _ H locs z9 hP hD hS => ?_)
  have z9 := z9.symm
  subst z9
  replace hP : va_P G vwCl (wX cA xa ka ra na ia ua va ca za pa qa X K R P L_2 P2 L2 Tn Ti Tu_3 Tv_4 C Z q0 q1 q2_5 q3_6 q4 q5 ++ (wM cA aa S_9 LM_10 ++ [(oa, .inl (cA 2, 1, .inr (.inl og)))])) H := tw_P wl_rot hP
  replace hD : va_D A (wX cA xa ka ra na ia ua va ca za pa qa X K R P L_2 P2 L2 Tn Ti Tu_3 Tv_4 C Z q0 q1 q2_5 q3_6 q4 q5 ++ (wM cA aa S_9 LM_10 ++ [(oa, .inl (cA 2, 1, .inr (.inl og)))])) := tw_D wl_rot hD
  refine lv_pop hx hb dL_law_884 rfl ?_
  refine lv_goto (tgt := 1217) hx hb dL_law_885 (by decide) ?_
  exact hk H locs ls ⟨xa, ka, ra, na, ia, ua, va, ca, za, pa, qa, aa, X, K, R, P, L_2, P2, L2, Tn, Ti, Tu_3, Tv_4, C, Z, q0, q1, q2_5, q3_6, q4, q5, S_9, LM_10, og, rfl, rfl, ⟨bX, bK, bR, bP, bP2, bTn, bTi, hq7.1, hq7.2, bC, bZ, dz, e0, e4, e5, e1⟩, hq11.1, (E_missed hok jx hrel hcx hcm), hP, hD⟩ hS hl
set_option maxHeartbeats 4000000 in
set_option maxRecDepth 100000 in
theorem lc_21 {p : Program} {e : Env} {s : State} {m : MethodId} {below : List Frame} {meth : Method} {c : Code} (l : Launch) {b Ln : Nat} {xs : Nat → Int32} (C0 : lw_At p s m meth c b Ln xs) (G : va_G) (cA : Nat → ClassId) {A : Nat → Prop} (hAe : A = fun q : Nat => s.heap.size ≤ q) (hK : va_K G vwCl (tyL cA) s) (hN : tqN s) {bA : Nat} (hB : tqB bA A s s.heap) {H : Heap} {locs : List Loc} {ls : Array Slot} {kc ks : Nat} (hfit : kc ≤ 601024 ∧ ks ≤ 7293034) {i : Int32} (hi : 0 ≤ i.toInt ∧ i.toInt + 6 ≤ (Ln : Int)) (hLn : Ln ≤ 3072) {x0 mm oa : Nat} (hI : lwP G cA A x0 mm oa H) (hS : va_S A s.heap H locs) (hl : lv_has ls 7 [(4, .int i), (3, .ref oa), (2, .ref mm), (1, .ref x0), (0, .ref b)]) (hk : (∀ (H : Heap) (locs : List Loc) (ls : Array Slot), lwP G cA A x0 mm oa H → va_S A s.heap H locs → lv_has ls 7 [(4, .int i), (3, .ref oa), (2, .ref mm), (1, .ref x0), (0, .ref b)] → W p l e room_1 s m #[Value.ref b] below meth c H locs kc ks (lw_Z below #[Value.ref b] s) (F0 m 1217 ls []))) : W p l e room_1 s m #[Value.ref b] below meth c H locs kc ks (lw_Z below #[Value.ref b] s) (F0 m 888 ls []) := by
  obtain ⟨hx, hb, hr, hml, hown, hts, hX, hbl, hlocks, hgv⟩ := id C0
  have hT : ∀ v ∈ T0, v.before #[Value.ref b] s = true := fun v h => hts v (tq_law_in v h)
  have hown : s.vm.findClass RL = some m.cls := hown
  have hA : ∀ q : Nat, s.heap.size ≤ q → A q := fun q h => by rw [hAe]; exact h
  have hbA : ¬ A b := by rw [hAe]; exact Nat.not_le.mpr hbl
  obtain ⟨xa, ka, ra, na, ia, ua, va, ca, za, pa, qa, aa, X, K, R, P, L, P2, L2, Tn, Ti, Tu, Tv, C, Z, q0, q1, q2, q3, q4, q5, S, LM, og, rfl, rfl, hok, jx, hrel, hP, hD⟩ := hI
  obtain ⟨bX, bK, bR, bP, bP2, bTn, bTi, bTu, bTv, bC, bZ, dz, e0, e4, e5, e1⟩ := id hok
  obtain ⟨w1, hw1⟩ : ∃ z, xs (i + 1).toNatClampNeg = z := ⟨_, rfl⟩
  obtain ⟨w2, hw2⟩ : ∃ z, xs (i + 2).toNatClampNeg = z := ⟨_, rfl⟩
  obtain ⟨w3, hw3⟩ : ∃ z, xs (i + 3).toNatClampNeg = z := ⟨_, rfl⟩
  obtain ⟨w4, hw4⟩ : ∃ z, xs (i + 4).toNatClampNeg = z := ⟨_, rfl⟩
  obtain ⟨w5, hw5⟩ : ∃ z, xs (i + 5).toNatClampNeg = z := ⟨_, rfl⟩
  refine lv_aload_n hx hb dL_law_888 rfl (lv_at hl 3 rfl) ?_
  obtain ⟨⟨r1, L_2, Tu_3, q2_4⟩, hcx, hq5⟩ := (t_X7_falls pa qa P L Tn Tu q0 q2 q4 bP bTn bTu e0 e4)
  refine lw_ci (As := []) (rest := []) hP hD hS hA hK hN ⟨hx, hb, hml, hown, hT⟩ (c_X7_falls l G cA H.size xa ka ra na ia ua va ca za pa qa X K R P L P2 L2 Tn Ti Tu Tv C Z q0 q1 q2 q3 q4 q5 r1 L_2 Tu_3 q2_4 hcx) (cwV 0 hT (tq_gV kw_52_19 kw_52_20 kw_52_21 kw_1_2 kw_52_22) rfl rfl rfl (by decide +kernel) ⟨Nat.le_of_ble_eq_true rfl, Nat.le_of_ble_eq_true rfl⟩) (wX_rec hK hP) rfl hl.1 rfl (lv_room (Nat.le_of_ble_eq_true rfl)) dL_law_889 hfit (fun _ _ H locs z9 hP hD hS => ?_)
  have z9 := z9.symm
  subst z9
  refine lv_pop hx hb dL_law_892 rfl ?_
  refine lv_aload_n hx hb dL_law_893 rfl (lv_at hl 2 rfl) ?_
  obtain ⟨⟨r6, S_7, LM_8⟩, hcm, hq9⟩ := (Q_falls S LM jx)
  replace hP : va_P G vwCl (wM cA aa S LM ++ (wX cA xa ka ra na ia ua va ca za pa qa X K R P L_2 P2 L2 Tn Ti Tu_3 Tv C Z q0 q1 q2_4 q3 q4 q5 ++ [(oa, .inl (cA 2, 1, .inr (.inl og)))])) H := tw_P wl_rot hP
  replace hD : va_D A (wM cA aa S LM ++ (wX cA xa ka ra na ia ua va ca za pa qa X K R P L_2 P2 L2 Tn Ti Tu_3 Tv C Z q0 q1 q2_4 q3 q4 q5 ++ [(oa, .inl (cA 2, 1, .inr (.inl og)))])) := tw_D wl_rot hD
  refine lw_ci (As := []) (rest := []) hP hD hS hA hK hN ⟨hx, hb, hml, hown, hT⟩ (c_X8_falls l G cA H.size aa S LM r6 S_7 LM_8 hcm) (cwV 0 hT (tq_gV kw_53_0 kw_53_1 kw_53_2 kw_1_5 kw_53_3) rfl rfl rfl (by decide +kernel) ⟨Nat.le_of_ble_eq_true rfl, Nat.le_of_ble_eq_true rfl⟩) (wM_rec hK hP) rfl hl.1 rfl (lv_room (Nat.le_of_ble_eq_true rfl)) dL_law_894 hfit (fun _ _ H locs z9 hP hD hS => ?_)
  have z9 := z9.symm
  subst z9
  replace hP : va_P G vwCl (wX cA xa ka ra na ia ua va ca za pa qa X K R P L_2 P2 L2 Tn Ti Tu_3 Tv C Z q0 q1 q2_4 q3 q4 q5 ++ (wM cA aa S_7 LM_8 ++ [(oa, .inl (cA 2, 1, .inr (.inl og)))])) H := tw_P wl_rot hP
  replace hD : va_D A (wX cA xa ka ra na ia ua va ca za pa qa X K R P L_2 P2 L2 Tn Ti Tu_3 Tv C Z q0 q1 q2_4 q3 q4 q5 ++ (wM cA aa S_7 LM_8 ++ [(oa, .inl (cA 2, 1, .inr (.inl og)))])) := tw_D wl_rot hD
  refine lv_pop hx hb dL_law_897 rfl ?_
  refine lv_goto (tgt := 1217) hx hb dL_law_898 (by decide) ?_
  exact hk H locs ls ⟨xa, ka, ra, na, ia, ua, va, ca, za, pa, qa, aa, X, K, R, P, L_2, P2, L2, Tn, Ti, Tu_3, Tv, C, Z, q0, q1, q2_4, q3, q4, q5, S_7, LM_8, og, rfl, rfl, ⟨bX, bK, bR, bP, bP2, bTn, bTi, hq5, bTv, bC, bZ, dz, e0, e4, e5, e1⟩, hq9.1, (E_falls hok jx hrel hcx hcm), hP, hD⟩ hS hl
set_option maxHeartbeats 4000000 in
set_option maxRecDepth 100000 in
theorem lc_22 {p : Program} {e : Env} {s : State} {m : MethodId} {below : List Frame} {meth : Method} {c : Code} (l : Launch) {b Ln : Nat} {xs : Nat → Int32} (C0 : lw_At p s m meth c b Ln xs) (G : va_G) (cA : Nat → ClassId) {A : Nat → Prop} (hAe : A = fun q : Nat => s.heap.size ≤ q) (hK : va_K G vwCl (tyL cA) s) (hN : tqN s) {bA : Nat} (hB : tqB bA A s s.heap) {H : Heap} {locs : List Loc} {ls : Array Slot} {kc ks : Nat} (hfit : kc ≤ 601024 ∧ ks ≤ 7293034) {i : Int32} (hi : 0 ≤ i.toInt ∧ i.toInt + 6 ≤ (Ln : Int)) (hLn : Ln ≤ 3072) {x0 mm oa : Nat} (hI : lwP G cA A x0 mm oa H) (hS : va_S A s.heap H locs) (hl : lv_has ls 7 [(4, .int i), (3, .ref oa), (2, .ref mm), (1, .ref x0), (0, .ref b)]) (hk : (∀ (H : Heap) (locs : List Loc) (ls : Array Slot), lwP G cA A x0 mm oa H → va_S A s.heap H locs → lv_has ls 7 [(4, .int i), (3, .ref oa), (2, .ref mm), (1, .ref x0), (0, .ref b)] → W p l e room_1 s m #[Value.ref b] below meth c H locs kc ks (lw_Z below #[Value.ref b] s) (F0 m 1217 ls []))) : W p l e room_1 s m #[Value.ref b] below meth c H locs kc ks (lw_Z below #[Value.ref b] s) (F0 m 901 ls []) := by
  obtain ⟨hx, hb, hr, hml, hown, hts, hX, hbl, hlocks, hgv⟩ := id C0
  have hT : ∀ v ∈ T0, v.before #[Value.ref b] s = true := fun v h => hts v (tq_law_in v h)
  have hown : s.vm.findClass RL = some m.cls := hown
  have hA : ∀ q : Nat, s.heap.size ≤ q → A q := fun q h => by rw [hAe]; exact h
  have hbA : ¬ A b := by rw [hAe]; exact Nat.not_le.mpr hbl
  obtain ⟨xa, ka, ra, na, ia, ua, va, ca, za, pa, qa, aa, X, K, R, P, L, P2, L2, Tn, Ti, Tu, Tv, C, Z, q0, q1, q2, q3, q4, q5, S, LM, og, rfl, rfl, hok, jx, hrel, hP, hD⟩ := hI
  obtain ⟨bX, bK, bR, bP, bP2, bTn, bTi, bTu, bTv, bC, bZ, dz, e0, e4, e5, e1⟩ := id hok
  obtain ⟨w1, hw1⟩ : ∃ z, xs (i + 1).toNatClampNeg = z := ⟨_, rfl⟩
  obtain ⟨w2, hw2⟩ : ∃ z, xs (i + 2).toNatClampNeg = z := ⟨_, rfl⟩
  obtain ⟨w3, hw3⟩ : ∃ z, xs (i + 3).toNatClampNeg = z := ⟨_, rfl⟩
  obtain ⟨w4, hw4⟩ : ∃ z, xs (i + 4).toNatClampNeg = z := ⟨_, rfl⟩
  obtain ⟨w5, hw5⟩ : ∃ z, xs (i + 5).toNatClampNeg = z := ⟨_, rfl⟩
  refine lv_aload_n hx hb dL_law_901 rfl (lv_at hl 3 rfl) ?_
  obtain ⟨⟨r1, L_2, Tu_3, q2_4⟩, hcx, hq5⟩ := (t_X7_asking pa qa P L Tn Tu q0 q2 q4 bP bTn bTu e0 e4)
  refine lw_ci (As := []) (rest := []) hP hD hS hA hK hN ⟨hx, hb, hml, hown, hT⟩ (c_X7_asking l G cA H.size xa ka ra na ia ua va ca za pa qa X K R P L P2 L2 Tn Ti Tu Tv C Z q0 q1 q2 q3 q4 q5 r1 L_2 Tu_3 q2_4 hcx) (cwV 0 hT (tq_gV kw_53_4 kw_53_5 kw_53_6 kw_1_2 kw_53_7) rfl rfl rfl (by decide +kernel) ⟨Nat.le_of_ble_eq_true rfl, Nat.le_of_ble_eq_true rfl⟩) (wX_rec hK hP) rfl hl.1 rfl (lv_room (Nat.le_of_ble_eq_true rfl)) dL_law_902 hfit (fun _ _ H locs z9 hP hD hS => ?_)
  have z9 := z9.symm
  subst z9
  refine lv_pop hx hb dL_law_905 rfl ?_
  refine lv_aload_n hx hb dL_law_906 rfl (lv_at hl 2 rfl) ?_
  obtain ⟨⟨r6, S_7, LM_8⟩, hcm, hq9⟩ := (Q_asking S LM jx)
  replace hP : va_P G vwCl (wM cA aa S LM ++ (wX cA xa ka ra na ia ua va ca za pa qa X K R P L_2 P2 L2 Tn Ti Tu_3 Tv C Z q0 q1 q2_4 q3 q4 q5 ++ [(oa, .inl (cA 2, 1, .inr (.inl og)))])) H := tw_P wl_rot hP
  replace hD : va_D A (wM cA aa S LM ++ (wX cA xa ka ra na ia ua va ca za pa qa X K R P L_2 P2 L2 Tn Ti Tu_3 Tv C Z q0 q1 q2_4 q3 q4 q5 ++ [(oa, .inl (cA 2, 1, .inr (.inl og)))])) := tw_D wl_rot hD
  refine lw_ci (As := []) (rest := []) hP hD hS hA hK hN ⟨hx, hb, hml, hown, hT⟩ (c_X8_asking l G cA H.size aa S LM r6 S_7 LM_8 hcm) (cwV 0 hT (tq_gV kw_53_9 kw_53_10 kw_53_11 kw_1_5 kw_53_12) rfl rfl rfl (by decide +kernel) ⟨Nat.le_of_ble_eq_true rfl, Nat.le_of_ble_eq_true rfl⟩) (wM_rec hK hP) rfl hl.1 rfl (lv_room (Nat.le_of_ble_eq_true rfl)) dL_law_907 hfit (fun _ _ H locs z9 hP hD hS => ?_)
  have z9 := z9.symm
  subst z9
  replace hP : va_P G vwCl (wX cA xa ka ra na ia ua va ca za pa qa X K R P L_2 P2 L2 Tn Ti Tu_3 Tv C Z q0 q1 q2_4 q3 q4 q5 ++ (wM cA aa S_7 LM_8 ++ [(oa, .inl (cA 2, 1, .inr (.inl og)))])) H := tw_P wl_rot hP
  replace hD : va_D A (wX cA xa ka ra na ia ua va ca za pa qa X K R P L_2 P2 L2 Tn Ti Tu_3 Tv C Z q0 q1 q2_4 q3 q4 q5 ++ (wM cA aa S_7 LM_8 ++ [(oa, .inl (cA 2, 1, .inr (.inl og)))])) := tw_D wl_rot hD
  refine lv_pop hx hb dL_law_910 rfl ?_
  refine lv_goto (tgt := 1217) hx hb dL_law_911 (by decide) ?_
  exact hk H locs ls ⟨xa, ka, ra, na, ia, ua, va, ca, za, pa, qa, aa, X, K, R, P, L_2, P2, L2, Tn, Ti, Tu_3, Tv, C, Z, q0, q1, q2_4, q3, q4, q5, S_7, LM_8, og, rfl, rfl, ⟨bX, bK, bR, bP, bP2, bTn, bTi, hq5, bTv, bC, bZ, dz, e0, e4, e5, e1⟩, hq9.1, (E_asking hok jx hrel hcx hcm), hP, hD⟩ hS hl
