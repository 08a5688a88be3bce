set_option maxHeartbeats 4000000 in
set_option maxRecDepth 100000 in
theorem lc_23 {p : Program} {e : Env} {s : State} {m : MethodId} {below : List Frame} {meth : Method} {c : Code} (l : Launch) {b Ln : Nat} {xs : Nat → Int32} (C0 : lw_At p s m meth c b Ln xs) (G : va_G) (cA : Nat → ClassId) {A : Nat → Prop} (hAe : A = fun q : Nat => s.heap.size ≤ q) (hK : va_K G vwCl (tyL cA) s) (hN : tqN s) {bA : Nat} (hB : tqB bA A s s.heap) {H : Heap} {locs : List Loc} {ls : Array Slot} {kc ks : Nat} (hfit : kc ≤ 601024 ∧ ks ≤ 7293034) {i : Int32} (hi : 0 ≤ i.toInt ∧ i.toInt + 6 ≤ (Ln : Int)) (hLn : Ln ≤ 3072) {x0 mm oa : Nat} (hI : lwP G cA A x0 mm oa H) (hS : va_S A s.heap H locs) (hl : lv_has ls 7 [(4, .int i), (3, .ref oa), (2, .ref mm), (1, .ref x0), (0, .ref b)]) (hk : (∀ (H : Heap) (locs : List Loc) (ls : Array Slot), lwP G cA A x0 mm oa H → va_S A s.heap H locs → lv_has ls 7 [(4, .int i), (3, .ref oa), (2, .ref mm), (1, .ref x0), (0, .ref b)] → W p l e room_1 s m #[Value.ref b] below meth c H locs kc ks (lw_Z below #[Value.ref b] s) (F0 m 1217 ls []))) : W p l e room_1 s m #[Value.ref b] below meth c H locs kc ks (lw_Z below #[Value.ref b] s) (F0 m 914 ls []) := by
  obtain ⟨hx, hb, hr, hml, hown, hts, hX, hbl, hlocks, hgv⟩ := id C0
  have hT : ∀ v ∈ T0, v.before #[Value.ref b] s = true := fun v h => hts v (tq_law_in v h)
  have hown : s.vm.findClass RL = some m.cls := hown
  have hA : ∀ q : Nat, s.heap.size ≤ q → A q := fun q h => by rw [hAe]; exact h
  have hbA : ¬ A b := by rw [hAe]; exact Nat.not_le.mpr hbl
  obtain ⟨xa, ka, ra, na, ia, ua, va, ca, za, pa, qa, aa, X, K, R, P, L, P2, L2, Tn, Ti, Tu, Tv, C, Z, q0, q1, q2, q3, q4, q5, S, LM, og, rfl, rfl, hok, jx, hrel, hP, hD⟩ := hI
  obtain ⟨bX, bK, bR, bP, bP2, bTn, bTi, bTu, bTv, bC, bZ, dz, e0, e4, e5, e1⟩ := id hok
  obtain ⟨w1, hw1⟩ : ∃ z, xs (i + 1).toNatClampNeg = z := ⟨_, rfl⟩
  obtain ⟨w2, hw2⟩ : ∃ z, xs (i + 2).toNatClampNeg = z := ⟨_, rfl⟩
  obtain ⟨w3, hw3⟩ : ∃ z, xs (i + 3).toNatClampNeg = z := ⟨_, rfl⟩
  obtain ⟨w4, hw4⟩ : ∃ z, xs (i + 4).toNatClampNeg = z := ⟨_, rfl⟩
  obtain ⟨w5, hw5⟩ : ∃ z, xs (i + 5).toNatClampNeg = z := ⟨_, rfl⟩
  refine lv_aload_n hx hb dL_law_914 rfl (lv_at hl 3 rfl) ?_
  obtain ⟨⟨r1, L_2, Tu_3, q2_4⟩, hcx, hq5⟩ := (t_X7_feet pa qa P L Tn Tu q0 q2 q4 bP bTn bTu e0 e4)
  refine lw_ci (As := []) (rest := []) hP hD hS hA hK hN ⟨hx, hb, hml, hown, hT⟩ (c_X7_feet l G cA H.size xa ka ra na ia ua va ca za pa qa X K R P L P2 L2 Tn Ti Tu Tv C Z q0 q1 q2 q3 q4 q5 r1 L_2 Tu_3 q2_4 hcx) (cwV 0 hT (tq_gV kw_53_13 kw_53_14 kw_53_15 kw_1_2 kw_53_16) rfl rfl rfl (by decide +kernel) ⟨Nat.le_of_ble_eq_true rfl, Nat.le_of_ble_eq_true rfl⟩) (wX_rec hK hP) rfl hl.1 rfl (lv_room (Nat.le_of_ble_eq_true rfl)) dL_law_915 hfit (fun _ _ H locs z9 hP hD hS => ?_)
  have z9 := z9.symm
  subst z9
  refine lv_pop hx hb dL_law_918 rfl ?_
  refine lv_aload_n hx hb dL_law_919 rfl (lv_at hl 2 rfl) ?_
  obtain ⟨⟨r6, S_7, LM_8⟩, hcm, hq9⟩ := (Q_feet S LM jx)
  replace hP : va_P G vwCl (wM cA aa S LM ++ (wX cA xa ka ra na ia ua va ca za pa qa X K R P L_2 P2 L2 Tn Ti Tu_3 Tv C Z q0 q1 q2_4 q3 q4 q5 ++ [(oa, .inl (cA 2, 1, .inr (.inl og)))])) H := tw_P wl_rot hP
  replace hD : va_D A (wM cA aa S LM ++ (wX cA xa ka ra na ia ua va ca za pa qa X K R P L_2 P2 L2 Tn Ti Tu_3 Tv C Z q0 q1 q2_4 q3 q4 q5 ++ [(oa, .inl (cA 2, 1, .inr (.inl og)))])) := tw_D wl_rot hD
  refine lw_ci (As := []) (rest := []) hP hD hS hA hK hN ⟨hx, hb, hml, hown, hT⟩ (c_X8_feet l G cA H.size aa S LM r6 S_7 LM_8 hcm) (cwV 0 hT (tq_gV kw_53_17 kw_53_18 kw_53_19 kw_1_5 kw_53_20) rfl rfl rfl (by decide +kernel) ⟨Nat.le_of_ble_eq_true rfl, Nat.le_of_ble_eq_true rfl⟩) (wM_rec hK hP) rfl hl.1 rfl (lv_room (Nat.le_of_ble_eq_true rfl)) dL_law_920 hfit (fun _ _ H locs z9 hP hD hS => ?_)
  have z9 := z9.symm
  subst z9
  replace hP : va_P G vwCl (wX cA xa ka ra na ia ua va ca za pa qa X K R P L_2 P2 L2 Tn Ti Tu_3 Tv C Z q0 q1 q2_4 q3 q4 q5 ++ (wM cA aa S_7 LM_8 ++ [(oa, .inl (cA 2, 1, .inr (.inl og)))])) H := tw_P wl_rot hP
  replace hD : va_D A (wX cA xa ka ra na ia ua va ca za pa qa X K R P L_2 P2 L2 Tn Ti Tu_3 Tv C Z q0 q1 q2_4 q3 q4 q5 ++ (wM cA aa S_7 LM_8 ++ [(oa, .inl (cA 2, 1, .inr (.inl og)))])) := tw_D wl_rot hD
  refine lv_pop hx hb dL_law_923 rfl ?_
  refine lv_goto (tgt := 1217) hx hb dL_law_924 (by decide) ?_
  exact hk H locs ls ⟨xa, ka, ra, na, ia, ua, va, ca, za, pa, qa, aa, X, K, R, P, L_2, P2, L2, Tn, Ti, Tu_3, Tv, C, Z, q0, q1, q2_4, q3, q4, q5, S_7, LM_8, og, rfl, rfl, ⟨bX, bK, bR, bP, bP2, bTn, bTi, hq5, bTv, bC, bZ, dz, e0, e4, e5, e1⟩, hq9.1, (E_feet hok jx hrel hcx hcm), hP, hD⟩ hS hl
set_option maxHeartbeats 4000000 in
set_option maxRecDepth 100000 in
theorem lc_24 {p : Program} {e : Env} {s : State} {m : MethodId} {below : List Frame} {meth : Method} {c : Code} (l : Launch) {b Ln : Nat} {xs : Nat → Int32} (C0 : lw_At p s m meth c b Ln xs) (G : va_G) (cA : Nat → ClassId) {A : Nat → Prop} (hAe : A = fun q : Nat => s.heap.size ≤ q) (hK : va_K G vwCl (tyL cA) s) (hN : tqN s) {bA : Nat} (hB : tqB bA A s s.heap) {H : Heap} {locs : List Loc} {ls : Array Slot} {kc ks : Nat} (hfit : kc ≤ 601024 ∧ ks ≤ 7293034) {i : Int32} (hi : 0 ≤ i.toInt ∧ i.toInt + 6 ≤ (Ln : Int)) (hLn : Ln ≤ 3072) {x0 mm oa : Nat} (hI : lwP G cA A x0 mm oa H) (hS : va_S A s.heap H locs) (hl : lv_has ls 7 [(4, .int i), (3, .ref oa), (2, .ref mm), (1, .ref x0), (0, .ref b)]) (hk : (∀ (H : Heap) (locs : List Loc) (ls : Array Slot), lwP G cA A x0 mm oa H → va_S A s.heap H locs → lv_has ls 7 [(4, .int i), (3, .ref oa), (2, .ref mm), (1, .ref x0), (0, .ref b)] → W p l e room_1 s m #[Value.ref b] below meth c H locs kc ks (lw_Z below #[Value.ref b] s) (F0 m 1217 ls []))) : W p l e room_1 s m #[Value.ref b] below meth c H locs kc ks (lw_Z below #[Value.ref b] s) (F0 m 927 ls []) := by
  obtain ⟨hx, hb, hr, hml, hown, hts, hX, hbl, hlocks, hgv⟩ := id C0
  have hT : ∀ v ∈ T0, v.before #[Value.ref b] s = true := fun v h => hts v (tq_law_in v h)
  have hown : s.vm.findClass RL = some m.cls := hown
  have hA : ∀ q : Nat, s.heap.size ≤ q → A q := fun q h => by rw [hAe]; exact h
  have hbA : ¬ A b := by rw [hAe]; exact Nat.not_le.mpr hbl
  obtain ⟨xa, ka, ra, na, ia, ua, va, ca, za, pa, qa, aa, X, K, R, P, L, P2, L2, Tn, Ti, Tu, Tv, C, Z, q0, q1, q2, q3, q4, q5, S, LM, og, rfl, rfl, hok, jx, hrel, hP, hD⟩ := hI
  obtain ⟨bX, bK, bR, bP, bP2, bTn, bTi, bTu, bTv, bC, bZ, dz, e0, e4, e5, e1⟩ := id hok
  obtain ⟨w1, hw1⟩ : ∃ z, xs (i + 1).toNatClampNeg = z := ⟨_, rfl⟩
  obtain ⟨w2, hw2⟩ : ∃ z, xs (i + 2).toNatClampNeg = z := ⟨_, rfl⟩
  obtain ⟨w3, hw3⟩ : ∃ z, xs (i + 3).toNatClampNeg = z := ⟨_, rfl⟩
  obtain ⟨w4, hw4⟩ : ∃ z, xs (i + 4).toNatClampNeg = z := ⟨_, rfl⟩
  obtain ⟨w5, hw5⟩ : ∃ z, xs (i + 5).toNatClampNeg = z := ⟨_, rfl⟩
  by_cases hz : w4 = 0
  · refine lv_aload_n hx hb dL_law_927 rfl (lv_at hl 3 rfl) ?_
    refine lv_aload_n hx hb dL_law_928 rfl (lv_at hl 4 rfl) ?_
    refine lv_iload hx hb dL_law_929 (lv_at hl 0 rfl) ?_
    refine lv_iconst (v := 1) hx hb dL_law_931 (by decide) ?_
    refine lv_iadd hx hb dL_law_932 ?_
    refine va_sld (i := i + 1) hx hb hX hbl hbA hS (lw_in hi (by decide)) dL_law_933 ?_
    refine tq_i (w := w1) hw1 ?_
    refine lv_aload_n hx hb dL_law_934 rfl (lv_at hl 4 rfl) ?_
    refine lv_iload hx hb dL_law_935 (lv_at hl 0 rfl) ?_
    refine lv_iconst (v := 2) hx hb dL_law_937 (by decide) ?_
    refine lv_iadd hx hb dL_law_938 ?_
    refine va_sld (i := i + 2) hx hb hX hbl hbA hS (lw_in hi (by decide)) dL_law_939 ?_
    refine tq_i (w := w2) hw2 ?_
    refine lv_aload_n hx hb dL_law_940 rfl (lv_at hl 4 rfl) ?_
    refine lv_iload hx hb dL_law_941 (lv_at hl 0 rfl) ?_
    refine lv_iconst (v := 3) hx hb dL_law_943 (by decide) ?_
    refine lv_iadd hx hb dL_law_944 ?_
    refine va_sld (i := i + 3) hx hb hX hbl hbA hS (lw_in hi (by decide)) dL_law_945 ?_
    refine tq_i (w := w3) hw3 ?_
    refine lv_aload_n hx hb dL_law_946 rfl (lv_at hl 4 rfl) ?_
    refine lv_iload hx hb dL_law_947 (lv_at hl 0 rfl) ?_
    refine lv_iconst (v := 4) hx hb dL_law_949 (by decide) ?_
    refine lv_iadd hx hb dL_law_950 ?_
    refine va_sld (i := i + 4) hx hb hX hbl hbA hS (lw_in hi (by decide)) dL_law_951 ?_
    refine tq_i (w := w4) hw4 ?_
    refine lv_if_eq (tgt := 959) hx hb dL_law_952 (by decide) (fun c => ?_) (fun c => absurd hz c)
    refine lv_iconst (v := 0) hx hb dL_law_959 (by decide) ?_
    obtain ⟨⟨r1, Z_2⟩, hcx, hq3⟩ := (t_X7_see pa qa P Z q4 w1 w2 w3 (0 : Int32) bP bZ dz e4)
    refine lw_ci (As := [.int w1, .int w2, .int w3, .int 0]) (rest := []) hP hD hS hA hK hN ⟨hx, hb, hml, hown, hT⟩ (c_X7_see l G cA H.size xa ka ra na ia ua va ca za pa qa X K R P L P2 L2 Tn Ti Tu Tv C Z q0 q1 q2 q3 q4 q5 w1 w2 w3 (0 : Int32) r1 Z_2 hcx) (cwV 4 hT (tq_gV kw_53_21 kw_53_22 kw_53_23 kw_1_2 kw_54_0) rfl rfl rfl (by decide +kernel) ⟨Nat.le_of_ble_eq_true rfl, Nat.le_of_ble_eq_true rfl⟩) (wX_rec hK hP) rfl hl.1 rfl (lv_room (Nat.le_of_ble_eq_true rfl)) dL_law_960 hfit (fun _ _ H locs z9 hP hD hS => ?_)
    have z9 := z9.symm
    subst z9
    refine lv_pop hx hb dL_law_963 rfl ?_
    refine lv_aload_n hx hb dL_law_964 rfl (lv_at hl 2 rfl) ?_
    refine lv_aload_n hx hb dL_law_965 rfl (lv_at hl 4 rfl) ?_
    refine lv_iload hx hb dL_law_966 (lv_at hl 0 rfl) ?_
    refine lv_iconst (v := 1) hx hb dL_law_968 (by decide) ?_
    refine lv_iadd hx hb dL_law_969 ?_
    refine va_sld (i := i + 1) hx hb hX hbl hbA hS (lw_in hi (by decide)) dL_law_970 ?_
    refine tq_i (w := w1) hw1 ?_
    refine lv_aload_n hx hb dL_law_971 rfl (lv_at hl 4 rfl) ?_
    refine lv_iload hx hb dL_law_972 (lv_at hl 0 rfl) ?_
    refine lv_iconst (v := 2) hx hb dL_law_974 (by decide) ?_
    refine lv_iadd hx hb dL_law_975 ?_
    refine va_sld (i := i + 2) hx hb hX hbl hbA hS (lw_in hi (by decide)) dL_law_976 ?_
    refine tq_i (w := w2) hw2 ?_
    refine lv_aload_n hx hb dL_law_977 rfl (lv_at hl 4 rfl) ?_
    refine lv_iload hx hb dL_law_978 (lv_at hl 0 rfl) ?_
    refine lv_iconst (v := 3) hx hb dL_law_980 (by decide) ?_
    refine lv_iadd hx hb dL_law_981 ?_
    refine va_sld (i := i + 3) hx hb hX hbl hbA hS (lw_in hi (by decide)) dL_law_982 ?_
    refine tq_i (w := w3) hw3 ?_
    refine lv_aload_n hx hb dL_law_983 rfl (lv_at hl 4 rfl) ?_
    refine lv_iload hx hb dL_law_984 (lv_at hl 0 rfl) ?_
    refine lv_iconst (v := 4) hx hb dL_law_986 (by decide) ?_
    refine lv_iadd hx hb dL_law_987 ?_
    refine va_sld (i := i + 4) hx hb hX hbl hbA hS (lw_in hi (by decide)) dL_law_988 ?_
    refine tq_i (w := w4) hw4 ?_
    refine lv_if_eq (tgt := 996) hx hb dL_law_989 (by decide) (fun c => ?_) (fun c => absurd hz c)
    refine lv_iconst (v := 0) hx hb dL_law_996 (by decide) ?_
    obtain ⟨⟨r4, S_5⟩, hcm, hq6⟩ := (Q_see S w1 w2 w3 (0 : Int32) jx)
    replace hP : va_P G vwCl (wM cA aa S LM ++ (wX cA xa ka ra na ia ua va ca za pa qa X K R P L P2 L2 Tn Ti Tu Tv C Z_2 q0 q1 q2 q3 q4 q5 ++ [(oa, .inl (cA 2, 1, .inr (.inl og)))])) H := tw_P wl_rot hP
    replace hD : va_D A (wM cA aa S LM ++ (wX cA xa ka ra na ia ua va ca za pa qa X K R P L P2 L2 Tn Ti Tu Tv C Z_2 q0 q1 q2 q3 q4 q5 ++ [(oa, .inl (cA 2, 1, .inr (.inl og)))])) := tw_D wl_rot hD
    refine lw_ci (As := [.int w1, .int w2, .int w3, .int 0]) (rest := []) hP hD hS hA hK hN ⟨hx, hb, hml, hown, hT⟩ (c_X8_see l G cA H.size aa S LM w1 w2 w3 (0 : Int32) r4 S_5 hcm) (cwV 4 hT (tq_gV kw_54_5 kw_54_6 kw_54_7 kw_1_5 kw_54_8) rfl rfl rfl (by decide +kernel) ⟨Nat.le_of_ble_eq_true rfl, Nat.le_of_ble_eq_true rfl⟩) (wM_rec hK hP) rfl hl.1 rfl (lv_room (Nat.le_of_ble_eq_true rfl)) dL_law_997 hfit (fun _ _ H locs z9 hP hD hS => ?_)
    have z9 := z9.symm
    subst z9
    replace hP : va_P G vwCl (wX cA xa ka ra na ia ua va ca za pa qa X K R P L P2 L2 Tn Ti Tu Tv C Z_2 q0 q1 q2 q3 q4 q5 ++ (wM cA aa S_5 LM ++ [(oa, .inl (cA 2, 1, .inr (.inl og)))])) H := tw_P wl_rot hP
    replace hD : va_D A (wX cA xa ka ra na ia ua va ca za pa qa X K R P L P2 L2 Tn Ti Tu Tv C Z_2 q0 q1 q2 q3 q4 q5 ++ (wM cA aa S_5 LM ++ [(oa, .inl (cA 2, 1, .inr (.inl og)))])) := tw_D wl_rot hD
    refine lv_pop hx hb dL_law_1000 rfl ?_
    refine lv_goto (tgt := 1217) hx hb dL_law_1001 (by decide) ?_
    exact hk H locs ls ⟨xa, ka, ra, na, ia, ua, va, ca, za, pa, qa, aa, X, K, R, P, L, P2, L2, Tn, Ti, Tu, Tv, C, Z_2, q0, q1, q2, q3, q4, q5, S_5, LM, og, rfl, rfl, ⟨bX, bK, bR, bP, bP2, bTn, bTi, bTu, bTv, bC, hq3.1, hq3.2, e0, e4, e5, e1⟩, hq6.1, (E_see hok jx hrel hcx hcm), hP, hD⟩ hS hl
  · refine lv_aload_n hx hb dL_law_927 rfl (lv_at hl 3 rfl) ?_
    refine lv_aload_n hx hb dL_law_928 rfl (lv_at hl 4 rfl) ?_
    refine lv_iload hx hb dL_law_929 (lv_at hl 0 rfl) ?_
    refine lv_iconst (v := 1) hx hb dL_law_931 (by decide) ?_
    refine lv_iadd hx hb dL_law_932 ?_
    refine va_sld (i := i + 1) hx hb hX hbl hbA hS (lw_in hi (by decide)) dL_law_933 ?_
    refine tq_i (w := w1) hw1 ?_
    refine lv_aload_n hx hb dL_law_934 rfl (lv_at hl 4 rfl) ?_
    refine lv_iload hx hb dL_law_935 (lv_at hl 0 rfl) ?_
    refine lv_iconst (v := 2) hx hb dL_law_937 (by decide) ?_
    refine lv_iadd hx hb dL_law_938 ?_
    refine va_sld (i := i + 2) hx hb hX hbl hbA hS (lw_in hi (by decide)) dL_law_939 ?_
    refine tq_i (w := w2) hw2 ?_
    refine lv_aload_n hx hb dL_law_940 rfl (lv_at hl 4 rfl) ?_
    refine lv_iload hx hb dL_law_941 (lv_at hl 0 rfl) ?_
    refine lv_iconst (v := 3) hx hb dL_law_943 (by decide) ?_
    refine lv_iadd hx hb dL_law_944 ?_
    refine va_sld (i := i + 3) hx hb hX hbl hbA hS (lw_in hi (by decide)) dL_law_945 ?_
    refine tq_i (w := w3) hw3 ?_
    refine lv_aload_n hx hb dL_law_946 rfl (lv_at hl 4 rfl) ?_
    refine lv_iload hx hb dL_law_947 (lv_at hl 0 rfl) ?_
    refine lv_iconst (v := 4) hx hb dL_law_949 (by decide) ?_
    refine lv_iadd hx hb dL_law_950 ?_
    refine va_sld (i := i + 4) hx hb hX hbl hbA hS (lw_in hi (by decide)) dL_law_951 ?_
    refine tq_i (w := w4) hw4 ?_
    refine lv_if_eq (tgt := 959) hx hb dL_law_952 (by decide) (fun c => absurd c hz) (fun c => ?_)
    refine lv_iconst (v := 1) hx hb dL_law_955 (by decide) ?_
    refine lv_goto (tgt := 960) hx hb dL_law_956 (by decide) ?_
    obtain ⟨⟨r1, Z_2⟩, hcx, hq3⟩ := (t_X7_see pa qa P Z q4 w1 w2 w3 (1 : Int32) bP bZ dz e4)
    refine lw_ci (As := [.int w1, .int w2, .int w3, .int 1]) (rest := []) hP hD hS hA hK hN ⟨hx, hb, hml, hown, hT⟩ (c_X7_see l G cA H.size xa ka ra na ia ua va ca za pa qa X K R P L P2 L2 Tn Ti Tu Tv C Z q0 q1 q2 q3 q4 q5 w1 w2 w3 (1 : Int32) r1 Z_2 hcx) (cwV 4 hT (tq_gV kw_53_21 kw_53_22 kw_53_23 kw_1_2 kw_54_0) rfl rfl rfl (by decide +kernel) ⟨Nat.le_of_ble_eq_true rfl, Nat.le_of_ble_eq_true rfl⟩) (wX_rec hK hP) rfl hl.1 rfl (lv_room (Nat.le_of_ble_eq_true rfl)) dL_law_960 hfit (fun _ _ H locs z9 hP hD hS => ?_)
    have z9 := z9.symm
    subst z9
    refine lv_pop hx hb dL_law_963 rfl ?_
    refine lv_aload_n hx hb dL_law_964 rfl (lv_at hl 2 rfl) ?_
    refine lv_aload_n hx hb dL_law_965 rfl (lv_at hl 4 rfl) ?_
    refine lv_iload hx hb dL_law_966 (lv_at hl 0 rfl) ?_
    refine lv_iconst (v := 1) hx hb dL_law_968 (by decide) ?_
    refine lv_iadd hx hb dL_law_969 ?_
    refine va_sld (i := i + 1) hx hb hX hbl hbA hS (lw_in hi (by decide)) dL_law_970 ?_
    refine tq_i (w := w1) hw1 ?_
    refine lv_aload_n hx hb dL_law_971 rfl (lv_at hl 4 rfl) ?_
    refine lv_iload hx hb dL_law_972 (lv_at hl 0 rfl) ?_
    refine lv_iconst (v := 2) hx hb dL_law_974 (by decide) ?_
    refine lv_iadd hx hb dL_law_975 ?_
    refine va_sld (i := i + 2) hx hb hX hbl hbA hS (lw_in hi (by decide)) dL_law_976 ?_
    refine tq_i (w := w2) hw2 ?_
    refine lv_aload_n hx hb dL_law_977 rfl (lv_at hl 4 rfl) ?_
    refine lv_iload hx hb dL_law_978 (lv_at hl 0 rfl) ?_
    refine lv_iconst (v := 3) hx hb dL_law_980 (by decide) ?_
    refine lv_iadd hx hb dL_law_981 ?_
    refine va_sld (i := i + 3) hx hb hX hbl hbA hS (lw_in hi (by decide)) dL_law_982 ?_
    refine tq_i (w := w3) hw3 ?_
    refine lv_aload_n hx hb dL_law_983 rfl (lv_at hl 4 rfl) ?_
    refine lv_iload hx hb dL_law_984 (lv_at hl 0 rfl) ?_
    refine lv_iconst (v := 4) hx hb dL_law_986 (by decide) ?_
    refine lv_iadd hx hb dL_law_987 ?_
    refine va_sld (i := i + 4) hx hb hX hbl hbA hS (lw_in hi (by decide)) dL_law_988 ?_
    refine tq_i (w := w4) hw4 ?_
    refine lv_if_eq (tgt := 996) hx hb dL_law_989 (by decide) (fun c => absurd c hz) (fun c => ?_)
    refine lv_iconst (v := 1) hx hb dL_law_992 (by decide) ?_
    refine lv_goto (tgt := 997) hx hb dL_law_993 (by decide) ?_
    obtain ⟨⟨r4, S_5⟩, hcm, hq6⟩ := (Q_see S w1 w2 w3 (1 : Int32) jx)
    replace hP : va_P G vwCl (wM cA aa S LM ++ (wX cA xa ka ra na ia ua va ca za pa qa X K R P L P2 L2 Tn Ti Tu Tv C Z_2 q0 q1 q2 q3 q4 q5 ++ [(oa, .inl (cA 2, 1, .inr (.inl og)))])) H := tw_P wl_rot hP
    replace hD : va_D A (wM cA aa S LM ++ (wX cA xa ka ra na ia ua va ca za pa qa X K R P L P2 L2 Tn Ti Tu Tv C Z_2 q0 q1 q2 q3 q4 q5 ++ [(oa, .inl (cA 2, 1, .inr (.inl og)))])) := tw_D wl_rot hD
    refine lw_ci (As := [.int w1, .int w2, .int w3, .int 1]) (rest := []) hP hD hS hA hK hN ⟨hx, hb, hml, hown, hT⟩ (c_X8_see l G cA H.size aa S LM w1 w2 w3 (1 : Int32) r4 S_5 hcm) (cwV 4 hT (tq_gV kw_54_5 kw_54_6 kw_54_7 kw_1_5 kw_54_8) rfl rfl rfl (by decide +kernel) ⟨Nat.le_of_ble_eq_true rfl, Nat.le_of_ble_eq_true rfl⟩) (wM_rec hK hP) rfl hl.1 rfl (lv_room (Nat.le_of_ble_eq_true rfl)) dL_law_997 hfit (fun _ _ H locs z9 hP hD hS => ?_)
    have z9 := z9.symm
    subst z9
    replace hP : va_P G vwCl (wX cA xa ka ra na ia ua va ca za pa qa X K R P L P2 L2 Tn Ti Tu Tv C Z_2 q0 q1 q2 q3 q4 q5 ++ (wM cA aa S_5 LM ++ [(oa, .inl (cA 2, 1, .inr (.inl og)))])) H := tw_P wl_rot hP
    replace hD : va_D A (wX cA xa ka ra na ia ua va ca za pa qa X K R P L P2 L2 Tn Ti Tu Tv C Z_2 q0 q1 q2 q3 q4 q5 ++ (wM cA aa S_5 LM ++ [(oa, .inl (cA 2, 1, .inr (.inl og)))])) := tw_D wl_rot hD
    refine lv_pop hx hb dL_law_1000 rfl ?_
    refine lv_goto (tgt := 1217) hx hb dL_law_1001 (by decide) ?_
    exact hk H locs ls ⟨xa, ka, ra, na, ia, ua, va, ca, za, pa, qa, aa, X, K, R, P, L, P2, L2, Tn, Ti, Tu, Tv, C, Z_2, q0, q1, q2, q3, q4, q5, S_5, LM, og, rfl, rfl, ⟨bX, bK, bR, bP, bP2, bTn, bTi, bTu, bTv, bC, hq3.1, hq3.2, e0, e4, e5, e1⟩, hq6.1, (E_see hok jx hrel hcx hcm), hP, hD⟩ hS hl
set_option maxHeartbeats 4000000 in
set_option maxRecDepth 100000 in
theorem lc_25 {p : Program} {e : Env} {s : State} {m : MethodId} {below : List Frame} {meth : Method} {c : Code} (l : Launch) {b Ln : Nat} {xs : Nat → Int32} (C0 : lw_At p s m meth c b Ln xs) (G : va_G) (cA : Nat → ClassId) {A : Nat → Prop} (hAe : A = fun q : Nat => s.heap.size ≤ q) (hK : va_K G vwCl (tyL cA) s) (hN : tqN s) {bA : Nat} (hB : tqB bA A s s.heap) {H : Heap} {locs : List Loc} {ls : Array Slot} {kc ks : Nat} (hfit : kc ≤ 601024 ∧ ks ≤ 7293034) {i : Int32} (hi : 0 ≤ i.toInt ∧ i.toInt + 6 ≤ (Ln : Int)) (hLn : Ln ≤ 3072) {x0 mm oa : Nat} (hI : lwP G cA A x0 mm oa H) (hS : va_S A s.heap H locs) (hl : lv_has ls 7 [(4, .int i), (3, .ref oa), (2, .ref mm), (1, .ref x0), (0, .ref b)]) (hk : (∀ (H : Heap) (locs : List Loc) (ls : Array Slot), lwP G cA A x0 mm oa H → va_S A s.heap H locs → lv_has ls 7 [(4, .int i), (3, .ref oa), (2, .ref mm), (1, .ref x0), (0, .ref b)] → W p l e room_1 s m #[Value.ref b] below meth c H locs kc ks (lw_Z below #[Value.ref b] s) (F0 m 1217 ls []))) : W p l e room_1 s m #[Value.ref b] below meth c H locs kc ks (lw_Z below #[Value.ref b] s) (F0 m 1004 ls []) := by
  obtain ⟨hx, hb, hr, hml, hown, hts, hX, hbl, hlocks, hgv⟩ := id C0
  have hT : ∀ v ∈ T0, v.before #[Value.ref b] s = true := fun v h => hts v (tq_law_in v h)
  have hown : s.vm.findClass RL = some m.cls := hown
  have hA : ∀ q : Nat, s.heap.size ≤ q → A q := fun q h => by rw [hAe]; exact h
  have hbA : ¬ A b := by rw [hAe]; exact Nat.not_le.mpr hbl
  obtain ⟨xa, ka, ra, na, ia, ua, va, ca, za, pa, qa, aa, X, K, R, P, L, P2, L2, Tn, Ti, Tu, Tv, C, Z, q0, q1, q2, q3, q4, q5, S, LM, og, rfl, rfl, hok, jx, hrel, hP, hD⟩ := hI
  obtain ⟨bX, bK, bR, bP, bP2, bTn, bTi, bTu, bTv, bC, bZ, dz, e0, e4, e5, e1⟩ := id hok
  obtain ⟨w1, hw1⟩ : ∃ z, xs (i + 1).toNatClampNeg = z := ⟨_, rfl⟩
  obtain ⟨w2, hw2⟩ : ∃ z, xs (i + 2).toNatClampNeg = z := ⟨_, rfl⟩
  obtain ⟨w3, hw3⟩ : ∃ z, xs (i + 3).toNatClampNeg = z := ⟨_, rfl⟩
  obtain ⟨w4, hw4⟩ : ∃ z, xs (i + 4).toNatClampNeg = z := ⟨_, rfl⟩
  obtain ⟨w5, hw5⟩ : ∃ z, xs (i + 5).toNatClampNeg = z := ⟨_, rfl⟩
  refine lv_aload_n hx hb dL_law_1004 rfl (lv_at hl 3 rfl) ?_
  refine lv_aload_n hx hb dL_law_1005 rfl (lv_at hl 4 rfl) ?_
  refine lv_iload hx hb dL_law_1006 (lv_at hl 0 rfl) ?_
  refine lv_iconst (v := 1) hx hb dL_law_1008 (by decide) ?_
  refine lv_iadd hx hb dL_law_1009 ?_
  refine va_sld (i := i + 1) hx hb hX hbl hbA hS (lw_in hi (by decide)) dL_law_1010 ?_
  refine tq_i (w := w1) hw1 ?_
  obtain ⟨⟨r1, Z_2⟩, hcx, hq3⟩ := (t_X7_strike pa qa Z w1 bZ dz)
  refine lw_ci (As := [.int w1]) (rest := []) hP hD hS hA hK hN ⟨hx, hb, hml, hown, hT⟩ (c_X7_strike l G cA H.size xa ka ra na ia ua va ca za pa qa X K R P L P2 L2 Tn Ti Tu Tv C Z q0 q1 q2 q3 q4 q5 w1 r1 Z_2 hcx) (cwV 1 hT (tq_gV kw_54_13 kw_54_14 kw_54_15 kw_1_2 kw_54_16) rfl rfl rfl (by decide +kernel) ⟨Nat.le_of_ble_eq_true rfl, Nat.le_of_ble_eq_true rfl⟩) (wX_rec hK hP) rfl hl.1 rfl (lv_room (Nat.le_of_ble_eq_true rfl)) dL_law_1011 hfit (fun _ _ H locs z9 hP hD hS => ?_)
  have z9 := z9.symm
  subst z9
  refine lv_pop hx hb dL_law_1014 rfl ?_
  refine lv_aload_n hx hb dL_law_1015 rfl (lv_at hl 2 rfl) ?_
  refine lv_aload_n hx hb dL_law_1016 rfl (lv_at hl 4 rfl) ?_
  refine lv_iload hx hb dL_law_1017 (lv_at hl 0 rfl) ?_
  refine lv_iconst (v := 1) hx hb dL_law_1019 (by decide) ?_
  refine lv_iadd hx hb dL_law_1020 ?_
  refine va_sld (i := i + 1) hx hb hX hbl hbA hS (lw_in hi (by decide)) dL_law_1021 ?_
  refine tq_i (w := w1) hw1 ?_
  obtain ⟨⟨r4, S_5⟩, hcm, hq6⟩ := (Q_strike S w1 jx)
  replace hP : va_P G vwCl (wM cA aa S LM ++ (wX cA xa ka ra na ia ua va ca za pa qa X K R P L P2 L2 Tn Ti Tu Tv C Z_2 q0 q1 q2 q3 q4 q5 ++ [(oa, .inl (cA 2, 1, .inr (.inl og)))])) H := tw_P wl_rot hP
  replace hD : va_D A (wM cA aa S LM ++ (wX cA xa ka ra na ia ua va ca za pa qa X K R P L P2 L2 Tn Ti Tu Tv C Z_2 q0 q1 q2 q3 q4 q5 ++ [(oa, .inl (cA 2, 1, .inr (.inl og)))])) := tw_D wl_rot hD
  refine lw_ci (As := [.int w1]) (rest := []) hP hD hS hA hK hN ⟨hx, hb, hml, hown, hT⟩ (c_X8_strike l G cA H.size aa S LM w1 r4 S_5 hcm) (cwV 1 hT (tq_gV kw_54_18 kw_54_19 kw_54_20 kw_1_5 kw_54_21) rfl rfl rfl (by decide +kernel) ⟨Nat.le_of_ble_eq_true rfl, Nat.le_of_ble_eq_true rfl⟩) (wM_rec hK hP) rfl hl.1 rfl (lv_room (Nat.le_of_ble_eq_true rfl)) dL_law_1022 hfit (fun _ _ H locs z9 hP hD hS => ?_)
  have z9 := z9.symm
  subst z9
  replace hP : va_P G vwCl (wX cA xa ka ra na ia ua va ca za pa qa X K R P L P2 L2 Tn Ti Tu Tv C Z_2 q0 q1 q2 q3 q4 q5 ++ (wM cA aa S_5 LM ++ [(oa, .inl (cA 2, 1, .inr (.inl og)))])) H := tw_P wl_rot hP
  replace hD : va_D A (wX cA xa ka ra na ia ua va ca za pa qa X K R P L P2 L2 Tn Ti Tu Tv C Z_2 q0 q1 q2 q3 q4 q5 ++ (wM cA aa S_5 LM ++ [(oa, .inl (cA 2, 1, .inr (.inl og)))])) := tw_D wl_rot hD
  refine lv_pop hx hb dL_law_1025 rfl ?_
  refine lv_goto (tgt := 1217) hx hb dL_law_1026 (by decide) ?_
  exact hk H locs ls ⟨xa, ka, ra, na, ia, ua, va, ca, za, pa, qa, aa, X, K, R, P, L, P2, L2, Tn, Ti, Tu, Tv, C, Z_2, q0, q1, q2, q3, q4, q5, S_5, LM, og, rfl, rfl, ⟨bX, bK, bR, bP, bP2, bTn, bTi, bTu, bTv, bC, hq3.1, hq3.2, e0, e4, e5, e1⟩, hq6.1, (E_strike hok jx hrel hcx hcm), hP, hD⟩ hS hl
set_option maxHeartbeats 4000000 in
set_option maxRecDepth 100000 in
theorem lc_26 {p : Program} {e : Env} {s : State} {m : MethodId} {below : List Frame} {meth : Method} {c : Code} (l : Launch) {b Ln : Nat} {xs : Nat → Int32} (C0 : lw_At p s m meth c b Ln xs) (G : va_G) (cA : Nat → ClassId) {A : Nat → Prop} (hAe : A = fun q : Nat => s.heap.size ≤ q) (hK : va_K G vwCl (tyL cA) s) (hN : tqN s) {bA : Nat} (hB : tqB bA A s s.heap) {H : Heap} {locs : List Loc} {ls : Array Slot} {kc ks : Nat} (hfit : kc ≤ 601024 ∧ ks ≤ 7293034) {i : Int32} (hi : 0 ≤ i.toInt ∧ i.toInt + 6 ≤ (Ln : Int)) (hLn : Ln ≤ 3072) {x0 mm oa : Nat} (hI : lwP G cA A x0 mm oa H) (hS : va_S A s.heap H locs) (hl : lv_has ls 7 [(4, .int i), (3, .ref oa), (2, .ref mm), (1, .ref x0), (0, .ref b)]) (hk : (∀ (H : Heap) (locs : List Loc) (ls : Array Slot), lwP G cA A x0 mm oa H → va_S A s.heap H locs → lv_has ls 7 [(4, .int i), (3, .ref oa), (2, .ref mm), (1, .ref x0), (0, .ref b)] → W p l e room_1 s m #[Value.ref b] below meth c H locs kc ks (lw_Z below #[Value.ref b] s) (F0 m 1217 ls []))) : W p l e room_1 s m #[Value.ref b] below meth c H locs kc ks (lw_Z below #[Value.ref b] s) (F0 m 1029 ls []) := by
  obtain ⟨hx, hb, hr, hml, hown, hts, hX, hbl, hlocks, hgv⟩ := id C0
  have hT : ∀ v ∈ T0, v.before #[Value.ref b] s = true := fun v h => hts v (tq_law_in v h)
  have hown : s.vm.findClass RL = some m.cls := hown
  have hA : ∀ q : Nat, s.heap.size ≤ q → A q := fun q h => by rw [hAe]; exact h
  have hbA : ¬ A b := by rw [hAe]; exact Nat.not_le.mpr hbl
  obtain ⟨xa, ka, ra, na, ia, ua, va, ca, za, pa, qa, aa, X, K, R, P, L, P2, L2, Tn, Ti, Tu, Tv, C, Z, q0, q1, q2, q3, q4, q5, S, LM, og, rfl, rfl, hok, jx, hrel, hP, hD⟩ := hI
  obtain ⟨bX, bK, bR, bP, bP2, bTn, bTi, bTu, bTv, bC, bZ, dz, e0, e4, e5, e1⟩ := id hok
  obtain ⟨w1, hw1⟩ : ∃ z, xs (i + 1).toNatClampNeg = z := ⟨_, rfl⟩
  obtain ⟨w2, hw2⟩ : ∃ z, xs (i + 2).toNatClampNeg = z := ⟨_, rfl⟩
  obtain ⟨w3, hw3⟩ : ∃ z, xs (i + 3).toNatClampNeg = z := ⟨_, rfl⟩
  obtain ⟨w4, hw4⟩ : ∃ z, xs (i + 4).toNatClampNeg = z := ⟨_, rfl⟩
  obtain ⟨w5, hw5⟩ : ∃ z, xs (i + 5).toNatClampNeg = z := ⟨_, rfl⟩
  refine lv_aload_n hx hb dL_law_1029 rfl (lv_at hl 3 rfl) ?_
  refine lv_aload_n hx hb dL_law_1030 rfl (lv_at hl 4 rfl) ?_
  refine lv_iload hx hb dL_law_1031 (lv_at hl 0 rfl) ?_
  refine lv_iconst (v := 1) hx hb dL_law_1033 (by decide) ?_
  refine lv_iadd hx hb dL_law_1034 ?_
  refine va_sld (i := i + 1) hx hb hX hbl hbA hS (lw_in hi (by decide)) dL_law_1035 ?_
  refine tq_i (w := w1) hw1 ?_
  obtain ⟨⟨r1, Z_2⟩, hcx, hq3⟩ := (t_X7_known pa qa Z w1 bZ dz)
  refine lw_ci (As := [.int w1]) (rest := []) hP hD hS hA hK hN ⟨hx, hb, hml, hown, hT⟩ (c_X7_known l G cA H.size xa ka ra na ia ua va ca za pa qa X K R P L P2 L2 Tn Ti Tu Tv C Z q0 q1 q2 q3 q4 q5 w1 r1 Z_2 hcx) (cwV 1 hT (tq_gV kw_54_22 kw_54_23 kw_55_0 kw_1_2 kw_55_1) rfl rfl rfl (by decide +kernel) ⟨Nat.le_of_ble_eq_true rfl, Nat.le_of_ble_eq_true rfl⟩) (wX_rec hK hP) rfl hl.1 rfl (lv_room (Nat.le_of_ble_eq_true rfl)) dL_law_1036 hfit (fun _ _ H locs z9 hP hD hS => ?_)
  have z9 := z9.symm
  subst z9
  refine lv_pop hx hb dL_law_1039 rfl ?_
  refine lv_aload_n hx hb dL_law_1040 rfl (lv_at hl 2 rfl) ?_
  refine lv_aload_n hx hb dL_law_1041 rfl (lv_at hl 4 rfl) ?_
  refine lv_iload hx hb dL_law_1042 (lv_at hl 0 rfl) ?_
  refine lv_iconst (v := 1) hx hb dL_law_1044 (by decide) ?_
  refine lv_iadd hx hb dL_law_1045 ?_
  refine va_sld (i := i + 1) hx hb hX hbl hbA hS (lw_in hi (by decide)) dL_law_1046 ?_
  refine tq_i (w := w1) hw1 ?_
  obtain ⟨⟨r4, S_5⟩, hcm, hq6⟩ := (Q_known S w1 jx)
  replace hP : va_P G vwCl (wM cA aa S LM ++ (wX cA xa ka ra na ia ua va ca za pa qa X K R P L P2 L2 Tn Ti Tu Tv C Z_2 q0 q1 q2 q3 q4 q5 ++ [(oa, .inl (cA 2, 1, .inr (.inl og)))])) H := tw_P wl_rot hP
  replace hD : va_D A (wM cA aa S LM ++ (wX cA xa ka ra na ia ua va ca za pa qa X K R P L P2 L2 Tn Ti Tu Tv C Z_2 q0 q1 q2 q3 q4 q5 ++ [(oa, .inl (cA 2, 1, .inr (.inl og)))])) := tw_D wl_rot hD
  refine lw_ci (As := [.int w1]) (rest := []) hP hD hS hA hK hN ⟨hx, hb, hml, hown, hT⟩ (c_X8_known l G cA H.size aa S LM w1 r4 S_5 hcm) (cwV 1 hT (tq_gV kw_55_3 kw_55_4 kw_55_5 kw_1_5 kw_55_6) rfl rfl rfl (by decide +kernel) ⟨Nat.le_of_ble_eq_true rfl, Nat.le_of_ble_eq_true rfl⟩) (wM_rec hK hP) rfl hl.1 rfl (lv_room (Nat.le_of_ble_eq_true rfl)) dL_law_1047 hfit (fun _ _ H locs z9 hP hD hS => ?_)
  have z9 := z9.symm
  subst z9
  replace hP : va_P G vwCl (wX cA xa ka ra na ia ua va ca za pa qa X K R P L P2 L2 Tn Ti Tu Tv C Z_2 q0 q1 q2 q3 q4 q5 ++ (wM cA aa S_5 LM ++ [(oa, .inl (cA 2, 1, .inr (.inl og)))])) H := tw_P wl_rot hP
  replace hD : va_D A (wX cA xa ka ra na ia ua va ca za pa qa X K R P L P2 L2 Tn Ti Tu Tv C Z_2 q0 q1 q2 q3 q4 q5 ++ (wM cA aa S_5 LM ++ [(oa, .inl (cA 2, 1, .inr (.inl og)))])) := tw_D wl_rot hD
  refine lv_pop hx hb dL_law_1050 rfl ?_
  refine lv_goto (tgt := 1217) hx hb dL_law_1051 (by decide) ?_
  exact hk H locs ls ⟨xa, ka, ra, na, ia, ua, va, ca, za, pa, qa, aa, X, K, R, P, L, P2, L2, Tn, Ti, Tu, Tv, C, Z_2, q0, q1, q2, q3, q4, q5, S_5, LM, og, rfl, rfl, ⟨bX, bK, bR, bP, bP2, bTn, bTi, bTu, bTv, bC, hq3.2.1, hq3.2.2, e0, e4, e5, e1⟩, hq6.1, (E_known hok jx hrel hcx hcm), hP, hD⟩ hS hl
set_option maxHeartbeats 4000000 in
set_option maxRecDepth 100000 in
theorem lc_27 {p : Program} {e : Env} {s : State} {m : MethodId} {below : List Frame} {meth : Method} {c : Code} (l : Launch) {b Ln : Nat} {xs : Nat → Int32} (C0 : lw_At p s m meth c b Ln xs) (G : va_G) (cA : Nat → ClassId) {A : Nat → Prop} (hAe : A = fun q : Nat => s.heap.size ≤ q) (hK : va_K G vwCl (tyL cA) s) (hN : tqN s) {bA : Nat} (hB : tqB bA A s s.heap) {H : Heap} {locs : List Loc} {ls : Array Slot} {kc ks : Nat} (hfit : kc ≤ 601024 ∧ ks ≤ 7293034) {i : Int32} (hi : 0 ≤ i.toInt ∧ i.toInt + 6 ≤ (Ln : Int)) (hLn : Ln ≤ 3072) {x0 mm oa : Nat} (hI : lwP G cA A x0 mm oa H) (hS : va_S A s.heap H locs) (hl : lv_has ls 7 [(4, .int i), (3, .ref oa), (2, .ref mm), (1, .ref x0), (0, .ref b)]) (hk : (∀ (H : Heap) (locs : List Loc) (ls : Array Slot), lwP G cA A x0 mm oa H → va_S A s.heap H locs → lv_has ls 7 [(4, .int i), (3, .ref oa), (2, .ref mm), (1, .ref x0), (0, .ref b)] → W p l e room_1 s m #[Value.ref b] below meth c H locs kc ks (lw_Z below #[Value.ref b] s) (F0 m 1217 ls []))) : W p l e room_1 s m #[Value.ref b] below meth c H locs kc ks (lw_Z below #[Value.ref b] s) (F0 m 1054 ls []) := by
  obtain ⟨hx, hb, hr, hml, hown, hts, hX, hbl, hlocks, hgv⟩ := id C0
  have hT : ∀ v ∈ T0, v.before #[Value.ref b] s = true := fun v h => hts v (tq_law_in v h)
  have hown : s.vm.findClass RL = some m.cls := hown
  have hA : ∀ q : Nat, s.heap.size ≤ q → A q := fun q h => by rw [hAe]; exact h
  have hbA : ¬ A b := by rw [hAe]; exact Nat.not_le.mpr hbl
  obtain ⟨xa, ka, ra, na, ia, ua, va, ca, za, pa, qa, aa, X, K, R, P, L, P2, L2, Tn, Ti, Tu, Tv, C, Z, q0, q1, q2, q3, q4, q5, S, LM, og, rfl, rfl, hok, jx, hrel, hP, hD⟩ := hI
  obtain ⟨bX, bK, bR, bP, bP2, bTn, bTi, bTu, bTv, bC, bZ, dz, e0, e4, e5, e1⟩ := id hok
  obtain ⟨w1, hw1⟩ : ∃ z, xs (i + 1).toNatClampNeg = z := ⟨_, rfl⟩
  obtain ⟨w2, hw2⟩ : ∃ z, xs (i + 2).toNatClampNeg = z := ⟨_, rfl⟩
  obtain ⟨w3, hw3⟩ : ∃ z, xs (i + 3).toNatClampNeg = z := ⟨_, rfl⟩
  obtain ⟨w4, hw4⟩ : ∃ z, xs (i + 4).toNatClampNeg = z := ⟨_, rfl⟩
  obtain ⟨w5, hw5⟩ : ∃ z, xs (i + 5).toNatClampNeg = z := ⟨_, rfl⟩
  refine lv_aload_n hx hb dL_law_1054 rfl (lv_at hl 3 rfl) ?_
  refine lv_aload_n hx hb dL_law_1055 rfl (lv_at hl 4 rfl) ?_
  refine lv_iload hx hb dL_law_1056 (lv_at hl 0 rfl) ?_
  refine lv_iconst (v := 1) hx hb dL_law_1058 (by decide) ?_
  refine lv_iadd hx hb dL_law_1059 ?_
  refine va_sld (i := i + 1) hx hb hX hbl hbA hS (lw_in hi (by decide)) dL_law_1060 ?_
  refine tq_i (w := w1) hw1 ?_
  obtain ⟨⟨r1, L_2, Tu_3, Z_4, q2_5⟩, hcx, hq6⟩ := (t_X7_got pa qa P L Tu Z q2 q4 w1 bP bTu bZ dz e4)
  refine lw_ci (As := [.int w1]) (rest := []) hP hD hS hA hK hN ⟨hx, hb, hml, hown, hT⟩ (c_X7_got l G cA H.size xa ka ra na ia ua va ca za pa qa X K R P L P2 L2 Tn Ti Tu Tv C Z q0 q1 q2 q3 q4 q5 w1 r1 L_2 Tu_3 Z_4 q2_5 hcx) (cwV 1 hT (tq_gV kw_55_7 kw_55_8 kw_55_9 kw_1_2 kw_55_10) rfl rfl rfl (by decide +kernel) ⟨Nat.le_of_ble_eq_true rfl, Nat.le_of_ble_eq_true rfl⟩) (wX_rec hK hP) rfl hl.1 rfl (lv_room (Nat.le_of_ble_eq_true rfl)) dL_law_1061 hfit (fun _ _ H locs z9 hP hD hS => ?_)
  have z9 := z9.symm
  subst z9
  refine lv_pop hx hb dL_law_1064 rfl ?_
  refine lv_aload_n hx hb dL_law_1065 rfl (lv_at hl 2 rfl) ?_
  refine lv_aload_n hx hb dL_law_1066 rfl (lv_at hl 4 rfl) ?_
  refine lv_iload hx hb dL_law_1067 (lv_at hl 0 rfl) ?_
  refine lv_iconst (v := 1) hx hb dL_law_1069 (by decide) ?_
  refine lv_iadd hx hb dL_law_1070 ?_
  refine va_sld (i := i + 1) hx hb hX hbl hbA hS (lw_in hi (by decide)) dL_law_1071 ?_
  refine tq_i (w := w1) hw1 ?_
  obtain ⟨⟨r7, S_8, LM_9⟩, hcm, hq10⟩ := (Q_got S LM w1 jx)
  replace hP : va_P G vwCl (wM cA aa S LM ++ (wX cA xa ka ra na ia ua va ca za pa qa X K R P L_2 P2 L2 Tn Ti Tu_3 Tv C Z_4 q0 q1 q2_5 q3 q4 q5 ++ [(oa, .inl (cA 2, 1, .inr (.inl og)))])) H := tw_P wl_rot hP
  replace hD : va_D A (wM cA aa S LM ++ (wX cA xa ka ra na ia ua va ca za pa qa X K R P L_2 P2 L2 Tn Ti Tu_3 Tv C Z_4 q0 q1 q2_5 q3 q4 q5 ++ [(oa, .inl (cA 2, 1, .inr (.inl og)))])) := tw_D wl_rot hD
  refine lw_ci (As := [.int w1]) (rest := []) hP hD hS hA hK hN ⟨hx, hb, hml, hown, hT⟩ (c_X8_got l G cA H.size aa S LM w1 r7 S_8 LM_9 hcm) (cwV 1 hT (tq_gV kw_56_6 kw_56_7 kw_56_8 kw_1_5 kw_56_9) rfl rfl rfl (by decide +kernel) ⟨Nat.le_of_ble_eq_true rfl, Nat.le_of_ble_eq_true rfl⟩) (wM_rec hK hP) rfl hl.1 rfl (lv_room (Nat.le_of_ble_eq_true rfl)) dL_law_1072 hfit (fun _ _ H locs z9 hP hD hS => ?_)
  have z9 := z9.symm
  subst z9
  replace hP : va_P G vwCl (wX cA xa ka ra na ia ua va ca za pa qa X K R P L_2 P2 L2 Tn Ti Tu_3 Tv C Z_4 q0 q1 q2_5 q3 q4 q5 ++ (wM cA aa S_8 LM_9 ++ [(oa, .inl (cA 2, 1, .inr (.inl og)))])) H := tw_P wl_rot hP
  replace hD : va_D A (wX cA xa ka ra na ia ua va ca za pa qa X K R P L_2 P2 L2 Tn Ti Tu_3 Tv C Z_4 q0 q1 q2_5 q3 q4 q5 ++ (wM cA aa S_8 LM_9 ++ [(oa, .inl (cA 2, 1, .inr (.inl og)))])) := tw_D wl_rot hD
  refine lv_pop hx hb dL_law_1075 rfl ?_
  refine lv_goto (tgt := 1217) hx hb dL_law_1076 (by decide) ?_
  exact hk H locs ls ⟨xa, ka, ra, na, ia, ua, va, ca, za, pa, qa, aa, X, K, R, P, L_2, P2, L2, Tn, Ti, Tu_3, Tv, C, Z_4, q0, q1, q2_5, q3, q4, q5, S_8, LM_9, og, rfl, rfl, ⟨bX, bK, bR, bP, bP2, bTn, bTi, hq6.1, bTv, bC, hq6.2.1, hq6.2.2, e0, e4, e5, e1⟩, hq10.1, (E_got hok jx hrel hcx hcm), hP, hD⟩ hS hl
set_option maxHeartbeats 4000000 in
set_option maxRecDepth 100000 in
theorem lc_28 {p : Program} {e : Env} {s : State} {m : MethodId} {below : List Frame} {meth : Method} {c : Code} (l : Launch) {b Ln : Nat} {xs : Nat → Int32} (C0 : lw_At p s m meth c b Ln xs) (G : va_G) (cA : Nat → ClassId) {A : Nat → Prop} (hAe : A = fun q : Nat => s.heap.size ≤ q) (hK : va_K G vwCl (tyL cA) s) (hN : tqN s) {bA : Nat} (hB : tqB bA A s s.heap) {H : Heap} {locs : List Loc} {ls : Array Slot} {kc ks : Nat} (hfit : kc ≤ 601024 ∧ ks ≤ 7293034) {i : Int32} (hi : 0 ≤ i.toInt ∧ i.toInt + 6 ≤ (Ln : Int)) (hLn : Ln ≤ 3072) {x0 mm oa : Nat} (hI : lwP G cA A x0 mm oa H) (hS : va_S A s.heap H locs) (hl : lv_has ls 7 [(4, .int i), (3, .ref oa), (2, .ref mm), (1, .ref x0), (0, .ref b)]) (hk : (∀ (H : Heap) (locs : List Loc) (ls : Array Slot), lwP G cA A x0 mm oa H → va_S A s.heap H locs → lv_has ls 7 [(4, .int i), (3, .ref oa), (2, .ref mm), (1, .ref x0), (0, .ref b)] → W p l e room_1 s m #[Value.ref b] below meth c H locs kc ks (lw_Z below #[Value.ref b] s) (F0 m 1217 ls []))) : W p l e room_1 s m #[Value.ref b] below meth c H locs kc ks (lw_Z below #[Value.ref b] s) (F0 m 1079 ls []) := by
  obtain ⟨hx, hb, hr, hml, hown, hts, hX, hbl, hlocks, hgv⟩ := id C0
  have hT : ∀ v ∈ T0, v.before #[Value.ref b] s = true := fun v h => hts v (tq_law_in v h)
  have hown : s.vm.findClass RL = some m.cls := hown
  have hA : ∀ q : Nat, s.heap.size ≤ q → A q := fun q h => by rw [hAe]; exact h
  have hbA : ¬ A b := by rw [hAe]; exact Nat.not_le.mpr hbl
  obtain ⟨xa, ka, ra, na, ia, ua, va, ca, za, pa, qa, aa, X, K, R, P, L, P2, L2, Tn, Ti, Tu, Tv, C, Z, q0, q1, q2, q3, q4, q5, S, LM, og, rfl, rfl, hok, jx, hrel, hP, hD⟩ := hI
  obtain ⟨bX, bK, bR, bP, bP2, bTn, bTi, bTu, bTv, bC, bZ, dz, e0, e4, e5, e1⟩ := id hok
  obtain ⟨w1, hw1⟩ : ∃ z, xs (i + 1).toNatClampNeg = z := ⟨_, rfl⟩
  obtain ⟨w2, hw2⟩ : ∃ z, xs (i + 2).toNatClampNeg = z := ⟨_, rfl⟩
  obtain ⟨w3, hw3⟩ : ∃ z, xs (i + 3).toNatClampNeg = z := ⟨_, rfl⟩
  obtain ⟨w4, hw4⟩ : ∃ z, xs (i + 4).toNatClampNeg = z := ⟨_, rfl⟩
  obtain ⟨w5, hw5⟩ : ∃ z, xs (i + 5).toNatClampNeg = z := ⟨_, rfl⟩
  refine lv_aload_n hx hb dL_law_1079 rfl (lv_at hl 3 rfl) ?_
  refine lv_aload_n hx hb dL_law_1080 rfl (lv_at hl 4 rfl) ?_
  refine lv_iload hx hb dL_law_1081 (lv_at hl 0 rfl) ?_
  refine lv_iconst (v := 1) hx hb dL_law_1083 (by decide) ?_
  refine lv_iadd hx hb dL_law_1084 ?_
  refine va_sld (i := i + 1) hx hb hX hbl hbA hS (lw_in hi (by decide)) dL_law_1085 ?_
  refine tq_i (w := w1) hw1 ?_
  refine lv_aload_n hx hb dL_law_1086 rfl (lv_at hl 4 rfl) ?_
  refine lv_iload hx hb dL_law_1087 (lv_at hl 0 rfl) ?_
  refine lv_iconst (v := 2) hx hb dL_law_1089 (by decide) ?_
  refine lv_iadd hx hb dL_law_1090 ?_
  refine va_sld (i := i + 2) hx hb hX hbl hbA hS (lw_in hi (by decide)) dL_law_1091 ?_
  refine tq_i (w := w2) hw2 ?_
  obtain ⟨⟨r1, L_2, Tu_3, q2_4⟩, hcx, hq5⟩ := (t_X7_chance pa qa P L Tn Tu q0 q2 q4 w1 w2 bP bTn bTu e0 e4)
  refine lw_ci (As := [.int w1, .int w2]) (rest := []) hP hD hS hA hK hN ⟨hx, hb, hml, hown, hT⟩ (c_X7_chance l G cA H.size xa ka ra na ia ua va ca za pa qa X K R P L P2 L2 Tn Ti Tu Tv C Z q0 q1 q2 q3 q4 q5 w1 w2 r1 L_2 Tu_3 q2_4 hcx) (cwV 2 hT (tq_gV kw_56_22 kw_56_23 kw_57_0 kw_1_2 kw_57_1) rfl rfl rfl (by decide +kernel) ⟨Nat.le_of_ble_eq_true rfl, Nat.le_of_ble_eq_true rfl⟩) (wX_rec hK hP) rfl hl.1 rfl (lv_room (Nat.le_of_ble_eq_true rfl)) dL_law_1092 hfit (fun _ _ H locs z9 hP hD hS => ?_)
  have z9 := z9.symm
  subst z9
  refine lv_pop hx hb dL_law_1095 rfl ?_
  refine lv_aload_n hx hb dL_law_1096 rfl (lv_at hl 2 rfl) ?_
  refine lv_aload_n hx hb dL_law_1097 rfl (lv_at hl 4 rfl) ?_
  refine lv_iload hx hb dL_law_1098 (lv_at hl 0 rfl) ?_
  refine lv_iconst (v := 1) hx hb dL_law_1100 (by decide) ?_
  refine lv_iadd hx hb dL_law_1101 ?_
  refine va_sld (i := i + 1) hx hb hX hbl hbA hS (lw_in hi (by decide)) dL_law_1102 ?_
  refine tq_i (w := w1) hw1 ?_
  refine lv_aload_n hx hb dL_law_1103 rfl (lv_at hl 4 rfl) ?_
  refine lv_iload hx hb dL_law_1104 (lv_at hl 0 rfl) ?_
  refine lv_iconst (v := 2) hx hb dL_law_1106 (by decide) ?_
  refine lv_iadd hx hb dL_law_1107 ?_
  refine va_sld (i := i + 2) hx hb hX hbl hbA hS (lw_in hi (by decide)) dL_law_1108 ?_
  refine tq_i (w := w2) hw2 ?_
  obtain ⟨⟨r6, S_7, LM_8⟩, hcm, hq9⟩ := (Q_chance S LM w1 w2 jx)
  replace hP : va_P G vwCl (wM cA aa S LM ++ (wX cA xa ka ra na ia ua va ca za pa qa X K R P L_2 P2 L2 Tn Ti Tu_3 Tv C Z q0 q1 q2_4 q3 q4 q5 ++ [(oa, .inl (cA 2, 1, .inr (.inl og)))])) H := tw_P wl_rot hP
  replace hD : va_D A (wM cA aa S LM ++ (wX cA xa ka ra na ia ua va ca za pa qa X K R P L_2 P2 L2 Tn Ti Tu_3 Tv C Z q0 q1 q2_4 q3 q4 q5 ++ [(oa, .inl (cA 2, 1, .inr (.inl og)))])) := tw_D wl_rot hD
  refine lw_ci (As := [.int w1, .int w2]) (rest := []) hP hD hS hA hK hN ⟨hx, hb, hml, hown, hT⟩ (c_X8_chance l G cA H.size aa S LM w1 w2 r6 S_7 LM_8 hcm) (cwV 2 hT (tq_gV kw_57_3 kw_57_4 kw_57_5 kw_1_5 kw_57_6) rfl rfl rfl (by decide +kernel) ⟨Nat.le_of_ble_eq_true rfl, Nat.le_of_ble_eq_true rfl⟩) (wM_rec hK hP) rfl hl.1 rfl (lv_room (Nat.le_of_ble_eq_true rfl)) dL_law_1109 hfit (fun _ _ H locs z9 hP hD hS => ?_)
  have z9 := z9.symm
  subst z9
  replace hP : va_P G vwCl (wX cA xa ka ra na ia ua va ca za pa qa X K R P L_2 P2 L2 Tn Ti Tu_3 Tv C Z q0 q1 q2_4 q3 q4 q5 ++ (wM cA aa S_7 LM_8 ++ [(oa, .inl (cA 2, 1, .inr (.inl og)))])) H := tw_P wl_rot hP
  replace hD : va_D A (wX cA xa ka ra na ia ua va ca za pa qa X K R P L_2 P2 L2 Tn Ti Tu_3 Tv C Z q0 q1 q2_4 q3 q4 q5 ++ (wM cA aa S_7 LM_8 ++ [(oa, .inl (cA 2, 1, .inr (.inl og)))])) := tw_D wl_rot hD
  refine lv_pop hx hb dL_law_1112 rfl ?_
  refine lv_goto (tgt := 1217) hx hb dL_law_1113 (by decide) ?_
  exact hk H locs ls ⟨xa, ka, ra, na, ia, ua, va, ca, za, pa, qa, aa, X, K, R, P, L_2, P2, L2, Tn, Ti, Tu_3, Tv, C, Z, q0, q1, q2_4, q3, q4, q5, S_7, LM_8, og, rfl, rfl, ⟨bX, bK, bR, bP, bP2, bTn, bTi, hq5, bTv, bC, bZ, dz, e0, e4, e5, e1⟩, hq9.1, (E_chance hok jx hrel hcx hcm), hP, hD⟩ hS hl
set_option maxHeartbeats 4000000 in
set_option maxRecDepth 100000 in
theorem lc_29 {p : Program} {e : Env} {s : State} {m : MethodId} {below : List Frame} {meth : Method} {c : Code} (l : Launch) {b Ln : Nat} {xs : Nat → Int32} (C0 : lw_At p s m meth c b Ln xs) (G : va_G) (cA : Nat → ClassId) {A : Nat → Prop} (hAe : A = fun q : Nat => s.heap.size ≤ q) (hK : va_K G vwCl (tyL cA) s) (hN : tqN s) {bA : Nat} (hB : tqB bA A s s.heap) {H : Heap} {locs : List Loc} {ls : Array Slot} {kc ks : Nat} (hfit : kc ≤ 601024 ∧ ks ≤ 7293034) {i : Int32} (hi : 0 ≤ i.toInt ∧ i.toInt + 6 ≤ (Ln : Int)) (hLn : Ln ≤ 3072) {x0 mm oa : Nat} (hI : lwP G cA A x0 mm oa H) (hS : va_S A s.heap H locs) (hl : lv_has ls 7 [(4, .int i), (3, .ref oa), (2, .ref mm), (1, .ref x0), (0, .ref b)]) (hk : (∀ (H : Heap) (locs : List Loc) (ls : Array Slot), lwP G cA A x0 mm oa H → va_S A s.heap H locs → lv_has ls 7 [(4, .int i), (3, .ref oa), (2, .ref mm), (1, .ref x0), (0, .ref b)] → W p l e room_1 s m #[Value.ref b] below meth c H locs kc ks (lw_Z below #[Value.ref b] s) (F0 m 1217 ls []))) : W p l e room_1 s m #[Value.ref b] below meth c H locs kc ks (lw_Z below #[Value.ref b] s) (F0 m 1116 ls []) := by
  obtain ⟨hx, hb, hr, hml, hown, hts, hX, hbl, hlocks, hgv⟩ := id C0
  have hT : ∀ v ∈ T0, v.before #[Value.ref b] s = true := fun v h => hts v (tq_law_in v h)
  have hown : s.vm.findClass RL = some m.cls := hown
  have hA : ∀ q : Nat, s.heap.size ≤ q → A q := fun q h => by rw [hAe]; exact h
  have hbA : ¬ A b := by rw [hAe]; exact Nat.not_le.mpr hbl
  obtain ⟨xa, ka, ra, na, ia, ua, va, ca, za, pa, qa, aa, X, K, R, P, L, P2, L2, Tn, Ti, Tu, Tv, C, Z, q0, q1, q2, q3, q4, q5, S, LM, og, rfl, rfl, hok, jx, hrel, hP, hD⟩ := hI
  obtain ⟨bX, bK, bR, bP, bP2, bTn, bTi, bTu, bTv, bC, bZ, dz, e0, e4, e5, e1⟩ := id hok
  obtain ⟨w1, hw1⟩ : ∃ z, xs (i + 1).toNatClampNeg = z := ⟨_, rfl⟩
  obtain ⟨w2, hw2⟩ : ∃ z, xs (i + 2).toNatClampNeg = z := ⟨_, rfl⟩
  obtain ⟨w3, hw3⟩ : ∃ z, xs (i + 3).toNatClampNeg = z := ⟨_, rfl⟩
  obtain ⟨w4, hw4⟩ : ∃ z, xs (i + 4).toNatClampNeg = z := ⟨_, rfl⟩
  obtain ⟨w5, hw5⟩ : ∃ z, xs (i + 5).toNatClampNeg = z := ⟨_, rfl⟩
  refine lv_aload_n hx hb dL_law_1116 rfl (lv_at hl 3 rfl) ?_
  refine lv_aload_n hx hb dL_law_1117 rfl (lv_at hl 4 rfl) ?_
  refine lv_iload hx hb dL_law_1118 (lv_at hl 0 rfl) ?_
  refine lv_iconst (v := 1) hx hb dL_law_1120 (by decide) ?_
  refine lv_iadd hx hb dL_law_1121 ?_
  refine va_sld (i := i + 1) hx hb hX hbl hbA hS (lw_in hi (by decide)) dL_law_1122 ?_
  refine tq_i (w := w1) hw1 ?_
  refine lv_aload_n hx hb dL_law_1123 rfl (lv_at hl 4 rfl) ?_
  refine lv_iload hx hb dL_law_1124 (lv_at hl 0 rfl) ?_
  refine lv_iconst (v := 2) hx hb dL_law_1126 (by decide) ?_
  refine lv_iadd hx hb dL_law_1127 ?_
  refine va_sld (i := i + 2) hx hb hX hbl hbA hS (lw_in hi (by decide)) dL_law_1128 ?_
  refine tq_i (w := w2) hw2 ?_
  obtain ⟨⟨r1, L_2, Tu_3, q2_4⟩, hcx, hq5⟩ := (t_X7_tried pa qa P L Tn Tu q0 q2 q4 w1 w2 bP bTn bTu e0 e4)
  refine lw_ci (As := [.int w1, .int w2]) (rest := []) hP hD hS hA hK hN ⟨hx, hb, hml, hown, hT⟩ (c_X7_tried l G cA H.size xa ka ra na ia ua va ca za pa qa X K R P L P2 L2 Tn Ti Tu Tv C Z q0 q1 q2 q3 q4 q5 w1 w2 r1 L_2 Tu_3 q2_4 hcx) (cwV 2 hT (tq_gV kw_57_7 kw_57_8 kw_57_9 kw_1_2 kw_57_10) rfl rfl rfl (by decide +kernel) ⟨Nat.le_of_ble_eq_true rfl, Nat.le_of_ble_eq_true rfl⟩) (wX_rec hK hP) rfl hl.1 rfl (lv_room (Nat.le_of_ble_eq_true rfl)) dL_law_1129 hfit (fun _ _ H locs z9 hP hD hS => ?_)
  have z9 := z9.symm
  subst z9
  refine lv_pop hx hb dL_law_1132 rfl ?_
  refine lv_aload_n hx hb dL_law_1133 rfl (lv_at hl 2 rfl) ?_
  refine lv_aload_n hx hb dL_law_1134 rfl (lv_at hl 4 rfl) ?_
  refine lv_iload hx hb dL_law_1135 (lv_at hl 0 rfl) ?_
  refine lv_iconst (v := 1) hx hb dL_law_1137 (by decide) ?_
  refine lv_iadd hx hb dL_law_1138 ?_
  refine va_sld (i := i + 1) hx hb hX hbl hbA hS (lw_in hi (by decide)) dL_law_1139 ?_
  refine tq_i (w := w1) hw1 ?_
  refine lv_aload_n hx hb dL_law_1140 rfl (lv_at hl 4 rfl) ?_
  refine lv_iload hx hb dL_law_1141 (lv_at hl 0 rfl) ?_
  refine lv_iconst (v := 2) hx hb dL_law_1143 (by decide) ?_
  refine lv_iadd hx hb dL_law_1144 ?_
  refine va_sld (i := i + 2) hx hb hX hbl hbA hS (lw_in hi (by decide)) dL_law_1145 ?_
  refine tq_i (w := w2) hw2 ?_
  obtain ⟨⟨r6, S_7, LM_8⟩, hcm, hq9⟩ := (Q_tried S LM w1 w2 jx)
  replace hP : va_P G vwCl (wM cA aa S LM ++ (wX cA xa ka ra na ia ua va ca za pa qa X K R P L_2 P2 L2 Tn Ti Tu_3 Tv C Z q0 q1 q2_4 q3 q4 q5 ++ [(oa, .inl (cA 2, 1, .inr (.inl og)))])) H := tw_P wl_rot hP
  replace hD : va_D A (wM cA aa S LM ++ (wX cA xa ka ra na ia ua va ca za pa qa X K R P L_2 P2 L2 Tn Ti Tu_3 Tv C Z q0 q1 q2_4 q3 q4 q5 ++ [(oa, .inl (cA 2, 1, .inr (.inl og)))])) := tw_D wl_rot hD
  refine lw_ci (As := [.int w1, .int w2]) (rest := []) hP hD hS hA hK hN ⟨hx, hb, hml, hown, hT⟩ (c_X8_tried l G cA H.size aa S LM w1 w2 r6 S_7 LM_8 hcm) (cwV 2 hT (tq_gV kw_57_20 kw_57_21 kw_57_22 kw_1_5 kw_57_23) rfl rfl rfl (by decide +kernel) ⟨Nat.le_of_ble_eq_true rfl, Nat.le_of_ble_eq_true rfl⟩) (wM_rec hK hP) rfl hl.1 rfl (lv_room (Nat.le_of_ble_eq_true rfl)) dL_law_1146 hfit (fun _ _ H locs z9 hP hD hS => ?_)
  have z9 := z9.symm
  subst z9
  replace hP : va_P G vwCl (wX cA xa ka ra na ia ua va ca za pa qa X K R P L_2 P2 L2 Tn Ti Tu_3 Tv C Z q0 q1 q2_4 q3 q4 q5 ++ (wM cA aa S_7 LM_8 ++ [(oa, .inl (cA 2, 1, .inr (.inl og)))])) H := tw_P wl_rot hP
  replace hD : va_D A (wX cA xa ka ra na ia ua va ca za pa qa X K R P L_2 P2 L2 Tn Ti Tu_3 Tv C Z q0 q1 q2_4 q3 q4 q5 ++ (wM cA aa S_7 LM_8 ++ [(oa, .inl (cA 2, 1, .inr (.inl og)))])) := tw_D wl_rot hD
  refine lv_pop hx hb dL_law_1149 rfl ?_
  refine lv_goto (tgt := 1217) hx hb dL_law_1150 (by decide) ?_
  exact hk H locs ls ⟨xa, ka, ra, na, ia, ua, va, ca, za, pa, qa, aa, X, K, R, P, L_2, P2, L2, Tn, Ti, Tu_3, Tv, C, Z, q0, q1, q2_4, q3, q4, q5, S_7, LM_8, og, rfl, rfl, ⟨bX, bK, bR, bP, bP2, bTn, bTi, hq5, bTv, bC, bZ, dz, e0, e4, e5, e1⟩, hq9.1, (E_tried hok jx hrel hcx hcm), hP, hD⟩ hS hl
set_option maxHeartbeats 4000000 in
set_option maxRecDepth 100000 in
theorem lc_30 {p : Program} {e : Env} {s : State} {m : MethodId} {below : List Frame} {meth : Method} {c : Code} (l : Launch) {b Ln : Nat} {xs : Nat → Int32} (C0 : lw_At p s m meth c b Ln xs) (G : va_G) (cA : Nat → ClassId) {A : Nat → Prop} (hAe : A = fun q : Nat => s.heap.size ≤ q) (hK : va_K G vwCl (tyL cA) s) (hN : tqN s) {bA : Nat} (hB : tqB bA A s s.heap) {H : Heap} {locs : List Loc} {ls : Array Slot} {kc ks : Nat} (hfit : kc ≤ 601024 ∧ ks ≤ 7293034) {i : Int32} (hi : 0 ≤ i.toInt ∧ i.toInt + 6 ≤ (Ln : Int)) (hLn : Ln ≤ 3072) {x0 mm oa : Nat} (hI : lwP G cA A x0 mm oa H) (hS : va_S A s.heap H locs) (hl : lv_has ls 7 [(4, .int i), (3, .ref oa), (2, .ref mm), (1, .ref x0), (0, .ref b)]) (hk : (∀ (H : Heap) (locs : List Loc) (ls : Array Slot), lwP G cA A x0 mm oa H → va_S A s.heap H locs → lv_has ls 7 [(4, .int i), (3, .ref oa), (2, .ref mm), (1, .ref x0), (0, .ref b)] → W p l e room_1 s m #[Value.ref b] below meth c H locs kc ks (lw_Z below #[Value.ref b] s) (F0 m 1217 ls []))) : W p l e room_1 s m #[Value.ref b] below meth c H locs kc ks (lw_Z below #[Value.ref b] s) (F0 m 1153 ls []) := by
  obtain ⟨hx, hb, hr, hml, hown, hts, hX, hbl, hlocks, hgv⟩ := id C0
  have hT : ∀ v ∈ T0, v.before #[Value.ref b] s = true := fun v h => hts v (tq_law_in v h)
  have hown : s.vm.findClass RL = some m.cls := hown
  have hA : ∀ q : Nat, s.heap.size ≤ q → A q := fun q h => by rw [hAe]; exact h
  have hbA : ¬ A b := by rw [hAe]; exact Nat.not_le.mpr hbl
  obtain ⟨xa, ka, ra, na, ia, ua, va, ca, za, pa, qa, aa, X, K, R, P, L, P2, L2, Tn, Ti, Tu, Tv, C, Z, q0, q1, q2, q3, q4, q5, S, LM, og, rfl, rfl, hok, jx, hrel, hP, hD⟩ := hI
  obtain ⟨bX, bK, bR, bP, bP2, bTn, bTi, bTu, bTv, bC, bZ, dz, e0, e4, e5, e1⟩ := id hok
  obtain ⟨w1, hw1⟩ : ∃ z, xs (i + 1).toNatClampNeg = z := ⟨_, rfl⟩
  obtain ⟨w2, hw2⟩ : ∃ z, xs (i + 2).toNatClampNeg = z := ⟨_, rfl⟩
  obtain ⟨w3, hw3⟩ : ∃ z, xs (i + 3).toNatClampNeg = z := ⟨_, rfl⟩
  obtain ⟨w4, hw4⟩ : ∃ z, xs (i + 4).toNatClampNeg = z := ⟨_, rfl⟩
  obtain ⟨w5, hw5⟩ : ∃ z, xs (i + 5).toNatClampNeg = z := ⟨_, rfl⟩
  refine lv_aload_n hx hb dL_law_1153 rfl (lv_at hl 3 rfl) ?_
  obtain ⟨⟨r1, Tn_2, C_3⟩, hcx, hq4⟩ := (t_X7_undo pa qa Tn C bTn bC)
  refine lw_ci (As := []) (rest := []) hP hD hS hA hK hN ⟨hx, hb, hml, hown, hT⟩ (c_X7_undo l G cA H.size xa ka ra na ia ua va ca za pa qa X K R P L P2 L2 Tn Ti Tu Tv C Z q0 q1 q2 q3 q4 q5 r1 Tn_2 C_3 hcx) (cwV 0 hT (tq_gV kw_58_0 kw_58_1 kw_58_2 kw_1_2 kw_58_3) rfl rfl rfl (by decide +kernel) ⟨Nat.le_of_ble_eq_true rfl, Nat.le_of_ble_eq_true rfl⟩) (wX_rec hK hP) rfl hl.1 rfl (lv_room (Nat.le_of_ble_eq_true rfl)) dL_law_1154 hfit (fun _ _ H locs z9 hP hD hS => ?_)
  have z9 := z9.symm
  subst z9
  refine lv_pop hx hb dL_law_1157 rfl ?_
  refine lv_aload_n hx hb dL_law_1158 rfl (lv_at hl 2 rfl) ?_
  obtain ⟨⟨r5, S_6⟩, hcm, hq7⟩ := (Q_undo S jx)
  replace hP : va_P G vwCl (wM cA aa S LM ++ (wX cA xa ka ra na ia ua va ca za pa qa X K R P L P2 L2 Tn_2 Ti Tu Tv C_3 Z q0 q1 q2 q3 q4 q5 ++ [(oa, .inl (cA 2, 1, .inr (.inl og)))])) H := tw_P wl_rot hP
  replace hD : va_D A (wM cA aa S LM ++ (wX cA xa ka ra na ia ua va ca za pa qa X K R P L P2 L2 Tn_2 Ti Tu Tv C_3 Z q0 q1 q2 q3 q4 q5 ++ [(oa, .inl (cA 2, 1, .inr (.inl og)))])) := tw_D wl_rot hD
  refine lw_ci (As := []) (rest := []) hP hD hS hA hK hN ⟨hx, hb, hml, hown, hT⟩ (c_X8_undo l G cA H.size aa S LM r5 S_6 hcm) (cwV 0 hT (tq_gV kw_58_12 kw_58_13 kw_58_14 kw_1_5 kw_58_15) rfl rfl rfl (by decide +kernel) ⟨Nat.le_of_ble_eq_true rfl, Nat.le_of_ble_eq_true rfl⟩) (wM_rec hK hP) rfl hl.1 rfl (lv_room (Nat.le_of_ble_eq_true rfl)) dL_law_1159 hfit (fun _ _ H locs z9 hP hD hS => ?_)
  have z9 := z9.symm
  subst z9
  replace hP : va_P G vwCl (wX cA xa ka ra na ia ua va ca za pa qa X K R P L P2 L2 Tn_2 Ti Tu Tv C_3 Z q0 q1 q2 q3 q4 q5 ++ (wM cA aa S_6 LM ++ [(oa, .inl (cA 2, 1, .inr (.inl og)))])) H := tw_P wl_rot hP
  replace hD : va_D A (wX cA xa ka ra na ia ua va ca za pa qa X K R P L P2 L2 Tn_2 Ti Tu Tv C_3 Z q0 q1 q2 q3 q4 q5 ++ (wM cA aa S_6 LM ++ [(oa, .inl (cA 2, 1, .inr (.inl og)))])) := tw_D wl_rot hD
  refine lv_pop hx hb dL_law_1162 rfl ?_
  refine lv_goto (tgt := 1217) hx hb dL_law_1163 (by decide) ?_
  exact hk H locs ls ⟨xa, ka, ra, na, ia, ua, va, ca, za, pa, qa, aa, X, K, R, P, L, P2, L2, Tn_2, Ti, Tu, Tv, C_3, Z, q0, q1, q2, q3, q4, q5, S_6, LM, og, rfl, rfl, ⟨bX, bK, bR, bP, bP2, hq4.1, bTi, bTu, bTv, hq4.2, bZ, dz, e0, e4, e5, e1⟩, hq7.1, (E_undo hok jx hrel hcx hcm), hP, hD⟩ hS hl
set_option maxHeartbeats 4000000 in
set_option maxRecDepth 100000 in
theorem lc_31 {p : Program} {e : Env} {s : State} {m : MethodId} {below : List Frame} {meth : Method} {c : Code} (l : Launch) {b Ln : Nat} {xs : Nat → Int32} (C0 : lw_At p s m meth c b Ln xs) (G : va_G) (cA : Nat → ClassId) {A : Nat → Prop} (hAe : A = fun q : Nat => s.heap.size ≤ q) (hK : va_K G vwCl (tyL cA) s) (hN : tqN s) {bA : Nat} (hB : tqB bA A s s.heap) {H : Heap} {locs : List Loc} {ls : Array Slot} {kc ks : Nat} (hfit : kc ≤ 601024 ∧ ks ≤ 7293034) {i : Int32} (hi : 0 ≤ i.toInt ∧ i.toInt + 6 ≤ (Ln : Int)) (hLn : Ln ≤ 3072) {x0 mm oa : Nat} (hI : lwP G cA A x0 mm oa H) (hS : va_S A s.heap H locs) (hl : lv_has ls 7 [(4, .int i), (3, .ref oa), (2, .ref mm), (1, .ref x0), (0, .ref b)]) (hk : (∀ (H : Heap) (locs : List Loc) (ls : Array Slot), lwP G cA A x0 mm oa H → va_S A s.heap H locs → lv_has ls 7 [(4, .int i), (3, .ref oa), (2, .ref mm), (1, .ref x0), (0, .ref b)] → W p l e room_1 s m #[Value.ref b] below meth c H locs kc ks (lw_Z below #[Value.ref b] s) (F0 m 1217 ls []))) : W p l e room_1 s m #[Value.ref b] below meth c H locs kc ks (lw_Z below #[Value.ref b] s) (F0 m 1166 ls []) := by
  obtain ⟨hx, hb, hr, hml, hown, hts, hX, hbl, hlocks, hgv⟩ := id C0
  have hT : ∀ v ∈ T0, v.before #[Value.ref b] s = true := fun v h => hts v (tq_law_in v h)
  have hown : s.vm.findClass RL = some m.cls := hown
  have hA : ∀ q : Nat, s.heap.size ≤ q → A q := fun q h => by rw [hAe]; exact h
  have hbA : ¬ A b := by rw [hAe]; exact Nat.not_le.mpr hbl
  obtain ⟨xa, ka, ra, na, ia, ua, va, ca, za, pa, qa, aa, X, K, R, P, L, P2, L2, Tn, Ti, Tu, Tv, C, Z, q0, q1, q2, q3, q4, q5, S, LM, og, rfl, rfl, hok, jx, hrel, hP, hD⟩ := hI
  obtain ⟨bX, bK, bR, bP, bP2, bTn, bTi, bTu, bTv, bC, bZ, dz, e0, e4, e5, e1⟩ := id hok
  obtain ⟨w1, hw1⟩ : ∃ z, xs (i + 1).toNatClampNeg = z := ⟨_, rfl⟩
  obtain ⟨w2, hw2⟩ : ∃ z, xs (i + 2).toNatClampNeg = z := ⟨_, rfl⟩
  obtain ⟨w3, hw3⟩ : ∃ z, xs (i + 3).toNatClampNeg = z := ⟨_, rfl⟩
  obtain ⟨w4, hw4⟩ : ∃ z, xs (i + 4).toNatClampNeg = z := ⟨_, rfl⟩
  obtain ⟨w5, hw5⟩ : ∃ z, xs (i + 5).toNatClampNeg = z := ⟨_, rfl⟩
  refine lv_aload_n hx hb dL_law_1166 rfl (lv_at hl 3 rfl) ?_
  obtain ⟨⟨r1, X_2, Ti_3, q1_4⟩, hcx, hq5⟩ := (t_X7_keep pa qa X Tn Ti q0 q1 bX bTn bTi e0)
  refine lw_ci (As := []) (rest := []) hP hD hS hA hK hN ⟨hx, hb, hml, hown, hT⟩ (c_X7_keep l G cA H.size xa ka ra na ia ua va ca za pa qa X K R P L P2 L2 Tn Ti Tu Tv C Z q0 q1 q2 q3 q4 q5 r1 X_2 Ti_3 q1_4 hcx) (cwV 0 hT (tq_gV kw_58_20 kw_58_21 kw_58_22 kw_1_2 kw_58_23) rfl rfl rfl (by decide +kernel) ⟨Nat.le_of_ble_eq_true rfl, Nat.le_of_ble_eq_true rfl⟩) (wX_rec hK hP) rfl hl.1 rfl (lv_room (Nat.le_of_ble_eq_true rfl)) dL_law_1167 hfit (fun _ _ H locs z9 hP hD hS => ?_)
  have z9 := z9.symm
  subst z9
  refine lv_pop hx hb dL_law_1170 rfl ?_
  refine lv_aload_n hx hb dL_law_1171 rfl (lv_at hl 2 rfl) ?_
  obtain ⟨⟨r6, S_7, LM_8⟩, hcm, hq9⟩ := (Q_keep S LM jx)
  replace hP : va_P G vwCl (wM cA aa S LM ++ (wX cA xa ka ra na ia ua va ca za pa qa X_2 K R P L P2 L2 Tn Ti_3 Tu Tv C Z q0 q1_4 q2 q3 q4 q5 ++ [(oa, .inl (cA 2, 1, .inr (.inl og)))])) H := tw_P wl_rot hP
  replace hD : va_D A (wM cA aa S LM ++ (wX cA xa ka ra na ia ua va ca za pa qa X_2 K R P L P2 L2 Tn Ti_3 Tu Tv C Z q0 q1_4 q2 q3 q4 q5 ++ [(oa, .inl (cA 2, 1, .inr (.inl og)))])) := tw_D wl_rot hD
  refine lw_ci (As := []) (rest := []) hP hD hS hA hK hN ⟨hx, hb, hml, hown, hT⟩ (c_X8_keep l G cA H.size aa S LM r6 S_7 LM_8 hcm) (cwV 0 hT (tq_gV kw_59_0 kw_59_1 kw_59_2 kw_1_5 kw_59_3) rfl rfl rfl (by decide +kernel) ⟨Nat.le_of_ble_eq_true rfl, Nat.le_of_ble_eq_true rfl⟩) (wM_rec hK hP) rfl hl.1 rfl (lv_room (Nat.le_of_ble_eq_true rfl)) dL_law_1172 hfit (fun _ _ H locs z9 hP hD hS => ?_)
  have z9 := z9.symm
  subst z9
  replace hP : va_P G vwCl (wX cA xa ka ra na ia ua va ca za pa qa X_2 K R P L P2 L2 Tn Ti_3 Tu Tv C Z q0 q1_4 q2 q3 q4 q5 ++ (wM cA aa S_7 LM_8 ++ [(oa, .inl (cA 2, 1, .inr (.inl og)))])) H := tw_P wl_rot hP
  replace hD : va_D A (wX cA xa ka ra na ia ua va ca za pa qa X_2 K R P L P2 L2 Tn Ti_3 Tu Tv C Z q0 q1_4 q2 q3 q4 q5 ++ (wM cA aa S_7 LM_8 ++ [(oa, .inl (cA 2, 1, .inr (.inl og)))])) := tw_D wl_rot hD
  refine lv_pop hx hb dL_law_1175 rfl ?_
  refine lv_goto (tgt := 1217) hx hb dL_law_1176 (by decide) ?_
  exact hk H locs ls ⟨xa, ka, ra, na, ia, ua, va, ca, za, pa, qa, aa, X_2, K, R, P, L, P2, L2, Tn, Ti_3, Tu, Tv, C, Z, q0, q1_4, q2, q3, q4, q5, S_7, LM_8, og, rfl, rfl, ⟨hq5.1, bK, bR, bP, bP2, bTn, hq5.2.1, bTu, bTv, bC, bZ, dz, e0, e4, e5, (fun _ => hq5.2.2)⟩, hq9.1, (E_keep hok jx hrel hcx hcm), hP, hD⟩ hS hl
set_option maxHeartbeats 4000000 in
set_option maxRecDepth 100000 in
theorem lc_32 {p : Program} {e : Env} {s : State} {m : MethodId} {below : List Frame} {meth : Method} {c : Code} (l : Launch) {b Ln : Nat} {xs : Nat → Int32} (C0 : lw_At p s m meth c b Ln xs) (G : va_G) (cA : Nat → ClassId) {A : Nat → Prop} (hAe : A = fun q : Nat => s.heap.size ≤ q) (hK : va_K G vwCl (tyL cA) s) (hN : tqN s) {bA : Nat} (hB : tqB bA A s s.heap) {H : Heap} {locs : List Loc} {ls : Array Slot} {kc ks : Nat} (hfit : kc ≤ 601024 ∧ ks ≤ 7293034) {i : Int32} (hi : 0 ≤ i.toInt ∧ i.toInt + 6 ≤ (Ln : Int)) (hLn : Ln ≤ 3072) {x0 mm oa : Nat} (hI : lwP G cA A x0 mm oa H) (hS : va_S A s.heap H locs) (hl : lv_has ls 7 [(4, .int i), (3, .ref oa), (2, .ref mm), (1, .ref x0), (0, .ref b)]) (hk : (∀ (H : Heap) (locs : List Loc) (ls : Array Slot), lwP G cA A x0 mm oa H → va_S A s.heap H locs → lv_has ls 7 [(4, .int i), (3, .ref oa), (2, .ref mm), (1, .ref x0), (0, .ref b)] → W p l e room_1 s m #[Value.ref b] below meth c H locs kc ks (lw_Z below #[Value.ref b] s) (F0 m 1217 ls []))) : W p l e room_1 s m #[Value.ref b] below meth c H locs kc ks (lw_Z below #[Value.ref b] s) (F0 m 1179 ls []) := by
  obtain ⟨hx, hb, hr, hml, hown, hts, hX, hbl, hlocks, hgv⟩ := id C0
  have hT : ∀ v ∈ T0, v.before #[Value.ref b] s = true := fun v h => hts v (tq_law_in v h)
  have hown : s.vm.findClass RL = some m.cls := hown
  have hA : ∀ q : Nat, s.heap.size ≤ q → A q := fun q h => by rw [hAe]; exact h
  have hbA : ¬ A b := by rw [hAe]; exact Nat.not_le.mpr hbl
  obtain ⟨xa, ka, ra, na, ia, ua, va, ca, za, pa, qa, aa, X, K, R, P, L, P2, L2, Tn, Ti, Tu, Tv, C, Z, q0, q1, q2, q3, q4, q5, S, LM, og, rfl, rfl, hok, jx, hrel, hP, hD⟩ := hI
  obtain ⟨bX, bK, bR, bP, bP2, bTn, bTi, bTu, bTv, bC, bZ, dz, e0, e4, e5, e1⟩ := id hok
  obtain ⟨w1, hw1⟩ : ∃ z, xs (i + 1).toNatClampNeg = z := ⟨_, rfl⟩
  obtain ⟨w2, hw2⟩ : ∃ z, xs (i + 2).toNatClampNeg = z := ⟨_, rfl⟩
  obtain ⟨w3, hw3⟩ : ∃ z, xs (i + 3).toNatClampNeg = z := ⟨_, rfl⟩
  obtain ⟨w4, hw4⟩ : ∃ z, xs (i + 4).toNatClampNeg = z := ⟨_, rfl⟩
  obtain ⟨w5, hw5⟩ : ∃ z, xs (i + 5).toNatClampNeg = z := ⟨_, rfl⟩
  refine lv_aload_n hx hb dL_law_1179 rfl (lv_at hl 3 rfl) ?_
  obtain ⟨⟨r1, Tn_2, C_3, q0_4⟩, hcx, hq5⟩ := (t_X7_back pa qa X Tn Ti C q0 q1 bX bTn bTi bC e0 e1)
  refine lw_ci (As := []) (rest := []) hP hD hS hA hK hN ⟨hx, hb, hml, hown, hT⟩ (c_X7_back l G cA H.size xa ka ra na ia ua va ca za pa qa X K R P L P2 L2 Tn Ti Tu Tv C Z q0 q1 q2 q3 q4 q5 r1 Tn_2 C_3 q0_4 hcx) (cwV 0 hT (tq_gV kw_59_7 kw_59_8 kw_59_9 kw_1_2 kw_59_10) rfl rfl rfl (by decide +kernel) ⟨Nat.le_of_ble_eq_true rfl, Nat.le_of_ble_eq_true rfl⟩) (wX_rec hK hP) rfl hl.1 rfl (lv_room (Nat.le_of_ble_eq_true rfl)) dL_law_1180 hfit (fun _ _ H locs z9 hP hD hS => ?_)
  have z9 := z9.symm
  subst z9
  refine lv_pop hx hb dL_law_1183 rfl ?_
  refine lv_aload_n hx hb dL_law_1184 rfl (lv_at hl 2 rfl) ?_
  obtain ⟨⟨r6, S_7, LM_8⟩, hcm, hq9⟩ := (Q_back S LM jx)
  replace hP : va_P G vwCl (wM cA aa S LM ++ (wX cA xa ka ra na ia ua va ca za pa qa X K R P L P2 L2 Tn_2 Ti Tu Tv C_3 Z q0_4 q1 q2 q3 q4 q5 ++ [(oa, .inl (cA 2, 1, .inr (.inl og)))])) H := tw_P wl_rot hP
  replace hD : va_D A (wM cA aa S LM ++ (wX cA xa ka ra na ia ua va ca za pa qa X K R P L P2 L2 Tn_2 Ti Tu Tv C_3 Z q0_4 q1 q2 q3 q4 q5 ++ [(oa, .inl (cA 2, 1, .inr (.inl og)))])) := tw_D wl_rot hD
  refine lw_ci (As := []) (rest := []) hP hD hS hA hK hN ⟨hx, hb, hml, hown, hT⟩ (c_X8_back l G cA H.size aa S LM r6 S_7 LM_8 hcm) (cwV 0 hT (tq_gV kw_59_11 kw_59_12 kw_59_13 kw_1_5 kw_59_14) rfl rfl rfl (by decide +kernel) ⟨Nat.le_of_ble_eq_true rfl, Nat.le_of_ble_eq_true rfl⟩) (wM_rec hK hP) rfl hl.1 rfl (lv_room (Nat.le_of_ble_eq_true rfl)) dL_law_1185 hfit (fun _ _ H locs z9 hP hD hS => ?_)
  have z9 := z9.symm
  subst z9
  replace hP : va_P G vwCl (wX cA xa ka ra na ia ua va ca za pa qa X K R P L P2 L2 Tn_2 Ti Tu Tv C_3 Z q0_4 q1 q2 q3 q4 q5 ++ (wM cA aa S_7 LM_8 ++ [(oa, .inl (cA 2, 1, .inr (.inl og)))])) H := tw_P wl_rot hP
  replace hD : va_D A (wX cA xa ka ra na ia ua va ca za pa qa X K R P L P2 L2 Tn_2 Ti Tu Tv C_3 Z q0_4 q1 q2 q3 q4 q5 ++ (wM cA aa S_7 LM_8 ++ [(oa, .inl (cA 2, 1, .inr (.inl og)))])) := tw_D wl_rot hD
  refine lv_pop hx hb dL_law_1188 rfl ?_
  refine lv_goto (tgt := 1217) hx hb dL_law_1189 (by decide) ?_
  exact hk H locs ls ⟨xa, ka, ra, na, ia, ua, va, ca, za, pa, qa, aa, X, K, R, P, L, P2, L2, Tn_2, Ti, Tu, Tv, C_3, Z, q0_4, q1, q2, q3, q4, q5, S_7, LM_8, og, rfl, rfl, ⟨bX, bK, bR, bP, bP2, hq5.1, bTi, bTu, bTv, hq5.2.1, bZ, dz, hq5.2.2, e4, e5, e1⟩, hq9.1, (E_back hok jx hrel hcx hcm), hP, hD⟩ hS hl
set_option maxHeartbeats 4000000 in
set_option maxRecDepth 100000 in
theorem lc_33 {p : Program} {e : Env} {s : State} {m : MethodId} {below : List Frame} {meth : Method} {c : Code} (l : Launch) {b Ln : Nat} {xs : Nat → Int32} (C0 : lw_At p s m meth c b Ln xs) (G : va_G) (cA : Nat → ClassId) {A : Nat → Prop} (hAe : A = fun q : Nat => s.heap.size ≤ q) (hK : va_K G vwCl (tyL cA) s) (hN : tqN s) {bA : Nat} (hB : tqB bA A s s.heap) {H : Heap} {locs : List Loc} {ls : Array Slot} {kc ks : Nat} (hfit : kc ≤ 601024 ∧ ks ≤ 7293034) {i : Int32} (hi : 0 ≤ i.toInt ∧ i.toInt + 6 ≤ (Ln : Int)) (hLn : Ln ≤ 3072) {x0 mm oa : Nat} (hI : lwP G cA A x0 mm oa H) (hS : va_S A s.heap H locs) (hl : lv_has ls 7 [(4, .int i), (3, .ref oa), (2, .ref mm), (1, .ref x0), (0, .ref b)]) (hk : (∀ (H : Heap) (locs : List Loc) (ls : Array Slot), lwP G cA A x0 mm oa H → va_S A s.heap H locs → lv_has ls 7 [(4, .int i), (3, .ref oa), (2, .ref mm), (1, .ref x0), (0, .ref b)] → W p l e room_1 s m #[Value.ref b] below meth c H locs kc ks (lw_Z below #[Value.ref b] s) (F0 m 1217 ls []))) : W p l e room_1 s m #[Value.ref b] below meth c H locs kc ks (lw_Z below #[Value.ref b] s) (F0 m 1192 ls []) := by
  obtain ⟨hx, hb, hr, hml, hown, hts, hX, hbl, hlocks, hgv⟩ := id C0
  have hT : ∀ v ∈ T0, v.before #[Value.ref b] s = true := fun v h => hts v (tq_law_in v h)
  have hown : s.vm.findClass RL = some m.cls := hown
  have hA : ∀ q : Nat, s.heap.size ≤ q → A q := fun q h => by rw [hAe]; exact h
  have hbA : ¬ A b := by rw [hAe]; exact Nat.not_le.mpr hbl
  obtain ⟨xa, ka, ra, na, ia, ua, va, ca, za, pa, qa, aa, X, K, R, P, L, P2, L2, Tn, Ti, Tu, Tv, C, Z, q0, q1, q2, q3, q4, q5, S, LM, og, rfl, rfl, hok, jx, hrel, hP, hD⟩ := hI
  obtain ⟨bX, bK, bR, bP, bP2, bTn, bTi, bTu, bTv, bC, bZ, dz, e0, e4, e5, e1⟩ := id hok
  obtain ⟨w1, hw1⟩ : ∃ z, xs (i + 1).toNatClampNeg = z := ⟨_, rfl⟩
  obtain ⟨w2, hw2⟩ : ∃ z, xs (i + 2).toNatClampNeg = z := ⟨_, rfl⟩
  obtain ⟨w3, hw3⟩ : ∃ z, xs (i + 3).toNatClampNeg = z := ⟨_, rfl⟩
  obtain ⟨w4, hw4⟩ : ∃ z, xs (i + 4).toNatClampNeg = z := ⟨_, rfl⟩
  obtain ⟨w5, hw5⟩ : ∃ z, xs (i + 5).toNatClampNeg = z := ⟨_, rfl⟩
  refine lv_aload_n hx hb dL_law_1192 rfl (lv_at hl 3 rfl) ?_
  refine lv_aload_n hx hb dL_law_1193 rfl (lv_at hl 4 rfl) ?_
  refine lv_iload hx hb dL_law_1194 (lv_at hl 0 rfl) ?_
  refine lv_iconst (v := 1) hx hb dL_law_1196 (by decide) ?_
  refine lv_iadd hx hb dL_law_1197 ?_
  refine va_sld (i := i + 1) hx hb hX hbl hbA hS (lw_in hi (by decide)) dL_law_1198 ?_
  refine tq_i (w := w1) hw1 ?_
  obtain ⟨r1, hcx, hq2⟩ := (t_X7_count pa qa P Tn C Z q0 q4 w1 bP bTn bC bZ e0 e4)
  refine lw_ci (As := [.int w1]) (rest := []) hP hD hS hA hK hN ⟨hx, hb, hml, hown, hT⟩ (c_X7_count l G cA H.size xa ka ra na ia ua va ca za pa qa X K R P L P2 L2 Tn Ti Tu Tv C Z q0 q1 q2 q3 q4 q5 w1 r1 hcx) (cwV 1 hT (tq_gV kw_59_15 kw_59_16 kw_59_17 kw_1_2 kw_59_18) rfl rfl rfl (by decide +kernel) ⟨Nat.le_of_ble_eq_true rfl, Nat.le_of_ble_eq_true rfl⟩) (wX_rec hK hP) rfl hl.1 rfl (lv_room (Nat.le_of_ble_eq_true rfl)) dL_law_1199 hfit (fun _ _ H locs z9 hP hD hS => ?_)
  have z9 := z9.symm
  subst z9
  refine lv_pop hx hb dL_law_1202 rfl ?_
  refine lv_aload_n hx hb dL_law_1203 rfl (lv_at hl 2 rfl) ?_
  refine lv_aload_n hx hb dL_law_1204 rfl (lv_at hl 4 rfl) ?_
  refine lv_iload hx hb dL_law_1205 (lv_at hl 0 rfl) ?_
  refine lv_iconst (v := 1) hx hb dL_law_1207 (by decide) ?_
  refine lv_iadd hx hb dL_law_1208 ?_
  refine va_sld (i := i + 1) hx hb hX hbl hbA hS (lw_in hi (by decide)) dL_law_1209 ?_
  refine tq_i (w := w1) hw1 ?_
  obtain ⟨⟨r3, S_4⟩, hcm, hq5⟩ := (Q_count S w1 jx)
  replace hP : va_P G vwCl (wM cA aa S LM ++ (wX cA xa ka ra na ia ua va ca za pa qa X K R P L P2 L2 Tn Ti Tu Tv C Z q0 q1 q2 q3 q4 q5 ++ [(oa, .inl (cA 2, 1, .inr (.inl og)))])) H := tw_P wl_rot hP
  replace hD : va_D A (wM cA aa S LM ++ (wX cA xa ka ra na ia ua va ca za pa qa X K R P L P2 L2 Tn Ti Tu Tv C Z q0 q1 q2 q3 q4 q5 ++ [(oa, .inl (cA 2, 1, .inr (.inl og)))])) := tw_D wl_rot hD
  refine lw_ci (As := [.int w1]) (rest := []) hP hD hS hA hK hN ⟨hx, hb, hml, hown, hT⟩ (c_X8_count l G cA H.size aa S LM w1 r3 S_4 hcm) (cwV 1 hT (tq_gV kw_60_6 kw_60_7 kw_60_8 kw_1_5 kw_60_9) rfl rfl rfl (by decide +kernel) ⟨Nat.le_of_ble_eq_true rfl, Nat.le_of_ble_eq_true rfl⟩) (wM_rec hK hP) rfl hl.1 rfl (lv_room (Nat.le_of_ble_eq_true rfl)) dL_law_1210 hfit (fun _ _ H locs z9 hP hD hS => ?_)
  have z9 := z9.symm
  subst z9
  replace hP : va_P G vwCl (wX cA xa ka ra na ia ua va ca za pa qa X K R P L P2 L2 Tn Ti Tu Tv C Z q0 q1 q2 q3 q4 q5 ++ (wM cA aa S_4 LM ++ [(oa, .inl (cA 2, 1, .inr (.inl og)))])) H := tw_P wl_rot hP
  replace hD : va_D A (wX cA xa ka ra na ia ua va ca za pa qa X K R P L P2 L2 Tn Ti Tu Tv C Z q0 q1 q2 q3 q4 q5 ++ (wM cA aa S_4 LM ++ [(oa, .inl (cA 2, 1, .inr (.inl og)))])) := tw_D wl_rot hD
  refine lv_pop hx hb dL_law_1213 rfl ?_
  refine lv_goto (tgt := 1217) hx hb dL_law_1214 (by decide) ?_
  exact hk H locs ls ⟨xa, ka, ra, na, ia, ua, va, ca, za, pa, qa, aa, X, K, R, P, L, P2, L2, Tn, Ti, Tu, Tv, C, Z, q0, q1, q2, q3, q4, q5, S_4, LM, og, rfl, rfl, ⟨bX, bK, bR, bP, bP2, bTn, bTi, bTu, bTv, bC, bZ, dz, e0, e4, e5, e1⟩, hq5.1, (E_count hok jx hrel hcx hcm), hP, hD⟩ hS hl
