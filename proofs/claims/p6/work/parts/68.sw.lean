theorem lw_out (y : Int32) (n0 : ¬ y.toInt = 0) (n1 : ¬ y.toInt = 1) (n2 : ¬ y.toInt = 2) (n3 : ¬ y.toInt = 3) (n4 : ¬ y.toInt = 4) (n5 : ¬ y.toInt = 5) (n6 : ¬ y.toInt = 6) (n7 : ¬ y.toInt = 7) (n8 : ¬ y.toInt = 8) (n9 : ¬ y.toInt = 9) (n10 : ¬ y.toInt = 10) (n11 : ¬ y.toInt = 11) (n12 : ¬ y.toInt = 12) (n13 : ¬ y.toInt = 13) (n14 : ¬ y.toInt = 14) (n15 : ¬ y.toInt = 15) (n16 : ¬ y.toInt = 16) (n17 : ¬ y.toInt = 17) (n18 : ¬ y.toInt = 18) (n19 : ¬ y.toInt = 19) (n20 : ¬ y.toInt = 20) (n21 : ¬ y.toInt = 21) (n22 : ¬ y.toInt = 22) (n23 : ¬ y.toInt = 23) (n24 : ¬ y.toInt = 24) (n25 : ¬ y.toInt = 25) (n26 : ¬ y.toInt = 26) (n27 : ¬ y.toInt = 27) (n28 : ¬ y.toInt = 28) (n29 : ¬ y.toInt = 29) (n30 : ¬ y.toInt = 30) (n31 : ¬ y.toInt = 31) (n32 : ¬ y.toInt = 32) (n33 : ¬ y.toInt = 33) : y.toInt < 0 ∨ 33 < y.toInt := by omega
set_option maxHeartbeats 8000000 in
set_option maxRecDepth 100000 in
theorem lw_switch {p : Program} {e : Env} {s : State} {m : MethodId} {below : List Frame} {meth : Method} {c : Code} (l : Launch) {b Ln : Nat} {xs : Nat → Int32} (C0 : lw_At p s m meth c b Ln xs) (G : va_G) (cA : Nat → ClassId) {A : Nat → Prop} (hAe : A = fun q : Nat => s.heap.size ≤ q) (hK : va_K G vwCl (tyL cA) s) (hN : tqN s) {bA : Nat} (hB : tqB bA A s s.heap) {H : Heap} {locs : List Loc} {ls : Array Slot} {kc ks : Nat} {y : Int32} (k0 : W p l e room_1 s m #[Value.ref b] below meth c H locs kc ks (lw_Z below #[Value.ref b] s) (F0 m 192 ls [])) (k1 : W p l e room_1 s m #[Value.ref b] below meth c H locs kc ks (lw_Z below #[Value.ref b] s) (F0 m 265 ls [])) (k2 : W p l e room_1 s m #[Value.ref b] below meth c H locs kc ks (lw_Z below #[Value.ref b] s) (F0 m 290 ls [])) (k3 : W p l e room_1 s m #[Value.ref b] below meth c H locs kc ks (lw_Z below #[Value.ref b] s) (F0 m 315 ls [])) (k4 : W p l e room_1 s m #[Value.ref b] below meth c H locs kc ks (lw_Z below #[Value.ref b] s) (F0 m 340 ls [])) (k5 : W p l e room_1 s m #[Value.ref b] below meth c H locs kc ks (lw_Z below #[Value.ref b] s) (F0 m 408 ls [])) (k6 : W p l e room_1 s m #[Value.ref b] below meth c H locs kc ks (lw_Z below #[Value.ref b] s) (F0 m 445 ls [])) (k7 : W p l e room_1 s m #[Value.ref b] below meth c H locs kc ks (lw_Z below #[Value.ref b] s) (F0 m 482 ls [])) (k8 : W p l e room_1 s m #[Value.ref b] below meth c H locs kc ks (lw_Z below #[Value.ref b] s) (F0 m 507 ls [])) (k9 : W p l e room_1 s m #[Value.ref b] below meth c H locs kc ks (lw_Z below #[Value.ref b] s) (F0 m 544 ls [])) (k10 : W p l e room_1 s m #[Value.ref b] below meth c H locs kc ks (lw_Z below #[Value.ref b] s) (F0 m 581 ls [])) (k11 : W p l e room_1 s m #[Value.ref b] below meth c H locs kc ks (lw_Z below #[Value.ref b] s) (F0 m 606 ls [])) (k12 : W p l e room_1 s m #[Value.ref b] below meth c H locs kc ks (lw_Z below #[Value.ref b] s) (F0 m 643 ls [])) (k13 : W p l e room_1 s m #[Value.ref b] below meth c H locs kc ks (lw_Z below #[Value.ref b] s) (F0 m 668 ls [])) (k14 : W p l e room_1 s m #[Value.ref b] below meth c H locs kc ks (lw_Z below #[Value.ref b] s) (F0 m 693 ls [])) (k15 : W p l e room_1 s m #[Value.ref b] below meth c H locs kc ks (lw_Z below #[Value.ref b] s) (F0 m 730 ls [])) (k16 : W p l e room_1 s m #[Value.ref b] below meth c H locs kc ks (lw_Z below #[Value.ref b] s) (F0 m 767 ls [])) (k17 : W p l e room_1 s m #[Value.ref b] below meth c H locs kc ks (lw_Z below #[Value.ref b] s) (F0 m 804 ls [])) (k18 : W p l e room_1 s m #[Value.ref b] below meth c H locs kc ks (lw_Z below #[Value.ref b] s) (F0 m 853 ls [])) (k19 : W p l e room_1 s m #[Value.ref b] below meth c H locs kc ks (lw_Z below #[Value.ref b] s) (F0 m 878 ls [])) (k20 : W p l e room_1 s m #[Value.ref b] below meth c H locs kc ks (lw_Z below #[Value.ref b] s) (F0 m 891 ls [])) (k21 : W p l e room_1 s m #[Value.ref b] below meth c H locs kc ks (lw_Z below #[Value.ref b] s) (F0 m 916 ls [])) (k22 : W p l e room_1 s m #[Value.ref b] below meth c H locs kc ks (lw_Z below #[Value.ref b] s) (F0 m 929 ls [])) (k23 : W p l e room_1 s m #[Value.ref b] below meth c H locs kc ks (lw_Z below #[Value.ref b] s) (F0 m 942 ls [])) (k24 : W p l e room_1 s m #[Value.ref b] below meth c H locs kc ks (lw_Z below #[Value.ref b] s) (F0 m 955 ls [])) (k25 : W p l e room_1 s m #[Value.ref b] below meth c H locs kc ks (lw_Z below #[Value.ref b] s) (F0 m 1032 ls [])) (k26 : W p l e room_1 s m #[Value.ref b] below meth c H locs kc ks (lw_Z below #[Value.ref b] s) (F0 m 1057 ls [])) (k27 : W p l e room_1 s m #[Value.ref b] below meth c H locs kc ks (lw_Z below #[Value.ref b] s) (F0 m 1082 ls [])) (k28 : W p l e room_1 s m #[Value.ref b] below meth c H locs kc ks (lw_Z below #[Value.ref b] s) (F0 m 1107 ls [])) (k29 : W p l e room_1 s m #[Value.ref b] below meth c H locs kc ks (lw_Z below #[Value.ref b] s) (F0 m 1144 ls [])) (k30 : W p l e room_1 s m #[Value.ref b] below meth c H locs kc ks (lw_Z below #[Value.ref b] s) (F0 m 1181 ls [])) (k31 : W p l e room_1 s m #[Value.ref b] below meth c H locs kc ks (lw_Z below #[Value.ref b] s) (F0 m 1194 ls [])) (k32 : W p l e room_1 s m #[Value.ref b] below meth c H locs kc ks (lw_Z below #[Value.ref b] s) (F0 m 1207 ls [])) (k33 : W p l e room_1 s m #[Value.ref b] below meth c H locs kc ks (lw_Z below #[Value.ref b] s) (F0 m 1220 ls [])) (kd : W p l e room_1 s m #[Value.ref b] below meth c H locs kc ks (lw_Z below #[Value.ref b] s) (F0 m 1245 ls [])) : W p l e room_1 s m #[Value.ref b] below meth c H locs kc ks (lw_Z below #[Value.ref b] s) (F0 m 40 ls [.int y]) := by
  obtain ⟨hx, hb, hr, hml, hown, hts, hX, hbl, hlocks, hgv⟩ := id C0
  by_cases c0 : y = 0
  · refine lv_tableIn (off := 152) (tgt := 192) hx hb dL_law_40 (by rw [c0]; decide) (by rw [c0]; decide) (by rw [c0]; decide) (by decide) ?_
    exact k0
  by_cases c1 : y = 1
  · refine lv_tableIn (off := 225) (tgt := 265) hx hb dL_law_40 (by rw [c1]; decide) (by rw [c1]; decide) (by rw [c1]; decide) (by decide) ?_
    exact k1
  by_cases c2 : y = 2
  · refine lv_tableIn (off := 250) (tgt := 290) hx hb dL_law_40 (by rw [c2]; decide) (by rw [c2]; decide) (by rw [c2]; decide) (by decide) ?_
    exact k2
  by_cases c3 : y = 3
  · refine lv_tableIn (off := 275) (tgt := 315) hx hb dL_law_40 (by rw [c3]; decide) (by rw [c3]; decide) (by rw [c3]; decide) (by decide) ?_
    exact k3
  by_cases c4 : y = 4
  · refine lv_tableIn (off := 300) (tgt := 340) hx hb dL_law_40 (by rw [c4]; decide) (by rw [c4]; decide) (by rw [c4]; decide) (by decide) ?_
    exact k4
  by_cases c5 : y = 5
  · refine lv_tableIn (off := 368) (tgt := 408) hx hb dL_law_40 (by rw [c5]; decide) (by rw [c5]; decide) (by rw [c5]; decide) (by decide) ?_
    exact k5
  by_cases c6 : y = 6
  · refine lv_tableIn (off := 405) (tgt := 445) hx hb dL_law_40 (by rw [c6]; decide) (by rw [c6]; decide) (by rw [c6]; decide) (by decide) ?_
    exact k6
  by_cases c7 : y = 7
  · refine lv_tableIn (off := 442) (tgt := 482) hx hb dL_law_40 (by rw [c7]; decide) (by rw [c7]; decide) (by rw [c7]; decide) (by decide) ?_
    exact k7
  by_cases c8 : y = 8
  · refine lv_tableIn (off := 467) (tgt := 507) hx hb dL_law_40 (by rw [c8]; decide) (by rw [c8]; decide) (by rw [c8]; decide) (by decide) ?_
    exact k8
  by_cases c9 : y = 9
  · refine lv_tableIn (off := 504) (tgt := 544) hx hb dL_law_40 (by rw [c9]; decide) (by rw [c9]; decide) (by rw [c9]; decide) (by decide) ?_
    exact k9
  by_cases c10 : y = 10
  · refine lv_tableIn (off := 541) (tgt := 581) hx hb dL_law_40 (by rw [c10]; decide) (by rw [c10]; decide) (by rw [c10]; decide) (by decide) ?_
    exact k10
  by_cases c11 : y = 11
  · refine lv_tableIn (off := 566) (tgt := 606) hx hb dL_law_40 (by rw [c11]; decide) (by rw [c11]; decide) (by rw [c11]; decide) (by decide) ?_
    exact k11
  by_cases c12 : y = 12
  · refine lv_tableIn (off := 603) (tgt := 643) hx hb dL_law_40 (by rw [c12]; decide) (by rw [c12]; decide) (by rw [c12]; decide) (by decide) ?_
    exact k12
  by_cases c13 : y = 13
  · refine lv_tableIn (off := 628) (tgt := 668) hx hb dL_law_40 (by rw [c13]; decide) (by rw [c13]; decide) (by rw [c13]; decide) (by decide) ?_
    exact k13
  by_cases c14 : y = 14
  · refine lv_tableIn (off := 653) (tgt := 693) hx hb dL_law_40 (by rw [c14]; decide) (by rw [c14]; decide) (by rw [c14]; decide) (by decide) ?_
    exact k14
  by_cases c15 : y = 15
  · refine lv_tableIn (off := 690) (tgt := 730) hx hb dL_law_40 (by rw [c15]; decide) (by rw [c15]; decide) (by rw [c15]; decide) (by decide) ?_
    exact k15
  by_cases c16 : y = 16
  · refine lv_tableIn (off := 727) (tgt := 767) hx hb dL_law_40 (by rw [c16]; decide) (by rw [c16]; decide) (by rw [c16]; decide) (by decide) ?_
    exact k16
  by_cases c17 : y = 17
  · refine lv_tableIn (off := 764) (tgt := 804) hx hb dL_law_40 (by rw [c17]; decide) (by rw [c17]; decide) (by rw [c17]; decide) (by decide) ?_
    exact k17
  by_cases c18 : y = 18
  · refine lv_tableIn (off := 813) (tgt := 853) hx hb dL_law_40 (by rw [c18]; decide) (by rw [c18]; decide) (by rw [c18]; decide) (by decide) ?_
    exact k18
  by_cases c19 : y = 19
  · refine lv_tableIn (off := 838) (tgt := 878) hx hb dL_law_40 (by rw [c19]; decide) (by rw [c19]; decide) (by rw [c19]; decide) (by decide) ?_
    exact k19
  by_cases c20 : y = 20
  · refine lv_tableIn (off := 851) (tgt := 891) hx hb dL_law_40 (by rw [c20]; decide) (by rw [c20]; decide) (by rw [c20]; decide) (by decide) ?_
    exact k20
  by_cases c21 : y = 21
  · refine lv_tableIn (off := 876) (tgt := 916) hx hb dL_law_40 (by rw [c21]; decide) (by rw [c21]; decide) (by rw [c21]; decide) (by decide) ?_
    exact k21
  by_cases c22 : y = 22
  · refine lv_tableIn (off := 889) (tgt := 929) hx hb dL_law_40 (by rw [c22]; decide) (by rw [c22]; decide) (by rw [c22]; decide) (by decide) ?_
    exact k22
  by_cases c23 : y = 23
  · refine lv_tableIn (off := 902) (tgt := 942) hx hb dL_law_40 (by rw [c23]; decide) (by rw [c23]; decide) (by rw [c23]; decide) (by decide) ?_
    exact k23
  by_cases c24 : y = 24
  · refine lv_tableIn (off := 915) (tgt := 955) hx hb dL_law_40 (by rw [c24]; decide) (by rw [c24]; decide) (by rw [c24]; decide) (by decide) ?_
    exact k24
  by_cases c25 : y = 25
  · refine lv_tableIn (off := 992) (tgt := 1032) hx hb dL_law_40 (by rw [c25]; decide) (by rw [c25]; decide) (by rw [c25]; decide) (by decide) ?_
    exact k25
  by_cases c26 : y = 26
  · refine lv_tableIn (off := 1017) (tgt := 1057) hx hb dL_law_40 (by rw [c26]; decide) (by rw [c26]; decide) (by rw [c26]; decide) (by decide) ?_
    exact k26
  by_cases c27 : y = 27
  · refine lv_tableIn (off := 1042) (tgt := 1082) hx hb dL_law_40 (by rw [c27]; decide) (by rw [c27]; decide) (by rw [c27]; decide) (by decide) ?_
    exact k27
  by_cases c28 : y = 28
  · refine lv_tableIn (off := 1067) (tgt := 1107) hx hb dL_law_40 (by rw [c28]; decide) (by rw [c28]; decide) (by rw [c28]; decide) (by decide) ?_
    exact k28
  by_cases c29 : y = 29
  · refine lv_tableIn (off := 1104) (tgt := 1144) hx hb dL_law_40 (by rw [c29]; decide) (by rw [c29]; decide) (by rw [c29]; decide) (by decide) ?_
    exact k29
  by_cases c30 : y = 30
  · refine lv_tableIn (off := 1141) (tgt := 1181) hx hb dL_law_40 (by rw [c30]; decide) (by rw [c30]; decide) (by rw [c30]; decide) (by decide) ?_
    exact k30
  by_cases c31 : y = 31
  · refine lv_tableIn (off := 1154) (tgt := 1194) hx hb dL_law_40 (by rw [c31]; decide) (by rw [c31]; decide) (by rw [c31]; decide) (by decide) ?_
    exact k31
  by_cases c32 : y = 32
  · refine lv_tableIn (off := 1167) (tgt := 1207) hx hb dL_law_40 (by rw [c32]; decide) (by rw [c32]; decide) (by rw [c32]; decide) (by decide) ?_
    exact k32
  by_cases c33 : y = 33
  · refine lv_tableIn (off := 1180) (tgt := 1220) hx hb dL_law_40 (by rw [c33]; decide) (by rw [c33]; decide) (by rw [c33]; decide) (by decide) ?_
    exact k33
  have n0 := tq_eqn (a := y.toInt) (b := 0) rfl (by decide) c0
  have n1 := tq_eqn (a := y.toInt) (b := 1) rfl (by decide) c1
  have n2 := tq_eqn (a := y.toInt) (b := 2) rfl (by decide) c2
  have n3 := tq_eqn (a := y.toInt) (b := 3) rfl (by decide) c3
  have n4 := tq_eqn (a := y.toInt) (b := 4) rfl (by decide) c4
  have n5 := tq_eqn (a := y.toInt) (b := 5) rfl (by decide) c5
  have n6 := tq_eqn (a := y.toInt) (b := 6) rfl (by decide) c6
  have n7 := tq_eqn (a := y.toInt) (b := 7) rfl (by decide) c7
  have n8 := tq_eqn (a := y.toInt) (b := 8) rfl (by decide) c8
  have n9 := tq_eqn (a := y.toInt) (b := 9) rfl (by decide) c9
  have n10 := tq_eqn (a := y.toInt) (b := 10) rfl (by decide) c10
  have n11 := tq_eqn (a := y.toInt) (b := 11) rfl (by decide) c11
  have n12 := tq_eqn (a := y.toInt) (b := 12) rfl (by decide) c12
  have n13 := tq_eqn (a := y.toInt) (b := 13) rfl (by decide) c13
  have n14 := tq_eqn (a := y.toInt) (b := 14) rfl (by decide) c14
  have n15 := tq_eqn (a := y.toInt) (b := 15) rfl (by decide) c15
  have n16 := tq_eqn (a := y.toInt) (b := 16) rfl (by decide) c16
  have n17 := tq_eqn (a := y.toInt) (b := 17) rfl (by decide) c17
  have n18 := tq_eqn (a := y.toInt) (b := 18) rfl (by decide) c18
  have n19 := tq_eqn (a := y.toInt) (b := 19) rfl (by decide) c19
  have n20 := tq_eqn (a := y.toInt) (b := 20) rfl (by decide) c20
  have n21 := tq_eqn (a := y.toInt) (b := 21) rfl (by decide) c21
  have n22 := tq_eqn (a := y.toInt) (b := 22) rfl (by decide) c22
  have n23 := tq_eqn (a := y.toInt) (b := 23) rfl (by decide) c23
  have n24 := tq_eqn (a := y.toInt) (b := 24) rfl (by decide) c24
  have n25 := tq_eqn (a := y.toInt) (b := 25) rfl (by decide) c25
  have n26 := tq_eqn (a := y.toInt) (b := 26) rfl (by decide) c26
  have n27 := tq_eqn (a := y.toInt) (b := 27) rfl (by decide) c27
  have n28 := tq_eqn (a := y.toInt) (b := 28) rfl (by decide) c28
  have n29 := tq_eqn (a := y.toInt) (b := 29) rfl (by decide) c29
  have n30 := tq_eqn (a := y.toInt) (b := 30) rfl (by decide) c30
  have n31 := tq_eqn (a := y.toInt) (b := 31) rfl (by decide) c31
  have n32 := tq_eqn (a := y.toInt) (b := 32) rfl (by decide) c32
  have n33 := tq_eqn (a := y.toInt) (b := 33) rfl (by decide) c33
  refine lv_tableOut (tgt := 1245) hx hb dL_law_40 (lw_out y n0 n1 n2 n3 n4 n5 n6 n7 n8 n9 n10 n11 n12 n13 n14 n15 n16 n17 n18 n19 n20 n21 n22 n23 n24 n25 n26 n27 n28 n29 n30 n31 n32 n33) (by decide) ?_
  exact kd
