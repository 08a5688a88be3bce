theorem lw_out (y : Int32) (n0 : ¬ y.toInt = 0) (n1 : ¬ y.toInt = 1) (n2 : ¬ y.toInt = 2) (n3 : ¬ y.toInt = 3) (n4 : ¬ y.toInt = 4) (n5 : ¬ y.toInt = 5) (n6 : ¬ y.toInt = 6) (n7 : ¬ y.toInt = 7) (n8 : ¬ y.toInt = 8) (n9 : ¬ y.toInt = 9) (n10 : ¬ y.toInt = 10) (n11 : ¬ y.toInt = 11) (n12 : ¬ y.toInt = 12) (n13 : ¬ y.toInt = 13) (n14 : ¬ y.toInt = 14) (n15 : ¬ y.toInt = 15) (n16 : ¬ y.toInt = 16) (n17 : ¬ y.toInt = 17) (n18 : ¬ y.toInt = 18) (n19 : ¬ y.toInt = 19) (n20 : ¬ y.toInt = 20) (n21 : ¬ y.toInt = 21) (n22 : ¬ y.toInt = 22) (n23 : ¬ y.toInt = 23) (n24 : ¬ y.toInt = 24) (n25 : ¬ y.toInt = 25) (n26 : ¬ y.toInt = 26) (n27 : ¬ y.toInt = 27) (n28 : ¬ y.toInt = 28) (n29 : ¬ y.toInt = 29) (n30 : ¬ y.toInt = 30) (n31 : ¬ y.toInt = 31) (n32 : ¬ y.toInt = 32) (n33 : ¬ y.toInt = 33) : y.toInt < 0 ∨ 33 < y.toInt := by omega
set_option maxHeartbeats 8000000 in
set_option maxRecDepth 100000 in
theorem lw_switch {p : Program} {e : Env} {s : State} {m : MethodId} {below : List Frame} {meth : Method} {c : Code} (l : Launch) {b Ln : Nat} {xs : Nat → Int32} (C0 : lw_At p s m meth c b Ln xs) (G : va_G) (cA : Nat → ClassId) {A : Nat → Prop} (hAe : A = fun q : Nat => s.heap.size ≤ q) (hK : va_K G vwCl (tyL cA) s) (hN : tqN s) {bA : Nat} (hB : tqB bA A s s.heap) {H : Heap} {locs : List Loc} {ls : Array Slot} {kc ks : Nat} {y : Int32} (k0 : W p l e room_1 s m #[Value.ref b] below meth c H locs kc ks (lw_Z below #[Value.ref b] s) (F0 m 192 ls [])) (k1 : W p l e room_1 s m #[Value.ref b] below meth c H locs kc ks (lw_Z below #[Value.ref b] s) (F0 m 265 ls [])) (k2 : W p l e room_1 s m #[Value.ref b] below meth c H locs kc ks (lw_Z below #[Value.ref b] s) (F0 m 290 ls [])) (k3 : W p l e room_1 s m #[Value.ref b] below meth c H locs kc ks (lw_Z below #[Value.ref b] s) (F0 m 315 ls [])) (k4 : W p l e room_1 s m #[Value.ref b] below meth c H locs kc ks (lw_Z below #[Value.ref b] s) (F0 m 340 ls [])) (k5 : W p l e room_1 s m #[Value.ref b] below meth c H locs kc ks (lw_Z below #[Value.ref b] s) (F0 m 380 ls [])) (k6 : W p l e room_1 s m #[Value.ref b] below meth c H locs kc ks (lw_Z below #[Value.ref b] s) (F0 m 417 ls [])) (k7 : W p l e room_1 s m #[Value.ref b] below meth c H locs kc ks (lw_Z below #[Value.ref b] s) (F0 m 454 ls [])) (k8 : W p l e room_1 s m #[Value.ref b] below meth c H locs kc ks (lw_Z below #[Value.ref b] s) (F0 m 479 ls [])) (k9 : W p l e room_1 s m #[Value.ref b] below meth c H locs kc ks (lw_Z below #[Value.ref b] s) (F0 m 516 ls [])) (k10 : W p l e room_1 s m #[Value.ref b] below meth c H locs kc ks (lw_Z below #[Value.ref b] s) (F0 m 553 ls [])) (k11 : W p l e room_1 s m #[Value.ref b] below meth c H locs kc ks (lw_Z below #[Value.ref b] s) (F0 m 578 ls [])) (k12 : W p l e room_1 s m #[Value.ref b] below meth c H locs kc ks (lw_Z below #[Value.ref b] s) (F0 m 615 ls [])) (k13 : W p l e room_1 s m #[Value.ref b] below meth c H locs kc ks (lw_Z below #[Value.ref b] s) (F0 m 640 ls [])) (k14 : W p l e room_1 s m #[Value.ref b] below meth c H locs kc ks (lw_Z below #[Value.ref b] s) (F0 m 665 ls [])) (k15 : W p l e room_1 s m #[Value.ref b] below meth c H locs kc ks (lw_Z below #[Value.ref b] s) (F0 m 702 ls [])) (k16 : W p l e room_1 s m #[Value.ref b] below meth c H locs kc ks (lw_Z below #[Value.ref b] s) (F0 m 739 ls [])) (k17 : W p l e room_1 s m #[Value.ref b] below meth c H locs kc ks (lw_Z below #[Value.ref b] s) (F0 m 776 ls [])) (k18 : W p l e room_1 s m #[Value.ref b] below meth c H locs kc ks (lw_Z below #[Value.ref b] s) (F0 m 825 ls [])) (k19 : W p l e room_1 s m #[Value.ref b] below meth c H locs kc ks (lw_Z below #[Value.ref b] s) (F0 m 850 ls [])) (k20 : W p l e room_1 s m #[Value.ref b] below meth c H locs kc ks (lw_Z below #[Value.ref b] s) (F0 m 863 ls [])) (k21 : W p l e room_1 s m #[Value.ref b] below meth c H locs kc ks (lw_Z below #[Value.ref b] s) (F0 m 888 ls [])) (k22 : W p l e room_1 s m #[Value.ref b] below meth c H locs kc ks (lw_Z below #[Value.ref b] s) (F0 m 901 ls [])) (k23 : W p l e room_1 s m #[Value.ref b] below meth c H locs kc ks (lw_Z below #[Value.ref b] s) (F0 m 914 ls [])) (k24 : W p l e room_1 s m #[Value.ref b] below meth c H locs kc ks (lw_Z below #[Value.ref b] s) (F0 m 927 ls [])) (k25 : W p l e room_1 s m #[Value.ref b] below meth c H locs kc ks (lw_Z below #[Value.ref b] s) (F0 m 1004 ls [])) (k26 : W p l e room_1 s m #[Value.ref b] below meth c H locs kc ks (lw_Z below #[Value.ref b] s) (F0 m 1029 ls [])) (k27 : W p l e room_1 s m #[Value.ref b] below meth c H locs kc ks (lw_Z below #[Value.ref b] s) (F0 m 1054 ls [])) (k28 : W p l e room_1 s m #[Value.ref b] below meth c H locs kc ks (lw_Z below #[Value.ref b] s) (F0 m 1079 ls [])) (k29 : W p l e room_1 s m #[Value.ref b] below meth c H locs kc ks (lw_Z below #[Value.ref b] s) (F0 m 1116 ls [])) (k30 : W p l e room_1 s m #[Value.ref b] below meth c H locs kc ks (lw_Z below #[Value.ref b] s) (F0 m 1153 ls [])) (k31 : W p l e room_1 s m #[Value.ref b] below meth c H locs kc ks (lw_Z below #[Value.ref b] s) (F0 m 1166 ls [])) (k32 : W p l e room_1 s m #[Value.ref b] below meth c H locs kc ks (lw_Z below #[Value.ref b] s) (F0 m 1179 ls [])) (k33 : W p l e room_1 s m #[Value.ref b] below meth c H locs kc ks (lw_Z below #[Value.ref b] s) (F0 m 1192 ls [])) (kd : W p l e room_1 s m #[Value.ref b] below meth c H locs kc ks (lw_Z below #[Value.ref b] s) (F0 m 1217 ls [])) : W p l e room_1 s m #[Value.ref b] below meth c H locs kc ks (lw_Z below #[Value.ref b] s) (F0 m 40 ls [.int y]) := by
  obtain ⟨hx, hb, hr, hml, hown, hts, hX, hbl, hlocks, hgv⟩ := id C0
  by_cases c0 : y = 0
  · refine lv_tableIn (off := 152) (tgt := 192) hx hb dL_law_40 (by rw [c0]; decide) (by rw [c0]; decide) (by rw [c0]; decide) (by decide) ?_
    exact k0
  by_cases c1 : y = 1
  · refine lv_tableIn (off := 225) (tgt := 265) hx hb dL_law_40 (by rw [c1]; decide) (by rw [c1]; decide) (by rw [c1]; decide) (by decide) ?_
    exact k1
  by_cases c2 : y = 2
  · refine lv_tableIn (off := 250) (tgt := 290) hx hb dL_law_40 (by rw [c2]; decide) (by rw [c2]; decide) (by rw [c2]; decide) (by decide) ?_
    exact k2
  by_cases c3 : y = 3
  · refine lv_tableIn (off := 275) (tgt := 315) hx hb dL_law_40 (by rw [c3]; decide) (by rw [c3]; decide) (by rw [c3]; decide) (by decide) ?_
    exact k3
  by_cases c4 : y = 4
  · refine lv_tableIn (off := 300) (tgt := 340) hx hb dL_law_40 (by rw [c4]; decide) (by rw [c4]; decide) (by rw [c4]; decide) (by decide) ?_
    exact k4
  by_cases c5 : y = 5
  · refine lv_tableIn (off := 340) (tgt := 380) hx hb dL_law_40 (by rw [c5]; decide) (by rw [c5]; decide) (by rw [c5]; decide) (by decide) ?_
    exact k5
  by_cases c6 : y = 6
  · refine lv_tableIn (off := 377) (tgt := 417) hx hb dL_law_40 (by rw [c6]; decide) (by rw [c6]; decide) (by rw [c6]; decide) (by decide) ?_
    exact k6
  by_cases c7 : y = 7
  · refine lv_tableIn (off := 414) (tgt := 454) hx hb dL_law_40 (by rw [c7]; decide) (by rw [c7]; decide) (by rw [c7]; decide) (by decide) ?_
    exact k7
  by_cases c8 : y = 8
  · refine lv_tableIn (off := 439) (tgt := 479) hx hb dL_law_40 (by rw [c8]; decide) (by rw [c8]; decide) (by rw [c8]; decide) (by decide) ?_
    exact k8
  by_cases c9 : y = 9
  · refine lv_tableIn (off := 476) (tgt := 516) hx hb dL_law_40 (by rw [c9]; decide) (by rw [c9]; decide) (by rw [c9]; decide) (by decide) ?_
    exact k9
  by_cases c10 : y = 10
  · refine lv_tableIn (off := 513) (tgt := 553) hx hb dL_law_40 (by rw [c10]; decide) (by rw [c10]; decide) (by rw [c10]; decide) (by decide) ?_
    exact k10
  by_cases c11 : y = 11
  · refine lv_tableIn (off := 538) (tgt := 578) hx hb dL_law_40 (by rw [c11]; decide) (by rw [c11]; decide) (by rw [c11]; decide) (by decide) ?_
    exact k11
  by_cases c12 : y = 12
  · refine lv_tableIn (off := 575) (tgt := 615) hx hb dL_law_40 (by rw [c12]; decide) (by rw [c12]; decide) (by rw [c12]; decide) (by decide) ?_
    exact k12
  by_cases c13 : y = 13
  · refine lv_tableIn (off := 600) (tgt := 640) hx hb dL_law_40 (by rw [c13]; decide) (by rw [c13]; decide) (by rw [c13]; decide) (by decide) ?_
    exact k13
  by_cases c14 : y = 14
  · refine lv_tableIn (off := 625) (tgt := 665) hx hb dL_law_40 (by rw [c14]; decide) (by rw [c14]; decide) (by rw [c14]; decide) (by decide) ?_
    exact k14
  by_cases c15 : y = 15
  · refine lv_tableIn (off := 662) (tgt := 702) hx hb dL_law_40 (by rw [c15]; decide) (by rw [c15]; decide) (by rw [c15]; decide) (by decide) ?_
    exact k15
  by_cases c16 : y = 16
  · refine lv_tableIn (off := 699) (tgt := 739) hx hb dL_law_40 (by rw [c16]; decide) (by rw [c16]; decide) (by rw [c16]; decide) (by decide) ?_
    exact k16
  by_cases c17 : y = 17
  · refine lv_tableIn (off := 736) (tgt := 776) hx hb dL_law_40 (by rw [c17]; decide) (by rw [c17]; decide) (by rw [c17]; decide) (by decide) ?_
    exact k17
  by_cases c18 : y = 18
  · refine lv_tableIn (off := 785) (tgt := 825) hx hb dL_law_40 (by rw [c18]; decide) (by rw [c18]; decide) (by rw [c18]; decide) (by decide) ?_
    exact k18
  by_cases c19 : y = 19
  · refine lv_tableIn (off := 810) (tgt := 850) hx hb dL_law_40 (by rw [c19]; decide) (by rw [c19]; decide) (by rw [c19]; decide) (by decide) ?_
    exact k19
  by_cases c20 : y = 20
  · refine lv_tableIn (off := 823) (tgt := 863) hx hb dL_law_40 (by rw [c20]; decide) (by rw [c20]; decide) (by rw [c20]; decide) (by decide) ?_
    exact k20
  by_cases c21 : y = 21
  · refine lv_tableIn (off := 848) (tgt := 888) hx hb dL_law_40 (by rw [c21]; decide) (by rw [c21]; decide) (by rw [c21]; decide) (by decide) ?_
    exact k21
  by_cases c22 : y = 22
  · refine lv_tableIn (off := 861) (tgt := 901) hx hb dL_law_40 (by rw [c22]; decide) (by rw [c22]; decide) (by rw [c22]; decide) (by decide) ?_
    exact k22
  by_cases c23 : y = 23
  · refine lv_tableIn (off := 874) (tgt := 914) hx hb dL_law_40 (by rw [c23]; decide) (by rw [c23]; decide) (by rw [c23]; decide) (by decide) ?_
    exact k23
  by_cases c24 : y = 24
  · refine lv_tableIn (off := 887) (tgt := 927) hx hb dL_law_40 (by rw [c24]; decide) (by rw [c24]; decide) (by rw [c24]; decide) (by decide) ?_
    exact k24
  by_cases c25 : y = 25
  · refine lv_tableIn (off := 964) (tgt := 1004) hx hb dL_law_40 (by rw [c25]; decide) (by rw [c25]; decide) (by rw [c25]; decide) (by decide) ?_
    exact k25
  by_cases c26 : y = 26
  · refine lv_tableIn (off := 989) (tgt := 1029) hx hb dL_law_40 (by rw [c26]; decide) (by rw [c26]; decide) (by rw [c26]; decide) (by decide) ?_
    exact k26
  by_cases c27 : y = 27
  · refine lv_tableIn (off := 1014) (tgt := 1054) hx hb dL_law_40 (by rw [c27]; decide) (by rw [c27]; decide) (by rw [c27]; decide) (by decide) ?_
    exact k27
  by_cases c28 : y = 28
  · refine lv_tableIn (off := 1039) (tgt := 1079) hx hb dL_law_40 (by rw [c28]; decide) (by rw [c28]; decide) (by rw [c28]; decide) (by decide) ?_
    exact k28
  by_cases c29 : y = 29
  · refine lv_tableIn (off := 1076) (tgt := 1116) hx hb dL_law_40 (by rw [c29]; decide) (by rw [c29]; decide) (by rw [c29]; decide) (by decide) ?_
    exact k29
  by_cases c30 : y = 30
  · refine lv_tableIn (off := 1113) (tgt := 1153) hx hb dL_law_40 (by rw [c30]; decide) (by rw [c30]; decide) (by rw [c30]; decide) (by decide) ?_
    exact k30
  by_cases c31 : y = 31
  · refine lv_tableIn (off := 1126) (tgt := 1166) hx hb dL_law_40 (by rw [c31]; decide) (by rw [c31]; decide) (by rw [c31]; decide) (by decide) ?_
    exact k31
  by_cases c32 : y = 32
  · refine lv_tableIn (off := 1139) (tgt := 1179) hx hb dL_law_40 (by rw [c32]; decide) (by rw [c32]; decide) (by rw [c32]; decide) (by decide) ?_
    exact k32
  by_cases c33 : y = 33
  · refine lv_tableIn (off := 1152) (tgt := 1192) hx hb dL_law_40 (by rw [c33]; decide) (by rw [c33]; decide) (by rw [c33]; decide) (by decide) ?_
    exact k33
  have n0 := tq_eqn (a := y.toInt) (b := 0) rfl (by decide) c0
  have n1 := tq_eqn (a := y.toInt) (b := 1) rfl (by decide) c1
  have n2 := tq_eqn (a := y.toInt) (b := 2) rfl (by decide) c2
  have n3 := tq_eqn (a := y.toInt) (b := 3) rfl (by decide) c3
  have n4 := tq_eqn (a := y.toInt) (b := 4) rfl (by decide) c4
  have n5 := tq_eqn (a := y.toInt) (b := 5) rfl (by decide) c5
  have n6 := tq_eqn (a := y.toInt) (b := 6) rfl (by decide) c6
  have n7 := tq_eqn (a := y.toInt) (b := 7) rfl (by decide) c7
  have n8 := tq_eqn (a := y.toInt) (b := 8) rfl (by decide) c8
  have n9 := tq_eqn (a := y.toInt) (b := 9) rfl (by decide) c9
  have n10 := tq_eqn (a := y.toInt) (b := 10) rfl (by decide) c10
  have n11 := tq_eqn (a := y.toInt) (b := 11) rfl (by decide) c11
  have n12 := tq_eqn (a := y.toInt) (b := 12) rfl (by decide) c12
  have n13 := tq_eqn (a := y.toInt) (b := 13) rfl (by decide) c13
  have n14 := tq_eqn (a := y.toInt) (b := 14) rfl (by decide) c14
  have n15 := tq_eqn (a := y.toInt) (b := 15) rfl (by decide) c15
  have n16 := tq_eqn (a := y.toInt) (b := 16) rfl (by decide) c16
  have n17 := tq_eqn (a := y.toInt) (b := 17) rfl (by decide) c17
  have n18 := tq_eqn (a := y.toInt) (b := 18) rfl (by decide) c18
  have n19 := tq_eqn (a := y.toInt) (b := 19) rfl (by decide) c19
  have n20 := tq_eqn (a := y.toInt) (b := 20) rfl (by decide) c20
  have n21 := tq_eqn (a := y.toInt) (b := 21) rfl (by decide) c21
  have n22 := tq_eqn (a := y.toInt) (b := 22) rfl (by decide) c22
  have n23 := tq_eqn (a := y.toInt) (b := 23) rfl (by decide) c23
  have n24 := tq_eqn (a := y.toInt) (b := 24) rfl (by decide) c24
  have n25 := tq_eqn (a := y.toInt) (b := 25) rfl (by decide) c25
  have n26 := tq_eqn (a := y.toInt) (b := 26) rfl (by decide) c26
  have n27 := tq_eqn (a := y.toInt) (b := 27) rfl (by decide) c27
  have n28 := tq_eqn (a := y.toInt) (b := 28) rfl (by decide) c28
  have n29 := tq_eqn (a := y.toInt) (b := 29) rfl (by decide) c29
  have n30 := tq_eqn (a := y.toInt) (b := 30) rfl (by decide) c30
  have n31 := tq_eqn (a := y.toInt) (b := 31) rfl (by decide) c31
  have n32 := tq_eqn (a := y.toInt) (b := 32) rfl (by decide) c32
  have n33 := tq_eqn (a := y.toInt) (b := 33) rfl (by decide) c33
  refine lv_tableOut (tgt := 1217) hx hb dL_law_40 (lw_out y n0 n1 n2 n3 n4 n5 n6 n7 n8 n9 n10 n11 n12 n13 n14 n15 n16 n17 n18 n19 n20 n21 n22 n23 n24 n25 n26 n27 n28 n29 n30 n31 n32 n33) (by decide) ?_
  exact kd
