set_option maxHeartbeats 8000000 in
set_option maxRecDepth 100000 in
theorem law_switch {p : Program} {e : Env} {s : State} {m : MethodId} {below : List Frame} {meth : Method} {c : Code} (l : Launch) {b L : Nat} {xs : Nat → Int32} (hL : L ≤ 6) (C0 : lw_At p s m meth c b L xs) {A : Nat → Prop} (hAe : A = fun q : Nat => s.heap.size ≤ q) {rt mm oa : Nat} {H : Heap} {locs : List Loc} {ls : Array Slot} (hS : va_S A s.heap H locs) (hl : lv_has ls 7 [(4, .int 0), (3, .ref oa), (2, .ref mm), (1, .ref rt), (0, .ref b)]) (k0 : lw_At p s m meth c b 6 xs → ∀ (w0 : Int32) (w1 : Int32) (w2 : Int32) (w3 : Int32) (w4 : Int32) (w5 : Int32), xs 0 = w0 → xs 1 = w1 → xs 2 = w2 → xs 3 = w3 → xs 4 = w4 → xs 5 = w5 → W p l e room_1 s m #[Value.ref b] below meth c H locs 160 7660 (lw_Z below #[Value.ref b] s) (F0 m 192 ls [])) (k1 : lw_At p s m meth c b 6 xs → ∀ (w0 : Int32) (w1 : Int32) (w2 : Int32) (w3 : Int32) (w4 : Int32) (w5 : Int32), xs 0 = w0 → xs 1 = w1 → xs 2 = w2 → xs 3 = w3 → xs 4 = w4 → xs 5 = w5 → W p l e room_1 s m #[Value.ref b] below meth c H locs 160 7660 (lw_Z below #[Value.ref b] s) (F0 m 265 ls [])) (k2 : lw_At p s m meth c b 6 xs → ∀ (w0 : Int32) (w1 : Int32) (w2 : Int32) (w3 : Int32) (w4 : Int32) (w5 : Int32), xs 0 = w0 → xs 1 = w1 → xs 2 = w2 → xs 3 = w3 → xs 4 = w4 → xs 5 = w5 → W p l e room_1 s m #[Value.ref b] below meth c H locs 160 7660 (lw_Z below #[Value.ref b] s) (F0 m 290 ls [])) (k3 : lw_At p s m meth c b 6 xs → ∀ (w0 : Int32) (w1 : Int32) (w2 : Int32) (w3 : Int32) (w4 : Int32) (w5 : Int32), xs 0 = w0 → xs 1 = w1 → xs 2 = w2 → xs 3 = w3 → xs 4 = w4 → xs 5 = w5 → W p l e room_1 s m #[Value.ref b] below meth c H locs 160 7660 (lw_Z below #[Value.ref b] s) (F0 m 315 ls [])) (k4 : lw_At p s m meth c b 6 xs → ∀ (w0 : Int32) (w1 : Int32) (w2 : Int32) (w3 : Int32) (w4 : Int32) (w5 : Int32), xs 0 = w0 → xs 1 = w1 → xs 2 = w2 → xs 3 = w3 → xs 4 = w4 → xs 5 = w5 → W p l e room_1 s m #[Value.ref b] below meth c H locs 160 7660 (lw_Z below #[Value.ref b] s) (F0 m 340 ls [])) (k5 : lw_At p s m meth c b 6 xs → ∀ (w0 : Int32) (w1 : Int32) (w2 : Int32) (w3 : Int32) (w4 : Int32) (w5 : Int32), xs 0 = w0 → xs 1 = w1 → xs 2 = w2 → xs 3 = w3 → xs 4 = w4 → xs 5 = w5 → W p l e room_1 s m #[Value.ref b] below meth c H locs 160 7660 (lw_Z below #[Value.ref b] s) (F0 m 408 ls [])) (k6 : lw_At p s m meth c b 6 xs → ∀ (w0 : Int32) (w1 : Int32) (w2 : Int32) (w3 : Int32) (w4 : Int32) (w5 : Int32), xs 0 = w0 → xs 1 = w1 → xs 2 = w2 → xs 3 = w3 → xs 4 = w4 → xs 5 = w5 → W p l e room_1 s m #[Value.ref b] below meth c H locs 160 7660 (lw_Z below #[Value.ref b] s) (F0 m 445 ls [])) (k7 : lw_At p s m meth c b 6 xs → ∀ (w0 : Int32) (w1 : Int32) (w2 : Int32) (w3 : Int32) (w4 : Int32) (w5 : Int32), xs 0 = w0 → xs 1 = w1 → xs 2 = w2 → xs 3 = w3 → xs 4 = w4 → xs 5 = w5 → W p l e room_1 s m #[Value.ref b] below meth c H locs 160 7660 (lw_Z below #[Value.ref b] s) (F0 m 482 ls [])) (k8 : lw_At p s m meth c b 6 xs → ∀ (w0 : Int32) (w1 : Int32) (w2 : Int32) (w3 : Int32) (w4 : Int32) (w5 : Int32), xs 0 = w0 → xs 1 = w1 → xs 2 = w2 → xs 3 = w3 → xs 4 = w4 → xs 5 = w5 → W p l e room_1 s m #[Value.ref b] below meth c H locs 160 7660 (lw_Z below #[Value.ref b] s) (F0 m 507 ls [])) (k9 : lw_At p s m meth c b 6 xs → ∀ (w0 : Int32) (w1 : Int32) (w2 : Int32) (w3 : Int32) (w4 : Int32) (w5 : Int32), xs 0 = w0 → xs 1 = w1 → xs 2 = w2 → xs 3 = w3 → xs 4 = w4 → xs 5 = w5 → W p l e room_1 s m #[Value.ref b] below meth c H locs 160 7660 (lw_Z below #[Value.ref b] s) (F0 m 545 ls [])) (k10 : lw_At p s m meth c b 6 xs → ∀ (w0 : Int32) (w1 : Int32) (w2 : Int32) (w3 : Int32) (w4 : Int32) (w5 : Int32), xs 0 = w0 → xs 1 = w1 → xs 2 = w2 → xs 3 = w3 → xs 4 = w4 → xs 5 = w5 → W p l e room_1 s m #[Value.ref b] below meth c H locs 160 7660 (lw_Z below #[Value.ref b] s) (F0 m 582 ls [])) (k11 : lw_At p s m meth c b 6 xs → ∀ (w0 : Int32) (w1 : Int32) (w2 : Int32) (w3 : Int32) (w4 : Int32) (w5 : Int32), xs 0 = w0 → xs 1 = w1 → xs 2 = w2 → xs 3 = w3 → xs 4 = w4 → xs 5 = w5 → W p l e room_1 s m #[Value.ref b] below meth c H locs 160 7660 (lw_Z below #[Value.ref b] s) (F0 m 607 ls [])) (k12 : lw_At p s m meth c b 6 xs → ∀ (w0 : Int32) (w1 : Int32) (w2 : Int32) (w3 : Int32) (w4 : Int32) (w5 : Int32), xs 0 = w0 → xs 1 = w1 → xs 2 = w2 → xs 3 = w3 → xs 4 = w4 → xs 5 = w5 → W p l e room_1 s m #[Value.ref b] below meth c H locs 160 7660 (lw_Z below #[Value.ref b] s) (F0 m 644 ls [])) (k13 : lw_At p s m meth c b 6 xs → ∀ (w0 : Int32) (w1 : Int32) (w2 : Int32) (w3 : Int32) (w4 : Int32) (w5 : Int32), xs 0 = w0 → xs 1 = w1 → xs 2 = w2 → xs 3 = w3 → xs 4 = w4 → xs 5 = w5 → W p l e room_1 s m #[Value.ref b] below meth c H locs 160 7660 (lw_Z below #[Value.ref b] s) (F0 m 669 ls [])) (k14 : lw_At p s m meth c b 6 xs → ∀ (w0 : Int32) (w1 : Int32) (w2 : Int32) (w3 : Int32) (w4 : Int32) (w5 : Int32), xs 0 = w0 → xs 1 = w1 → xs 2 = w2 → xs 3 = w3 → xs 4 = w4 → xs 5 = w5 → W p l e room_1 s m #[Value.ref b] below meth c H locs 160 7660 (lw_Z below #[Value.ref b] s) (F0 m 694 ls [])) (k15 : lw_At p s m meth c b 6 xs → ∀ (w0 : Int32) (w1 : Int32) (w2 : Int32) (w3 : Int32) (w4 : Int32) (w5 : Int32), xs 0 = w0 → xs 1 = w1 → xs 2 = w2 → xs 3 = w3 → xs 4 = w4 → xs 5 = w5 → W p l e room_1 s m #[Value.ref b] below meth c H locs 160 7660 (lw_Z below #[Value.ref b] s) (F0 m 731 ls [])) (k16 : lw_At p s m meth c b 6 xs → ∀ (w0 : Int32) (w1 : Int32) (w2 : Int32) (w3 : Int32) (w4 : Int32) (w5 : Int32), xs 0 = w0 → xs 1 = w1 → xs 2 = w2 → xs 3 = w3 → xs 4 = w4 → xs 5 = w5 → W p l e room_1 s m #[Value.ref b] below meth c H locs 160 7660 (lw_Z below #[Value.ref b] s) (F0 m 768 ls [])) (k17 : lw_At p s m meth c b 6 xs → ∀ (w0 : Int32) (w1 : Int32) (w2 : Int32) (w3 : Int32) (w4 : Int32) (w5 : Int32), xs 0 = w0 → xs 1 = w1 → xs 2 = w2 → xs 3 = w3 → xs 4 = w4 → xs 5 = w5 → W p l e room_1 s m #[Value.ref b] below meth c H locs 160 7660 (lw_Z below #[Value.ref b] s) (F0 m 805 ls [])) (k18 : lw_At p s m meth c b 6 xs → ∀ (w0 : Int32) (w1 : Int32) (w2 : Int32) (w3 : Int32) (w4 : Int32) (w5 : Int32), xs 0 = w0 → xs 1 = w1 → xs 2 = w2 → xs 3 = w3 → xs 4 = w4 → xs 5 = w5 → W p l e room_1 s m #[Value.ref b] below meth c H locs 160 7660 (lw_Z below #[Value.ref b] s) (F0 m 854 ls [])) (k19 : lw_At p s m meth c b 6 xs → ∀ (w0 : Int32) (w1 : Int32) (w2 : Int32) (w3 : Int32) (w4 : Int32) (w5 : Int32), xs 0 = w0 → xs 1 = w1 → xs 2 = w2 → xs 3 = w3 → xs 4 = w4 → xs 5 = w5 → W p l e room_1 s m #[Value.ref b] below meth c H locs 160 7660 (lw_Z below #[Value.ref b] s) (F0 m 879 ls [])) (k20 : lw_At p s m meth c b 6 xs → ∀ (w0 : Int32) (w1 : Int32) (w2 : Int32) (w3 : Int32) (w4 : Int32) (w5 : Int32), xs 0 = w0 → xs 1 = w1 → xs 2 = w2 → xs 3 = w3 → xs 4 = w4 → xs 5 = w5 → W p l e room_1 s m #[Value.ref b] below meth c H locs 160 7660 (lw_Z below #[Value.ref b] s) (F0 m 892 ls [])) (k21 : lw_At p s m meth c b 6 xs → ∀ (w0 : Int32) (w1 : Int32) (w2 : Int32) (w3 : Int32) (w4 : Int32) (w5 : Int32), xs 0 = w0 → xs 1 = w1 → xs 2 = w2 → xs 3 = w3 → xs 4 = w4 → xs 5 = w5 → W p l e room_1 s m #[Value.ref b] below meth c H locs 160 7660 (lw_Z below #[Value.ref b] s) (F0 m 917 ls [])) (k22 : lw_At p s m meth c b 6 xs → ∀ (w0 : Int32) (w1 : Int32) (w2 : Int32) (w3 : Int32) (w4 : Int32) (w5 : Int32), xs 0 = w0 → xs 1 = w1 → xs 2 = w2 → xs 3 = w3 → xs 4 = w4 → xs 5 = w5 → W p l e room_1 s m #[Value.ref b] below meth c H locs 160 7660 (lw_Z below #[Value.ref b] s) (F0 m 930 ls [])) (k23 : lw_At p s m meth c b 6 xs → ∀ (w0 : Int32) (w1 : Int32) (w2 : Int32) (w3 : Int32) (w4 : Int32) (w5 : Int32), xs 0 = w0 → xs 1 = w1 → xs 2 = w2 → xs 3 = w3 → xs 4 = w4 → xs 5 = w5 → W p l e room_1 s m #[Value.ref b] below meth c H locs 160 7660 (lw_Z below #[Value.ref b] s) (F0 m 943 ls [])) (k24 : lw_At p s m meth c b 6 xs → ∀ (w0 : Int32) (w1 : Int32) (w2 : Int32) (w3 : Int32) (w4 : Int32) (w5 : Int32), xs 0 = w0 → xs 1 = w1 → xs 2 = w2 → xs 3 = w3 → xs 4 = w4 → xs 5 = w5 → W p l e room_1 s m #[Value.ref b] below meth c H locs 160 7660 (lw_Z below #[Value.ref b] s) (F0 m 956 ls [])) (k25 : lw_At p s m meth c b 6 xs → ∀ (w0 : Int32) (w1 : Int32) (w2 : Int32) (w3 : Int32) (w4 : Int32) (w5 : Int32), xs 0 = w0 → xs 1 = w1 → xs 2 = w2 → xs 3 = w3 → xs 4 = w4 → xs 5 = w5 → W p l e room_1 s m #[Value.ref b] below meth c H locs 160 7660 (lw_Z below #[Value.ref b] s) (F0 m 1033 ls [])) (k26 : lw_At p s m meth c b 6 xs → ∀ (w0 : Int32) (w1 : Int32) (w2 : Int32) (w3 : Int32) (w4 : Int32) (w5 : Int32), xs 0 = w0 → xs 1 = w1 → xs 2 = w2 → xs 3 = w3 → xs 4 = w4 → xs 5 = w5 → W p l e room_1 s m #[Value.ref b] below meth c H locs 160 7660 (lw_Z below #[Value.ref b] s) (F0 m 1058 ls [])) (k27 : lw_At p s m meth c b 6 xs → ∀ (w0 : Int32) (w1 : Int32) (w2 : Int32) (w3 : Int32) (w4 : Int32) (w5 : Int32), xs 0 = w0 → xs 1 = w1 → xs 2 = w2 → xs 3 = w3 → xs 4 = w4 → xs 5 = w5 → W p l e room_1 s m #[Value.ref b] below meth c H locs 160 7660 (lw_Z below #[Value.ref b] s) (F0 m 1083 ls [])) (k28 : lw_At p s m meth c b 6 xs → ∀ (w0 : Int32) (w1 : Int32) (w2 : Int32) (w3 : Int32) (w4 : Int32) (w5 : Int32), xs 0 = w0 → xs 1 = w1 → xs 2 = w2 → xs 3 = w3 → xs 4 = w4 → xs 5 = w5 → W p l e room_1 s m #[Value.ref b] below meth c H locs 160 7660 (lw_Z below #[Value.ref b] s) (F0 m 1108 ls [])) (k29 : lw_At p s m meth c b 6 xs → ∀ (w0 : Int32) (w1 : Int32) (w2 : Int32) (w3 : Int32) (w4 : Int32) (w5 : Int32), xs 0 = w0 → xs 1 = w1 → xs 2 = w2 → xs 3 = w3 → xs 4 = w4 → xs 5 = w5 → W p l e room_1 s m #[Value.ref b] below meth c H locs 160 7660 (lw_Z below #[Value.ref b] s) (F0 m 1145 ls [])) (k30 : lw_At p s m meth c b 6 xs → ∀ (w0 : Int32) (w1 : Int32) (w2 : Int32) (w3 : Int32) (w4 : Int32) (w5 : Int32), xs 0 = w0 → xs 1 = w1 → xs 2 = w2 → xs 3 = w3 → xs 4 = w4 → xs 5 = w5 → W p l e room_1 s m #[Value.ref b] below meth c H locs 160 7660 (lw_Z below #[Value.ref b] s) (F0 m 1182 ls [])) (k31 : lw_At p s m meth c b 6 xs → ∀ (w0 : Int32) (w1 : Int32) (w2 : Int32) (w3 : Int32) (w4 : Int32) (w5 : Int32), xs 0 = w0 → xs 1 = w1 → xs 2 = w2 → xs 3 = w3 → xs 4 = w4 → xs 5 = w5 → W p l e room_1 s m #[Value.ref b] below meth c H locs 160 7660 (lw_Z below #[Value.ref b] s) (F0 m 1195 ls [])) (k32 : lw_At p s m meth c b 6 xs → ∀ (w0 : Int32) (w1 : Int32) (w2 : Int32) (w3 : Int32) (w4 : Int32) (w5 : Int32), xs 0 = w0 → xs 1 = w1 → xs 2 = w2 → xs 3 = w3 → xs 4 = w4 → xs 5 = w5 → W p l e room_1 s m #[Value.ref b] below meth c H locs 160 7660 (lw_Z below #[Value.ref b] s) (F0 m 1208 ls [])) (k33 : lw_At p s m meth c b 6 xs → ∀ (w0 : Int32) (w1 : Int32) (w2 : Int32) (w3 : Int32) (w4 : Int32) (w5 : Int32), xs 0 = w0 → xs 1 = w1 → xs 2 = w2 → xs 3 = w3 → xs 4 = w4 → xs 5 = w5 → W p l e room_1 s m #[Value.ref b] below meth c H locs 160 7660 (lw_Z below #[Value.ref b] s) (F0 m 1221 ls [])) : W p l e room_1 s m #[Value.ref b] below meth c H locs 160 7660 (lw_Z below #[Value.ref b] s) (F0 m 23 ls []) := by
  obtain ⟨hx, hb, hr, hml, hown, hts, hX, hbl, hlocks, hgv⟩ := id C0
  have hbA : ¬ A b := by rw [hAe]; exact Nat.not_le.mpr hbl
  rcases (show L = 0 ∨ L = 1 ∨ L = 2 ∨ L = 3 ∨ L = 4 ∨ L = 5 ∨ L = 6 by omega) with rfl | rfl | rfl | rfl | rfl | rfl | rfl
  · skip
    refine lv_iload hx hb dL_law_23 (lv_at hl 0 rfl) ?_
    refine lv_aload_n hx hb dL_law_25 rfl (lv_at hl 4 rfl) ?_
    refine va_slen hx hb hX hbl hbA hS dL_law_26 ?_
    refine tq_i (w := 0) (by decide) ?_
    refine lv_bipush (v := 6) hx hb dL_law_27 (by decide) ?_
    refine lv_isub hx hb dL_law_29 ?_
    refine tq_i (w := (-6)) (by decide) ?_
    refine lv_icmp_gt (tgt := 1252) hx hb dL_law_30 (by decide) (fun c101 => ?_) (fun c101 => absurd (by decide) c101)
    refine lv_iconst (v := 1) hx hb dL_law_1252 (by decide) ?_
    refine va_forget (fun q hq => by have h9 := hS.2.2 q hq; rw [hAe] at h9; exact h9) ?_
    refine W.widen (k := 600002) (n := 7302232) (Nat.le_of_ble_eq_true rfl) (Nat.le_of_ble_eq_true rfl) ?_
    exact lw_ret hx hb hr hlocks dL_law_1253
  · skip
    refine lv_iload hx hb dL_law_23 (lv_at hl 0 rfl) ?_
    refine lv_aload_n hx hb dL_law_25 rfl (lv_at hl 4 rfl) ?_
    refine va_slen hx hb hX hbl hbA hS dL_law_26 ?_
    refine tq_i (w := 1) (by decide) ?_
    refine lv_bipush (v := 6) hx hb dL_law_27 (by decide) ?_
    refine lv_isub hx hb dL_law_29 ?_
    refine tq_i (w := (-5)) (by decide) ?_
    refine lv_icmp_gt (tgt := 1252) hx hb dL_law_30 (by decide) (fun c102 => ?_) (fun c102 => absurd (by decide) c102)
    refine lv_iconst (v := 1) hx hb dL_law_1252 (by decide) ?_
    refine va_forget (fun q hq => by have h9 := hS.2.2 q hq; rw [hAe] at h9; exact h9) ?_
    refine W.widen (k := 600002) (n := 7302232) (Nat.le_of_ble_eq_true rfl) (Nat.le_of_ble_eq_true rfl) ?_
    exact lw_ret hx hb hr hlocks dL_law_1253
  · skip
    refine lv_iload hx hb dL_law_23 (lv_at hl 0 rfl) ?_
    refine lv_aload_n hx hb dL_law_25 rfl (lv_at hl 4 rfl) ?_
    refine va_slen hx hb hX hbl hbA hS dL_law_26 ?_
    refine tq_i (w := 2) (by decide) ?_
    refine lv_bipush (v := 6) hx hb dL_law_27 (by decide) ?_
    refine lv_isub hx hb dL_law_29 ?_
    refine tq_i (w := (-4)) (by decide) ?_
    refine lv_icmp_gt (tgt := 1252) hx hb dL_law_30 (by decide) (fun c103 => ?_) (fun c103 => absurd (by decide) c103)
    refine lv_iconst (v := 1) hx hb dL_law_1252 (by decide) ?_
    refine va_forget (fun q hq => by have h9 := hS.2.2 q hq; rw [hAe] at h9; exact h9) ?_
    refine W.widen (k := 600002) (n := 7302232) (Nat.le_of_ble_eq_true rfl) (Nat.le_of_ble_eq_true rfl) ?_
    exact lw_ret hx hb hr hlocks dL_law_1253
  · skip
    refine lv_iload hx hb dL_law_23 (lv_at hl 0 rfl) ?_
    refine lv_aload_n hx hb dL_law_25 rfl (lv_at hl 4 rfl) ?_
    refine va_slen hx hb hX hbl hbA hS dL_law_26 ?_
    refine tq_i (w := 3) (by decide) ?_
    refine lv_bipush (v := 6) hx hb dL_law_27 (by decide) ?_
    refine lv_isub hx hb dL_law_29 ?_
    refine tq_i (w := (-3)) (by decide) ?_
    refine lv_icmp_gt (tgt := 1252) hx hb dL_law_30 (by decide) (fun c104 => ?_) (fun c104 => absurd (by decide) c104)
    refine lv_iconst (v := 1) hx hb dL_law_1252 (by decide) ?_
    refine va_forget (fun q hq => by have h9 := hS.2.2 q hq; rw [hAe] at h9; exact h9) ?_
    refine W.widen (k := 600002) (n := 7302232) (Nat.le_of_ble_eq_true rfl) (Nat.le_of_ble_eq_true rfl) ?_
    exact lw_ret hx hb hr hlocks dL_law_1253
  · skip
    refine lv_iload hx hb dL_law_23 (lv_at hl 0 rfl) ?_
    refine lv_aload_n hx hb dL_law_25 rfl (lv_at hl 4 rfl) ?_
    refine va_slen hx hb hX hbl hbA hS dL_law_26 ?_
    refine tq_i (w := 4) (by decide) ?_
    refine lv_bipush (v := 6) hx hb dL_law_27 (by decide) ?_
    refine lv_isub hx hb dL_law_29 ?_
    refine tq_i (w := (-2)) (by decide) ?_
    refine lv_icmp_gt (tgt := 1252) hx hb dL_law_30 (by decide) (fun c105 => ?_) (fun c105 => absurd (by decide) c105)
    refine lv_iconst (v := 1) hx hb dL_law_1252 (by decide) ?_
    refine va_forget (fun q hq => by have h9 := hS.2.2 q hq; rw [hAe] at h9; exact h9) ?_
    refine W.widen (k := 600002) (n := 7302232) (Nat.le_of_ble_eq_true rfl) (Nat.le_of_ble_eq_true rfl) ?_
    exact lw_ret hx hb hr hlocks dL_law_1253
  · skip
    refine lv_iload hx hb dL_law_23 (lv_at hl 0 rfl) ?_
    refine lv_aload_n hx hb dL_law_25 rfl (lv_at hl 4 rfl) ?_
    refine va_slen hx hb hX hbl hbA hS dL_law_26 ?_
    refine tq_i (w := 5) (by decide) ?_
    refine lv_bipush (v := 6) hx hb dL_law_27 (by decide) ?_
    refine lv_isub hx hb dL_law_29 ?_
    refine tq_i (w := (-1)) (by decide) ?_
    refine lv_icmp_gt (tgt := 1252) hx hb dL_law_30 (by decide) (fun c106 => ?_) (fun c106 => absurd (by decide) c106)
    refine lv_iconst (v := 1) hx hb dL_law_1252 (by decide) ?_
    refine va_forget (fun q hq => by have h9 := hS.2.2 q hq; rw [hAe] at h9; exact h9) ?_
    refine W.widen (k := 600002) (n := 7302232) (Nat.le_of_ble_eq_true rfl) (Nat.le_of_ble_eq_true rfl) ?_
    exact lw_ret hx hb hr hlocks dL_law_1253
  · skip
    obtain ⟨w0, hw0⟩ : ∃ z, xs 0 = z := ⟨_, rfl⟩
    obtain ⟨w1, hw1⟩ : ∃ z, xs 1 = z := ⟨_, rfl⟩
    obtain ⟨w2, hw2⟩ : ∃ z, xs 2 = z := ⟨_, rfl⟩
    obtain ⟨w3, hw3⟩ : ∃ z, xs 3 = z := ⟨_, rfl⟩
    obtain ⟨w4, hw4⟩ : ∃ z, xs 4 = z := ⟨_, rfl⟩
    obtain ⟨w5, hw5⟩ : ∃ z, xs 5 = z := ⟨_, rfl⟩
    refine lv_iload hx hb dL_law_23 (lv_at hl 0 rfl) ?_
    refine lv_aload_n hx hb dL_law_25 rfl (lv_at hl 4 rfl) ?_
    refine va_slen hx hb hX hbl hbA hS dL_law_26 ?_
    refine tq_i (w := 6) (by decide) ?_
    refine lv_bipush (v := 6) hx hb dL_law_27 (by decide) ?_
    refine lv_isub hx hb dL_law_29 ?_
    refine tq_i (w := 0) (by decide) ?_
    refine lv_icmp_gt (tgt := 1252) hx hb dL_law_30 (by decide) (fun c107 => absurd c107 (by decide)) (fun c107 => ?_)
    refine lv_aload_n hx hb dL_law_33 rfl (lv_at hl 4 rfl) ?_
    refine lv_iload hx hb dL_law_34 (lv_at hl 0 rfl) ?_
    refine va_sld (i := 0) hx hb hX hbl hbA hS (tq_in (by decide)) dL_law_36 ?_
    refine tq_i (w := w0) hw0 ?_
    refine lv_bipush (v := 63) hx hb dL_law_37 (by decide) ?_
    refine lv_iand hx hb dL_law_39 ?_
    refine lv_topi (fun x108 ex108 => ?_)
    have k109 : (x108.toInt < 0 ∨ 33 < x108.toInt) ∨ x108.toInt = 0 ∨ x108.toInt = 1 ∨ x108.toInt = 2 ∨ x108.toInt = 3 ∨ x108.toInt = 4 ∨ x108.toInt = 5 ∨ x108.toInt = 6 ∨ x108.toInt = 7 ∨ x108.toInt = 8 ∨ x108.toInt = 9 ∨ x108.toInt = 10 ∨ x108.toInt = 11 ∨ x108.toInt = 12 ∨ x108.toInt = 13 ∨ x108.toInt = 14 ∨ x108.toInt = 15 ∨ x108.toInt = 16 ∨ x108.toInt = 17 ∨ x108.toInt = 18 ∨ x108.toInt = 19 ∨ x108.toInt = 20 ∨ x108.toInt = 21 ∨ x108.toInt = 22 ∨ x108.toInt = 23 ∨ x108.toInt = 24 ∨ x108.toInt = 25 ∨ x108.toInt = 26 ∨ x108.toInt = 27 ∨ x108.toInt = 28 ∨ x108.toInt = 29 ∨ x108.toInt = 30 ∨ x108.toInt = 31 ∨ x108.toInt = 32 ∨ x108.toInt = 33 := by omega
    rcases k109 with k109 | k109 | k109 | k109 | k109 | k109 | k109 | k109 | k109 | k109 | k109 | k109 | k109 | k109 | k109 | k109 | k109 | k109 | k109 | k109 | k109 | k109 | k109 | k109 | k109 | k109 | k109 | k109 | k109 | k109 | k109 | k109 | k109 | k109 | k109
    · refine lv_tableOut (tgt := 1246) hx hb dL_law_40 k109 (by decide) ?_
      refine lv_iinc (v := 6) (lv' := [(4, .int 6), (3, .ref oa), (2, .ref mm), (1, .ref rt), (0, .ref b)]) hx hb dL_law_1246 hl (k := 0) rfl (by decide) (by decide) rfl (fun ls hl => ?_)
      refine lv_goto (tgt := 23) hx hb dL_law_1249 (by decide) ?_
      refine lv_iload hx hb dL_law_23 (lv_at hl 0 rfl) ?_
      refine lv_aload_n hx hb dL_law_25 rfl (lv_at hl 4 rfl) ?_
      refine va_slen hx hb hX hbl hbA hS dL_law_26 ?_
      refine tq_i (w := 6) (by decide) ?_
      refine lv_bipush (v := 6) hx hb dL_law_27 (by decide) ?_
      refine lv_isub hx hb dL_law_29 ?_
      refine tq_i (w := 0) (by decide) ?_
      refine lv_icmp_gt (tgt := 1252) hx hb dL_law_30 (by decide) (fun c110 => ?_) (fun c110 => absurd (by decide) c110)
      refine lv_iconst (v := 1) hx hb dL_law_1252 (by decide) ?_
      refine va_forget (fun q hq => by have h9 := hS.2.2 q hq; rw [hAe] at h9; exact h9) ?_
      refine W.widen (k := 600002) (n := 7302232) (Nat.le_of_ble_eq_true rfl) (Nat.le_of_ble_eq_true rfl) ?_
      exact lw_ret hx hb hr hlocks dL_law_1253
    · refine lv_tableIn (off := 152) (tgt := 192) hx hb dL_law_40 (by omega) (by omega) (by rw [k109]; rfl) (by decide) ?_
      exact k0 C0 w0 w1 w2 w3 w4 w5 hw0 hw1 hw2 hw3 hw4 hw5
    · refine lv_tableIn (off := 225) (tgt := 265) hx hb dL_law_40 (by omega) (by omega) (by rw [k109]; rfl) (by decide) ?_
      exact k1 C0 w0 w1 w2 w3 w4 w5 hw0 hw1 hw2 hw3 hw4 hw5
    · refine lv_tableIn (off := 250) (tgt := 290) hx hb dL_law_40 (by omega) (by omega) (by rw [k109]; rfl) (by decide) ?_
      exact k2 C0 w0 w1 w2 w3 w4 w5 hw0 hw1 hw2 hw3 hw4 hw5
    · refine lv_tableIn (off := 275) (tgt := 315) hx hb dL_law_40 (by omega) (by omega) (by rw [k109]; rfl) (by decide) ?_
      exact k3 C0 w0 w1 w2 w3 w4 w5 hw0 hw1 hw2 hw3 hw4 hw5
    · refine lv_tableIn (off := 300) (tgt := 340) hx hb dL_law_40 (by omega) (by omega) (by rw [k109]; rfl) (by decide) ?_
      exact k4 C0 w0 w1 w2 w3 w4 w5 hw0 hw1 hw2 hw3 hw4 hw5
    · refine lv_tableIn (off := 368) (tgt := 408) hx hb dL_law_40 (by omega) (by omega) (by rw [k109]; rfl) (by decide) ?_
      exact k5 C0 w0 w1 w2 w3 w4 w5 hw0 hw1 hw2 hw3 hw4 hw5
    · refine lv_tableIn (off := 405) (tgt := 445) hx hb dL_law_40 (by omega) (by omega) (by rw [k109]; rfl) (by decide) ?_
      exact k6 C0 w0 w1 w2 w3 w4 w5 hw0 hw1 hw2 hw3 hw4 hw5
    · refine lv_tableIn (off := 442) (tgt := 482) hx hb dL_law_40 (by omega) (by omega) (by rw [k109]; rfl) (by decide) ?_
      exact k7 C0 w0 w1 w2 w3 w4 w5 hw0 hw1 hw2 hw3 hw4 hw5
    · refine lv_tableIn (off := 467) (tgt := 507) hx hb dL_law_40 (by omega) (by omega) (by rw [k109]; rfl) (by decide) ?_
      exact k8 C0 w0 w1 w2 w3 w4 w5 hw0 hw1 hw2 hw3 hw4 hw5
    · refine lv_tableIn (off := 505) (tgt := 545) hx hb dL_law_40 (by omega) (by omega) (by rw [k109]; rfl) (by decide) ?_
      exact k9 C0 w0 w1 w2 w3 w4 w5 hw0 hw1 hw2 hw3 hw4 hw5
    · refine lv_tableIn (off := 542) (tgt := 582) hx hb dL_law_40 (by omega) (by omega) (by rw [k109]; rfl) (by decide) ?_
      exact k10 C0 w0 w1 w2 w3 w4 w5 hw0 hw1 hw2 hw3 hw4 hw5
    · refine lv_tableIn (off := 567) (tgt := 607) hx hb dL_law_40 (by omega) (by omega) (by rw [k109]; rfl) (by decide) ?_
      exact k11 C0 w0 w1 w2 w3 w4 w5 hw0 hw1 hw2 hw3 hw4 hw5
    · refine lv_tableIn (off := 604) (tgt := 644) hx hb dL_law_40 (by omega) (by omega) (by rw [k109]; rfl) (by decide) ?_
      exact k12 C0 w0 w1 w2 w3 w4 w5 hw0 hw1 hw2 hw3 hw4 hw5
    · refine lv_tableIn (off := 629) (tgt := 669) hx hb dL_law_40 (by omega) (by omega) (by rw [k109]; rfl) (by decide) ?_
      exact k13 C0 w0 w1 w2 w3 w4 w5 hw0 hw1 hw2 hw3 hw4 hw5
    · refine lv_tableIn (off := 654) (tgt := 694) hx hb dL_law_40 (by omega) (by omega) (by rw [k109]; rfl) (by decide) ?_
      exact k14 C0 w0 w1 w2 w3 w4 w5 hw0 hw1 hw2 hw3 hw4 hw5
    · refine lv_tableIn (off := 691) (tgt := 731) hx hb dL_law_40 (by omega) (by omega) (by rw [k109]; rfl) (by decide) ?_
      exact k15 C0 w0 w1 w2 w3 w4 w5 hw0 hw1 hw2 hw3 hw4 hw5
    · refine lv_tableIn (off := 728) (tgt := 768) hx hb dL_law_40 (by omega) (by omega) (by rw [k109]; rfl) (by decide) ?_
      exact k16 C0 w0 w1 w2 w3 w4 w5 hw0 hw1 hw2 hw3 hw4 hw5
    · refine lv_tableIn (off := 765) (tgt := 805) hx hb dL_law_40 (by omega) (by omega) (by rw [k109]; rfl) (by decide) ?_
      exact k17 C0 w0 w1 w2 w3 w4 w5 hw0 hw1 hw2 hw3 hw4 hw5
    · refine lv_tableIn (off := 814) (tgt := 854) hx hb dL_law_40 (by omega) (by omega) (by rw [k109]; rfl) (by decide) ?_
      exact k18 C0 w0 w1 w2 w3 w4 w5 hw0 hw1 hw2 hw3 hw4 hw5
    · refine lv_tableIn (off := 839) (tgt := 879) hx hb dL_law_40 (by omega) (by omega) (by rw [k109]; rfl) (by decide) ?_
      exact k19 C0 w0 w1 w2 w3 w4 w5 hw0 hw1 hw2 hw3 hw4 hw5
    · refine lv_tableIn (off := 852) (tgt := 892) hx hb dL_law_40 (by omega) (by omega) (by rw [k109]; rfl) (by decide) ?_
      exact k20 C0 w0 w1 w2 w3 w4 w5 hw0 hw1 hw2 hw3 hw4 hw5
    · refine lv_tableIn (off := 877) (tgt := 917) hx hb dL_law_40 (by omega) (by omega) (by rw [k109]; rfl) (by decide) ?_
      exact k21 C0 w0 w1 w2 w3 w4 w5 hw0 hw1 hw2 hw3 hw4 hw5
    · refine lv_tableIn (off := 890) (tgt := 930) hx hb dL_law_40 (by omega) (by omega) (by rw [k109]; rfl) (by decide) ?_
      exact k22 C0 w0 w1 w2 w3 w4 w5 hw0 hw1 hw2 hw3 hw4 hw5
    · refine lv_tableIn (off := 903) (tgt := 943) hx hb dL_law_40 (by omega) (by omega) (by rw [k109]; rfl) (by decide) ?_
      exact k23 C0 w0 w1 w2 w3 w4 w5 hw0 hw1 hw2 hw3 hw4 hw5
    · refine lv_tableIn (off := 916) (tgt := 956) hx hb dL_law_40 (by omega) (by omega) (by rw [k109]; rfl) (by decide) ?_
      exact k24 C0 w0 w1 w2 w3 w4 w5 hw0 hw1 hw2 hw3 hw4 hw5
    · refine lv_tableIn (off := 993) (tgt := 1033) hx hb dL_law_40 (by omega) (by omega) (by rw [k109]; rfl) (by decide) ?_
      exact k25 C0 w0 w1 w2 w3 w4 w5 hw0 hw1 hw2 hw3 hw4 hw5
    · refine lv_tableIn (off := 1018) (tgt := 1058) hx hb dL_law_40 (by omega) (by omega) (by rw [k109]; rfl) (by decide) ?_
      exact k26 C0 w0 w1 w2 w3 w4 w5 hw0 hw1 hw2 hw3 hw4 hw5
    · refine lv_tableIn (off := 1043) (tgt := 1083) hx hb dL_law_40 (by omega) (by omega) (by rw [k109]; rfl) (by decide) ?_
      exact k27 C0 w0 w1 w2 w3 w4 w5 hw0 hw1 hw2 hw3 hw4 hw5
    · refine lv_tableIn (off := 1068) (tgt := 1108) hx hb dL_law_40 (by omega) (by omega) (by rw [k109]; rfl) (by decide) ?_
      exact k28 C0 w0 w1 w2 w3 w4 w5 hw0 hw1 hw2 hw3 hw4 hw5
    · refine lv_tableIn (off := 1105) (tgt := 1145) hx hb dL_law_40 (by omega) (by omega) (by rw [k109]; rfl) (by decide) ?_
      exact k29 C0 w0 w1 w2 w3 w4 w5 hw0 hw1 hw2 hw3 hw4 hw5
    · refine lv_tableIn (off := 1142) (tgt := 1182) hx hb dL_law_40 (by omega) (by omega) (by rw [k109]; rfl) (by decide) ?_
      exact k30 C0 w0 w1 w2 w3 w4 w5 hw0 hw1 hw2 hw3 hw4 hw5
    · refine lv_tableIn (off := 1155) (tgt := 1195) hx hb dL_law_40 (by omega) (by omega) (by rw [k109]; rfl) (by decide) ?_
      exact k31 C0 w0 w1 w2 w3 w4 w5 hw0 hw1 hw2 hw3 hw4 hw5
    · refine lv_tableIn (off := 1168) (tgt := 1208) hx hb dL_law_40 (by omega) (by omega) (by rw [k109]; rfl) (by decide) ?_
      exact k32 C0 w0 w1 w2 w3 w4 w5 hw0 hw1 hw2 hw3 hw4 hw5
    · refine lv_tableIn (off := 1181) (tgt := 1221) hx hb dL_law_40 (by omega) (by omega) (by rw [k109]; rfl) (by decide) ?_
      exact k33 C0 w0 w1 w2 w3 w4 w5 hw0 hw1 hw2 hw3 hw4 hw5
