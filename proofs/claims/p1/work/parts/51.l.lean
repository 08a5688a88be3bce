set_option maxHeartbeats 4000000 in
set_option maxRecDepth 100000 in
theorem law_9 {p : Program} {e : Env} {s : State} {m : MethodId} {below : List Frame} {meth : Method} {c : Code} (l : Launch) (hst : l.stackTraces = false) {b : Nat} {xs : Nat → Int32} (C0 : lw_At p s m meth c b 6 xs) (G : va_G) (cA : Nat → ClassId) {A : Nat → Prop} (hAe : A = fun q : Nat => s.heap.size ≤ q) (hK : va_K G vwCl (tyL cA) s) (hN : tqN s) (sP : Nat) (hXx : tqX sP A s s.heap) (w0 : Int32) (w1 : Int32) (w2 : Int32) (w3 : Int32) (w4 : Int32) (w5 : Int32) (hw0 : xs 0 = w0) (hw1 : xs 1 = w1) (hw2 : xs 2 = w2) (hw3 : xs 3 = w3) (hw4 : xs 4 = w4) (hw5 : xs 5 = w5) (h0 : Nat) (mm : Nat) (oa : Nat) (fs : List Value) (pa : Nat) (ps : List Value) (mfs : List Value) {H : Heap} {locs : List Loc} {ls : Array Slot} (hf : fh fs 12 [(1, .ref pa)]) (hp : fh ps 19 [(2, .int 0)]) (hmf : fh mfs 91 [(14, .int 0)]) (hP : va_P G vwCl [(h0, .inr (7, fs)), (pa, .inr (2, ps)), (mm, .inr (8, mfs))] H) (hD : va_D A [(h0, .inr (7, fs)), (pa, .inr (2, ps)), (mm, .inr (8, mfs))]) (hS : va_S A s.heap H locs) (hl : lv_has ls 7 [(4, .int 0), (3, .ref oa), (2, .ref mm), (1, .ref h0), (0, .ref b)]) : W p l e room_1 s m #[Value.ref b] below meth c H locs 160 7660 (lw_Z below #[Value.ref b] s) (F0 m 545 ls []) := by
  obtain ⟨hx, hb, hr, hml, hown, hts, hX, hbl, hlocks, hgv⟩ := id C0
  have hT : ∀ v ∈ T0, v.before #[Value.ref b] s = true := fun v h => hts v (tq_law_in v h)
  have hown : s.vm.findClass RL = some m.cls := hown
  have hA : ∀ q : Nat, s.heap.size ≤ q → A q := fun q h => by rw [hAe]; exact h
  have hbA : ¬ A b := by rw [hAe]; exact Nat.not_le.mpr hbl
  have hO := hN.2.2.2.2
  refine lv_aload_n hx hb dL_law_545 rfl (lv_at hl 3 rfl) ?_
  refine lv_aload_n hx hb dL_law_546 rfl (lv_at hl 4 rfl) ?_
  refine lv_iload hx hb dL_law_547 (lv_at hl 0 rfl) ?_
  refine lv_iconst (v := 1) hx hb dL_law_549 (by decide) ?_
  refine lv_iadd hx hb dL_law_550 ?_
  refine tq_i (w := 1) (by decide) ?_
  refine va_sld (i := 1) hx hb hX hbl hbA hS (tq_in (by decide)) dL_law_551 ?_
  refine tq_i (w := w1) hw1 ?_
  refine lv_aload_n hx hb dL_law_552 rfl (lv_at hl 4 rfl) ?_
  refine lv_iload hx hb dL_law_553 (lv_at hl 0 rfl) ?_
  refine lv_iconst (v := 2) hx hb dL_law_555 (by decide) ?_
  refine lv_iadd hx hb dL_law_556 ?_
  refine tq_i (w := 2) (by decide) ?_
  refine va_sld (i := 2) hx hb hX hbl hbA hS (tq_in (by decide)) dL_law_557 ?_
  refine tq_i (w := w2) hw2 ?_
  refine tq_ci (wr := [(mm, .inr (8, mfs))]) hP hD hS hA [0, 1] [2] rfl rfl (by decide) (by decide) (va_runV (As := [.int w1, .int w2]) (rest := []) ⟨hx, hb, hml, hown, hT⟩ (c_X7_move l G cA H.size h0 w1 w2 fs pa ps (fh_sub hf [0] rfl) (fh_sub hp [0] rfl)) (cwV 2 hT (tq_gV kw_35_20 kw_35_21 kw_35_22 kw_1_2 kw_35_23) rfl rfl rfl (by decide +kernel) ⟨Nat.le_of_ble_eq_true rfl, Nat.le_of_ble_eq_true rfl⟩) ⟨(tq_pre (isC := [0, 1]) hP hD hK hN rfl (by decide)).1, va_recv hK hP (ci := 7) (q0 := 0) rfl rfl, (tq_pre (isC := [0, 1]) hP hD hK hN rfl (by decide)).2⟩ rfl rfl hl.1 rfl (lv_room (Nat.le_of_ble_eq_true rfl)) dL_law_558 ⟨Nat.le_of_ble_eq_true rfl, Nat.le_of_ble_eq_true rfl⟩) (fun r101 u102 H locs hw103 hP hD hS => ?_)
  refine W.widen (k := 160) (n := 7660) (Nat.le_of_ble_eq_true rfl) (Nat.le_of_ble_eq_true rfl) ?_
  have hr104 := hw103
  subst hr104
  have hP : va_P G vwCl [(mm, .inr (8, mfs))] H := hP
  have hD : va_D A [(mm, .inr (8, mfs))] := hD
  refine lv_aload_n hx hb dL_law_561 rfl (lv_at hl 2 rfl) ?_
  refine lv_aload_n hx hb dL_law_562 rfl (lv_at hl 4 rfl) ?_
  refine lv_iload hx hb dL_law_563 (lv_at hl 0 rfl) ?_
  refine lv_iconst (v := 1) hx hb dL_law_565 (by decide) ?_
  refine lv_iadd hx hb dL_law_566 ?_
  refine tq_i (w := 1) (by decide) ?_
  refine va_sld (i := 1) hx hb hX hbl hbA hS (tq_in (by decide)) dL_law_567 ?_
  refine tq_i (w := w1) hw1 ?_
  refine lv_aload_n hx hb dL_law_568 rfl (lv_at hl 4 rfl) ?_
  refine lv_iload hx hb dL_law_569 (lv_at hl 0 rfl) ?_
  refine lv_iconst (v := 2) hx hb dL_law_571 (by decide) ?_
  refine lv_iadd hx hb dL_law_572 ?_
  refine tq_i (w := 2) (by decide) ?_
  refine va_sld (i := 2) hx hb hX hbl hbA hS (tq_in (by decide)) dL_law_573 ?_
  refine tq_i (w := w2) hw2 ?_
  refine tq_ci (wr := []) hP hD hS hA [0] [] rfl rfl (by decide) (by decide) (va_runV (As := [.int w1, .int w2]) (rest := [.int 0]) ⟨hx, hb, hml, hown, hT⟩ (c_X8_move l G cA H.size mm w1 w2 mfs (fh_sub hmf [0] rfl)) (cwV 2 hT (tq_gV kw_37_6 kw_37_7 kw_37_8 kw_1_5 kw_37_9) rfl rfl rfl (by decide +kernel) ⟨Nat.le_of_ble_eq_true rfl, Nat.le_of_ble_eq_true rfl⟩) ⟨(tq_pre (isC := [0]) hP hD hK hN rfl (by decide)).1, va_recv hK hP (ci := 8) (q0 := 0) rfl rfl, (tq_pre (isC := [0]) hP hD hK hN rfl (by decide)).2⟩ rfl rfl hl.1 rfl (lv_room (Nat.le_of_ble_eq_true rfl)) dL_law_574 ⟨Nat.le_of_ble_eq_true rfl, Nat.le_of_ble_eq_true rfl⟩) (fun r105 u106 H locs hw107 hP hD hS => ?_)
  refine W.widen (k := 160) (n := 7660) (Nat.le_of_ble_eq_true rfl) (Nat.le_of_ble_eq_true rfl) ?_
  have hr108 := hw107
  subst hr108
  have hP : va_P G vwCl [] H := hP
  have hD : va_D A [] := hD
  refine lv_icmp_eq (tgt := 1246) hx hb dL_law_577 (by decide) (fun c109 => ?_) (fun c109 => absurd (by decide) c109)
  refine lv_iinc (v := 6) (lv' := [(4, .int 6), (3, .ref oa), (2, .ref mm), (1, .ref h0), (0, .ref b)]) hx hb dL_law_1246 hl (k := 0) rfl (by decide) (by decide) rfl (fun ls hl => ?_)
  refine lv_goto (tgt := 23) hx hb dL_law_1249 (by decide) ?_
  refine lv_iload hx hb dL_law_23 (lv_at hl 0 rfl) ?_
  refine lv_aload_n hx hb dL_law_25 rfl (lv_at hl 4 rfl) ?_
  refine va_slen hx hb hX hbl hbA hS dL_law_26 ?_
  refine tq_i (w := 6) (by decide) ?_
  refine lv_bipush (v := 6) hx hb dL_law_27 (by decide) ?_
  refine lv_isub hx hb dL_law_29 ?_
  refine tq_i (w := 0) (by decide) ?_
  refine lv_icmp_gt (tgt := 1252) hx hb dL_law_30 (by decide) (fun c110 => ?_) (fun c110 => absurd (by decide) c110)
  refine lv_iconst (v := 1) hx hb dL_law_1252 (by decide) ?_
  refine va_forget (fun q hq => by have h9 := hS.2.2 q hq; rw [hAe] at h9; exact h9) ?_
  refine W.widen (k := 600002) (n := 7302232) (Nat.le_of_ble_eq_true rfl) (Nat.le_of_ble_eq_true rfl) ?_
  exact lw_ret hx hb hr hlocks dL_law_1253

set_option maxHeartbeats 4000000 in
set_option maxRecDepth 100000 in
theorem law_10 {p : Program} {e : Env} {s : State} {m : MethodId} {below : List Frame} {meth : Method} {c : Code} (l : Launch) (hst : l.stackTraces = false) {b : Nat} {xs : Nat → Int32} (C0 : lw_At p s m meth c b 6 xs) (G : va_G) (cA : Nat → ClassId) {A : Nat → Prop} (hAe : A = fun q : Nat => s.heap.size ≤ q) (hK : va_K G vwCl (tyL cA) s) (hN : tqN s) (sP : Nat) (hXx : tqX sP A s s.heap) (w0 : Int32) (w1 : Int32) (w2 : Int32) (w3 : Int32) (w4 : Int32) (w5 : Int32) (hw0 : xs 0 = w0) (hw1 : xs 1 = w1) (hw2 : xs 2 = w2) (hw3 : xs 3 = w3) (hw4 : xs 4 = w4) (hw5 : xs 5 = w5) (h0 : Nat) (mm : Nat) (oa : Nat) (fs : List Value) (pa : Nat) (ps : List Value) (mfs : List Value) {H : Heap} {locs : List Loc} {ls : Array Slot} (hf : fh fs 12 [(1, .ref pa)]) (hp : fh ps 19 [(0, .int 0)]) (hmf : fh mfs 91 [(12, .int 0)]) (hP : va_P G vwCl [(h0, .inr (7, fs)), (pa, .inr (2, ps)), (mm, .inr (8, mfs))] H) (hD : va_D A [(h0, .inr (7, fs)), (pa, .inr (2, ps)), (mm, .inr (8, mfs))]) (hS : va_S A s.heap H locs) (hl : lv_has ls 7 [(4, .int 0), (3, .ref oa), (2, .ref mm), (1, .ref h0), (0, .ref b)]) : W p l e room_1 s m #[Value.ref b] below meth c H locs 160 7660 (lw_Z below #[Value.ref b] s) (F0 m 582 ls []) := by
  obtain ⟨hx, hb, hr, hml, hown, hts, hX, hbl, hlocks, hgv⟩ := id C0
  have hT : ∀ v ∈ T0, v.before #[Value.ref b] s = true := fun v h => hts v (tq_law_in v h)
  have hown : s.vm.findClass RL = some m.cls := hown
  have hA : ∀ q : Nat, s.heap.size ≤ q → A q := fun q h => by rw [hAe]; exact h
  have hbA : ¬ A b := by rw [hAe]; exact Nat.not_le.mpr hbl
  have hO := hN.2.2.2.2
  refine lv_aload_n hx hb dL_law_582 rfl (lv_at hl 3 rfl) ?_
  refine lv_aload_n hx hb dL_law_583 rfl (lv_at hl 4 rfl) ?_
  refine lv_iload hx hb dL_law_584 (lv_at hl 0 rfl) ?_
  refine lv_iconst (v := 1) hx hb dL_law_586 (by decide) ?_
  refine lv_iadd hx hb dL_law_587 ?_
  refine tq_i (w := 1) (by decide) ?_
  refine va_sld (i := 1) hx hb hX hbl hbA hS (tq_in (by decide)) dL_law_588 ?_
  refine tq_i (w := w1) hw1 ?_
  refine tq_ci (wr := [(mm, .inr (8, mfs))]) hP hD hS hA [0, 1] [2] rfl rfl (by decide) (by decide) (va_runV (As := [.int w1]) (rest := []) ⟨hx, hb, hml, hown, hT⟩ (c_X7_turn l G cA H.size h0 w1 fs pa ps (fh_sub hf [0] rfl) (fh_sub hp [0] rfl)) (cwV 1 hT (tq_gV kw_38_6 kw_38_7 kw_38_8 kw_1_2 kw_38_9) rfl rfl rfl (by decide +kernel) ⟨Nat.le_of_ble_eq_true rfl, Nat.le_of_ble_eq_true rfl⟩) ⟨(tq_pre (isC := [0, 1]) hP hD hK hN rfl (by decide)).1, va_recv hK hP (ci := 7) (q0 := 0) rfl rfl, (tq_pre (isC := [0, 1]) hP hD hK hN rfl (by decide)).2⟩ rfl rfl hl.1 rfl (lv_room (Nat.le_of_ble_eq_true rfl)) dL_law_589 ⟨Nat.le_of_ble_eq_true rfl, Nat.le_of_ble_eq_true rfl⟩) (fun r101 u102 H locs hw103 hP hD hS => ?_)
  refine W.widen (k := 160) (n := 7660) (Nat.le_of_ble_eq_true rfl) (Nat.le_of_ble_eq_true rfl) ?_
  have hr104 := hw103
  subst hr104
  have hP : va_P G vwCl [(mm, .inr (8, mfs))] H := hP
  have hD : va_D A [(mm, .inr (8, mfs))] := hD
  refine lv_aload_n hx hb dL_law_592 rfl (lv_at hl 2 rfl) ?_
  refine lv_aload_n hx hb dL_law_593 rfl (lv_at hl 4 rfl) ?_
  refine lv_iload hx hb dL_law_594 (lv_at hl 0 rfl) ?_
  refine lv_iconst (v := 1) hx hb dL_law_596 (by decide) ?_
  refine lv_iadd hx hb dL_law_597 ?_
  refine tq_i (w := 1) (by decide) ?_
  refine va_sld (i := 1) hx hb hX hbl hbA hS (tq_in (by decide)) dL_law_598 ?_
  refine tq_i (w := w1) hw1 ?_
  refine tq_ci (wr := []) hP hD hS hA [0] [] rfl rfl (by decide) (by decide) (va_runV (As := [.int w1]) (rest := [.int (-1)]) ⟨hx, hb, hml, hown, hT⟩ (c_X8_turn l G cA H.size mm w1 mfs (fh_sub hmf [0] rfl)) (cwV 1 hT (tq_gV kw_39_5 kw_39_6 kw_39_7 kw_1_5 kw_39_8) rfl rfl rfl (by decide +kernel) ⟨Nat.le_of_ble_eq_true rfl, Nat.le_of_ble_eq_true rfl⟩) ⟨(tq_pre (isC := [0]) hP hD hK hN rfl (by decide)).1, va_recv hK hP (ci := 8) (q0 := 0) rfl rfl, (tq_pre (isC := [0]) hP hD hK hN rfl (by decide)).2⟩ rfl rfl hl.1 rfl (lv_room (Nat.le_of_ble_eq_true rfl)) dL_law_599 ⟨Nat.le_of_ble_eq_true rfl, Nat.le_of_ble_eq_true rfl⟩) (fun r105 u106 H locs hw107 hP hD hS => ?_)
  refine W.widen (k := 160) (n := 7660) (Nat.le_of_ble_eq_true rfl) (Nat.le_of_ble_eq_true rfl) ?_
  have hr108 := hw107
  subst hr108
  have hP : va_P G vwCl [] H := hP
  have hD : va_D A [] := hD
  refine lv_icmp_eq (tgt := 1246) hx hb dL_law_602 (by decide) (fun c109 => ?_) (fun c109 => absurd (by decide) c109)
  refine lv_iinc (v := 6) (lv' := [(4, .int 6), (3, .ref oa), (2, .ref mm), (1, .ref h0), (0, .ref b)]) hx hb dL_law_1246 hl (k := 0) rfl (by decide) (by decide) rfl (fun ls hl => ?_)
  refine lv_goto (tgt := 23) hx hb dL_law_1249 (by decide) ?_
  refine lv_iload hx hb dL_law_23 (lv_at hl 0 rfl) ?_
  refine lv_aload_n hx hb dL_law_25 rfl (lv_at hl 4 rfl) ?_
  refine va_slen hx hb hX hbl hbA hS dL_law_26 ?_
  refine tq_i (w := 6) (by decide) ?_
  refine lv_bipush (v := 6) hx hb dL_law_27 (by decide) ?_
  refine lv_isub hx hb dL_law_29 ?_
  refine tq_i (w := 0) (by decide) ?_
  refine lv_icmp_gt (tgt := 1252) hx hb dL_law_30 (by decide) (fun c110 => ?_) (fun c110 => absurd (by decide) c110)
  refine lv_iconst (v := 1) hx hb dL_law_1252 (by decide) ?_
  refine va_forget (fun q hq => by have h9 := hS.2.2 q hq; rw [hAe] at h9; exact h9) ?_
  refine W.widen (k := 600002) (n := 7302232) (Nat.le_of_ble_eq_true rfl) (Nat.le_of_ble_eq_true rfl) ?_
  exact lw_ret hx hb hr hlocks dL_law_1253

set_option maxHeartbeats 4000000 in
set_option maxRecDepth 100000 in
theorem law_11 {p : Program} {e : Env} {s : State} {m : MethodId} {below : List Frame} {meth : Method} {c : Code} (l : Launch) (hst : l.stackTraces = false) {b : Nat} {xs : Nat → Int32} (C0 : lw_At p s m meth c b 6 xs) (G : va_G) (cA : Nat → ClassId) {A : Nat → Prop} (hAe : A = fun q : Nat => s.heap.size ≤ q) (hK : va_K G vwCl (tyL cA) s) (hN : tqN s) (sP : Nat) (hXx : tqX sP A s s.heap) (w0 : Int32) (w1 : Int32) (w2 : Int32) (w3 : Int32) (w4 : Int32) (w5 : Int32) (hw0 : xs 0 = w0) (hw1 : xs 1 = w1) (hw2 : xs 2 = w2) (hw3 : xs 3 = w3) (hw4 : xs 4 = w4) (hw5 : xs 5 = w5) (h0 : Nat) (mm : Nat) (oa : Nat) (fs : List Value) (pa : Nat) (ps : List Value) (mfs : List Value) {H : Heap} {locs : List Loc} {ls : Array Slot} (hf : fh fs 12 [(1, .ref pa)]) (hp : fh ps 19 [(1, .int 0)]) (hmf : fh mfs 91 [(13, .int 0)]) (hP : va_P G vwCl [(h0, .inr (7, fs)), (pa, .inr (2, ps)), (mm, .inr (8, mfs))] H) (hD : va_D A [(h0, .inr (7, fs)), (pa, .inr (2, ps)), (mm, .inr (8, mfs))]) (hS : va_S A s.heap H locs) (hl : lv_has ls 7 [(4, .int 0), (3, .ref oa), (2, .ref mm), (1, .ref h0), (0, .ref b)]) : W p l e room_1 s m #[Value.ref b] below meth c H locs 160 7660 (lw_Z below #[Value.ref b] s) (F0 m 607 ls []) := by
  obtain ⟨hx, hb, hr, hml, hown, hts, hX, hbl, hlocks, hgv⟩ := id C0
  have hT : ∀ v ∈ T0, v.before #[Value.ref b] s = true := fun v h => hts v (tq_law_in v h)
  have hown : s.vm.findClass RL = some m.cls := hown
  have hA : ∀ q : Nat, s.heap.size ≤ q → A q := fun q h => by rw [hAe]; exact h
  have hbA : ¬ A b := by rw [hAe]; exact Nat.not_le.mpr hbl
  have hO := hN.2.2.2.2
  refine lv_aload_n hx hb dL_law_607 rfl (lv_at hl 3 rfl) ?_
  refine lv_aload_n hx hb dL_law_608 rfl (lv_at hl 4 rfl) ?_
  refine lv_iload hx hb dL_law_609 (lv_at hl 0 rfl) ?_
  refine lv_iconst (v := 1) hx hb dL_law_611 (by decide) ?_
  refine lv_iadd hx hb dL_law_612 ?_
  refine tq_i (w := 1) (by decide) ?_
  refine va_sld (i := 1) hx hb hX hbl hbA hS (tq_in (by decide)) dL_law_613 ?_
  refine tq_i (w := w1) hw1 ?_
  refine lv_aload_n hx hb dL_law_614 rfl (lv_at hl 4 rfl) ?_
  refine lv_iload hx hb dL_law_615 (lv_at hl 0 rfl) ?_
  refine lv_iconst (v := 2) hx hb dL_law_617 (by decide) ?_
  refine lv_iadd hx hb dL_law_618 ?_
  refine tq_i (w := 2) (by decide) ?_
  refine va_sld (i := 2) hx hb hX hbl hbA hS (tq_in (by decide)) dL_law_619 ?_
  refine tq_i (w := w2) hw2 ?_
  refine tq_ci (wr := [(mm, .inr (8, mfs))]) hP hD hS hA [0, 1] [2] rfl rfl (by decide) (by decide) (va_runV (As := [.int w1, .int w2]) (rest := []) ⟨hx, hb, hml, hown, hT⟩ (c_X7_help l G cA H.size h0 w1 w2 fs pa ps (fh_sub hf [0] rfl) (fh_sub hp [0] rfl)) (cwV 2 hT (tq_gV kw_39_21 kw_39_22 kw_39_23 kw_1_2 kw_40_0) rfl rfl rfl (by decide +kernel) ⟨Nat.le_of_ble_eq_true rfl, Nat.le_of_ble_eq_true rfl⟩) ⟨(tq_pre (isC := [0, 1]) hP hD hK hN rfl (by decide)).1, va_recv hK hP (ci := 7) (q0 := 0) rfl rfl, (tq_pre (isC := [0, 1]) hP hD hK hN rfl (by decide)).2⟩ rfl rfl hl.1 rfl (lv_room (Nat.le_of_ble_eq_true rfl)) dL_law_620 ⟨Nat.le_of_ble_eq_true rfl, Nat.le_of_ble_eq_true rfl⟩) (fun r101 u102 H locs hw103 hP hD hS => ?_)
  refine W.widen (k := 160) (n := 7660) (Nat.le_of_ble_eq_true rfl) (Nat.le_of_ble_eq_true rfl) ?_
  have hr104 := hw103
  subst hr104
  have hP : va_P G vwCl [(mm, .inr (8, mfs))] H := hP
  have hD : va_D A [(mm, .inr (8, mfs))] := hD
  refine lv_aload_n hx hb dL_law_623 rfl (lv_at hl 2 rfl) ?_
  refine lv_aload_n hx hb dL_law_624 rfl (lv_at hl 4 rfl) ?_
  refine lv_iload hx hb dL_law_625 (lv_at hl 0 rfl) ?_
  refine lv_iconst (v := 1) hx hb dL_law_627 (by decide) ?_
  refine lv_iadd hx hb dL_law_628 ?_
  refine tq_i (w := 1) (by decide) ?_
  refine va_sld (i := 1) hx hb hX hbl hbA hS (tq_in (by decide)) dL_law_629 ?_
  refine tq_i (w := w1) hw1 ?_
  refine lv_aload_n hx hb dL_law_630 rfl (lv_at hl 4 rfl) ?_
  refine lv_iload hx hb dL_law_631 (lv_at hl 0 rfl) ?_
  refine lv_iconst (v := 2) hx hb dL_law_633 (by decide) ?_
  refine lv_iadd hx hb dL_law_634 ?_
  refine tq_i (w := 2) (by decide) ?_
  refine va_sld (i := 2) hx hb hX hbl hbA hS (tq_in (by decide)) dL_law_635 ?_
  refine tq_i (w := w2) hw2 ?_
  refine tq_ci (wr := []) hP hD hS hA [0] [] rfl rfl (by decide) (by decide) (va_runV (As := [.int w1, .int w2]) (rest := [.int 0]) ⟨hx, hb, hml, hown, hT⟩ (c_X8_help l G cA H.size mm w1 w2 mfs (fh_sub hmf [0] rfl)) (cwV 2 hT (tq_gV kw_40_1 kw_40_2 kw_40_3 kw_1_5 kw_40_4) rfl rfl rfl (by decide +kernel) ⟨Nat.le_of_ble_eq_true rfl, Nat.le_of_ble_eq_true rfl⟩) ⟨(tq_pre (isC := [0]) hP hD hK hN rfl (by decide)).1, va_recv hK hP (ci := 8) (q0 := 0) rfl rfl, (tq_pre (isC := [0]) hP hD hK hN rfl (by decide)).2⟩ rfl rfl hl.1 rfl (lv_room (Nat.le_of_ble_eq_true rfl)) dL_law_636 ⟨Nat.le_of_ble_eq_true rfl, Nat.le_of_ble_eq_true rfl⟩) (fun r105 u106 H locs hw107 hP hD hS => ?_)
  refine W.widen (k := 160) (n := 7660) (Nat.le_of_ble_eq_true rfl) (Nat.le_of_ble_eq_true rfl) ?_
  have hr108 := hw107
  subst hr108
  have hP : va_P G vwCl [] H := hP
  have hD : va_D A [] := hD
  refine lv_icmp_eq (tgt := 1246) hx hb dL_law_639 (by decide) (fun c109 => ?_) (fun c109 => absurd (by decide) c109)
  refine lv_iinc (v := 6) (lv' := [(4, .int 6), (3, .ref oa), (2, .ref mm), (1, .ref h0), (0, .ref b)]) hx hb dL_law_1246 hl (k := 0) rfl (by decide) (by decide) rfl (fun ls hl => ?_)
  refine lv_goto (tgt := 23) hx hb dL_law_1249 (by decide) ?_
  refine lv_iload hx hb dL_law_23 (lv_at hl 0 rfl) ?_
  refine lv_aload_n hx hb dL_law_25 rfl (lv_at hl 4 rfl) ?_
  refine va_slen hx hb hX hbl hbA hS dL_law_26 ?_
  refine tq_i (w := 6) (by decide) ?_
  refine lv_bipush (v := 6) hx hb dL_law_27 (by decide) ?_
  refine lv_isub hx hb dL_law_29 ?_
  refine tq_i (w := 0) (by decide) ?_
  refine lv_icmp_gt (tgt := 1252) hx hb dL_law_30 (by decide) (fun c110 => ?_) (fun c110 => absurd (by decide) c110)
  refine lv_iconst (v := 1) hx hb dL_law_1252 (by decide) ?_
  refine va_forget (fun q hq => by have h9 := hS.2.2 q hq; rw [hAe] at h9; exact h9) ?_
  refine W.widen (k := 600002) (n := 7302232) (Nat.le_of_ble_eq_true rfl) (Nat.le_of_ble_eq_true rfl) ?_
  exact lw_ret hx hb hr hlocks dL_law_1253

set_option maxHeartbeats 4000000 in
set_option maxRecDepth 100000 in
theorem law_12 {p : Program} {e : Env} {s : State} {m : MethodId} {below : List Frame} {meth : Method} {c : Code} (l : Launch) (hst : l.stackTraces = false) {b : Nat} {xs : Nat → Int32} (C0 : lw_At p s m meth c b 6 xs) (G : va_G) (cA : Nat → ClassId) {A : Nat → Prop} (hAe : A = fun q : Nat => s.heap.size ≤ q) (hK : va_K G vwCl (tyL cA) s) (hN : tqN s) (sP : Nat) (hXx : tqX sP A s s.heap) (w0 : Int32) (w1 : Int32) (w2 : Int32) (w3 : Int32) (w4 : Int32) (w5 : Int32) (hw0 : xs 0 = w0) (hw1 : xs 1 = w1) (hw2 : xs 2 = w2) (hw3 : xs 3 = w3) (hw4 : xs 4 = w4) (hw5 : xs 5 = w5) (h0 : Nat) (mm : Nat) (oa : Nat) (fs : List Value) (pa : Nat) (t0 : Nat) (ch : Nat) (ps : List Value) (sa : Nat) (fsec : Nat → Int32) (ts0 : List Value) (cs : List Value) (mfs : List Value) (m22 : Nat) (m61 : Nat) (m71 : Nat) (mf22 : Nat → Int32) (mf61 : Nat → Int32) (mf71 : Nat → Int32) {H : Heap} {locs : List Loc} {ls : Array Slot} (hf : fh fs 12 [(1, .ref pa), (2, .ref t0), (7, .ref ch)]) (hp : fh ps 19 [(0, .int 0), (1, .int 0), (2, .int 0), (17, .ref sa)]) (hsec : ∀ j, j < 21 → fsec j = 60) (ht0 : fh ts0 20 [(0, .int 0), (19, .ref pa)]) (hch : fh cs 3 []) (hmf : fh mfs 91 [(22, .ref m22), (61, .ref m61), (71, .ref m71), (12, .int 0), (13, .int 0), (14, .int 0), (82, .int 0)]) (he61_0 : mf61 0 = 0) (hP : va_P G vwCl [(h0, .inr (7, fs)), (pa, .inr (2, ps)), (sa, .inl (cA 0, 21, .inl fsec)), (t0, .inr (6, ts0)), (ch, .inr (0, cs)), (mm, .inr (8, mfs)), (m22, .inl (cA 0, 6, .inl mf22)), (m61, .inl (cA 0, 2, .inl mf61)), (m71, .inl (cA 0, 10, .inl mf71))] H) (hD : va_D A [(h0, .inr (7, fs)), (pa, .inr (2, ps)), (sa, .inl (cA 0, 21, .inl fsec)), (t0, .inr (6, ts0)), (ch, .inr (0, cs)), (mm, .inr (8, mfs)), (m22, .inl (cA 0, 6, .inl mf22)), (m61, .inl (cA 0, 2, .inl mf61)), (m71, .inl (cA 0, 10, .inl mf71))]) (hS : va_S A s.heap H locs) (hl : lv_has ls 7 [(4, .int 0), (3, .ref oa), (2, .ref mm), (1, .ref h0), (0, .ref b)]) : W p l e room_1 s m #[Value.ref b] below meth c H locs 160 7660 (lw_Z below #[Value.ref b] s) (F0 m 644 ls []) := by
  obtain ⟨hx, hb, hr, hml, hown, hts, hX, hbl, hlocks, hgv⟩ := id C0
  have hT : ∀ v ∈ T0, v.before #[Value.ref b] s = true := fun v h => hts v (tq_law_in v h)
  have hown : s.vm.findClass RL = some m.cls := hown
  have hA : ∀ q : Nat, s.heap.size ≤ q → A q := fun q h => by rw [hAe]; exact h
  have hbA : ¬ A b := by rw [hAe]; exact Nat.not_le.mpr hbl
  have hO := hN.2.2.2.2
  refine lv_aload_n hx hb dL_law_644 rfl (lv_at hl 3 rfl) ?_
  refine lv_aload_n hx hb dL_law_645 rfl (lv_at hl 4 rfl) ?_
  refine lv_iload hx hb dL_law_646 (lv_at hl 0 rfl) ?_
  refine lv_iconst (v := 1) hx hb dL_law_648 (by decide) ?_
  refine lv_iadd hx hb dL_law_649 ?_
  refine tq_i (w := 1) (by decide) ?_
  refine va_sld (i := 1) hx hb hX hbl hbA hS (tq_in (by decide)) dL_law_650 ?_
  refine tq_i (w := w1) hw1 ?_
  refine tq_ci (wr := [(mm, .inr (8, mfs)), (m22, .inl (cA 0, 6, .inl mf22)), (m61, .inl (cA 0, 2, .inl mf61)), (m71, .inl (cA 0, 10, .inl mf71))]) hP hD hS hA [0, 1, 2, 3, 4] [5, 6, 7, 8] rfl rfl (by decide) (by decide) (va_runV (As := [.int w1]) (rest := []) ⟨hx, hb, hml, hown, hT⟩ (c_X7_go l G cA H.size h0 w1 fs pa t0 ch ps sa fsec ts0 cs (fh_sub hf [0, 1, 2] rfl) (fh_sub hp [0, 1, 2, 3] rfl) hsec (fh_sub ht0 [0, 1] rfl) (fh_sub hch [] rfl)) (cwV 1 hT (tq_gV kw_40_5 kw_40_6 kw_40_7 kw_1_2 kw_40_8) rfl rfl rfl (by decide +kernel) ⟨Nat.le_of_ble_eq_true rfl, Nat.le_of_ble_eq_true rfl⟩) ⟨(tq_pre (isC := [0, 1, 2, 3, 4]) hP hD hK hN rfl (by decide)).1, va_recv hK hP (ci := 7) (q0 := 0) rfl rfl, (tq_pre (isC := [0, 1, 2, 3, 4]) hP hD hK hN rfl (by decide)).2⟩ rfl rfl hl.1 rfl (lv_room (Nat.le_of_ble_eq_true rfl)) dL_law_651 ⟨Nat.le_of_ble_eq_true rfl, Nat.le_of_ble_eq_true rfl⟩) (fun r101 u102 H locs hw103 hP hD hS => ?_)
  refine W.widen (k := 160) (n := 7660) (Nat.le_of_ble_eq_true rfl) (Nat.le_of_ble_eq_true rfl) ?_
  have hr104 := hw103
  subst hr104
  have hP : va_P G vwCl [(mm, .inr (8, mfs)), (m22, .inl (cA 0, 6, .inl mf22)), (m61, .inl (cA 0, 2, .inl mf61)), (m71, .inl (cA 0, 10, .inl mf71))] H := hP
  have hD : va_D A [(mm, .inr (8, mfs)), (m22, .inl (cA 0, 6, .inl mf22)), (m61, .inl (cA 0, 2, .inl mf61)), (m71, .inl (cA 0, 10, .inl mf71))] := hD
  refine lv_aload_n hx hb dL_law_654 rfl (lv_at hl 2 rfl) ?_
  refine lv_aload_n hx hb dL_law_655 rfl (lv_at hl 4 rfl) ?_
  refine lv_iload hx hb dL_law_656 (lv_at hl 0 rfl) ?_
  refine lv_iconst (v := 1) hx hb dL_law_658 (by decide) ?_
  refine lv_iadd hx hb dL_law_659 ?_
  refine tq_i (w := 1) (by decide) ?_
  refine va_sld (i := 1) hx hb hX hbl hbA hS (tq_in (by decide)) dL_law_660 ?_
  refine tq_i (w := w1) hw1 ?_
  refine tq_ci (wr := []) hP hD hS hA [0, 1, 2, 3] [] rfl rfl (by decide) (by decide) (va_runV (As := [.int w1]) (rest := [.int ((sp_go w1))]) ⟨hx, hb, hml, hown, hT⟩ (c_X8_go l G cA H.size mm w1 mfs m22 m61 m71 mf22 mf61 mf71 (fh_sub hmf [0, 1, 2, 3, 4, 5, 6] rfl) he61_0) (cwV 1 hT (tq_gV kw_43_14 kw_43_15 kw_43_16 kw_1_5 kw_43_17) rfl rfl rfl (by decide +kernel) ⟨Nat.le_of_ble_eq_true rfl, Nat.le_of_ble_eq_true rfl⟩) ⟨(tq_pre (isC := [0, 1, 2, 3]) hP hD hK hN rfl (by decide)).1, va_recv hK hP (ci := 8) (q0 := 0) rfl rfl, (tq_pre (isC := [0, 1, 2, 3]) hP hD hK hN rfl (by decide)).2⟩ rfl rfl hl.1 rfl (lv_room (Nat.le_of_ble_eq_true rfl)) dL_law_661 ⟨Nat.le_of_ble_eq_true rfl, Nat.le_of_ble_eq_true rfl⟩) (fun r105 u106 H locs hw107 hP hD hS => ?_)
  refine W.widen (k := 160) (n := 7660) (Nat.le_of_ble_eq_true rfl) (Nat.le_of_ble_eq_true rfl) ?_
  have hr108 := hw107
  subst hr108
  have hP : va_P G vwCl [] H := hP
  have hD : va_D A [] := hD
  refine lv_icmp_eq (tgt := 1246) hx hb dL_law_664 (by decide) (fun c109 => ?_) (fun c109 => absurd rfl c109)
  refine lv_iinc (v := 6) (lv' := [(4, .int 6), (3, .ref oa), (2, .ref mm), (1, .ref h0), (0, .ref b)]) hx hb dL_law_1246 hl (k := 0) rfl (by decide) (by decide) rfl (fun ls hl => ?_)
  refine lv_goto (tgt := 23) hx hb dL_law_1249 (by decide) ?_
  refine lv_iload hx hb dL_law_23 (lv_at hl 0 rfl) ?_
  refine lv_aload_n hx hb dL_law_25 rfl (lv_at hl 4 rfl) ?_
  refine va_slen hx hb hX hbl hbA hS dL_law_26 ?_
  refine tq_i (w := 6) (by decide) ?_
  refine lv_bipush (v := 6) hx hb dL_law_27 (by decide) ?_
  refine lv_isub hx hb dL_law_29 ?_
  refine tq_i (w := 0) (by decide) ?_
  refine lv_icmp_gt (tgt := 1252) hx hb dL_law_30 (by decide) (fun c110 => ?_) (fun c110 => absurd (by decide) c110)
  refine lv_iconst (v := 1) hx hb dL_law_1252 (by decide) ?_
  refine va_forget (fun q hq => by have h9 := hS.2.2 q hq; rw [hAe] at h9; exact h9) ?_
  refine W.widen (k := 600002) (n := 7302232) (Nat.le_of_ble_eq_true rfl) (Nat.le_of_ble_eq_true rfl) ?_
  exact lw_ret hx hb hr hlocks dL_law_1253

set_option maxHeartbeats 4000000 in
set_option maxRecDepth 100000 in
theorem law_13 {p : Program} {e : Env} {s : State} {m : MethodId} {below : List Frame} {meth : Method} {c : Code} (l : Launch) (hst : l.stackTraces = false) {b : Nat} {xs : Nat → Int32} (C0 : lw_At p s m meth c b 6 xs) (G : va_G) (cA : Nat → ClassId) {A : Nat → Prop} (hAe : A = fun q : Nat => s.heap.size ≤ q) (hK : va_K G vwCl (tyL cA) s) (hN : tqN s) (sP : Nat) (hXx : tqX sP A s s.heap) (w0 : Int32) (w1 : Int32) (w2 : Int32) (w3 : Int32) (w4 : Int32) (w5 : Int32) (hw0 : xs 0 = w0) (hw1 : xs 1 = w1) (hw2 : xs 2 = w2) (hw3 : xs 3 = w3) (hw4 : xs 4 = w4) (hw5 : xs 5 = w5) (h0 : Nat) (mm : Nat) (oa : Nat) (fs : List Value) (pa : Nat) (t0 : Nat) (t2 : Nat) (t3 : Nat) (ps : List Value) (sa : Nat) (fsec : Nat → Int32) (ts0 : List Value) (a8 : Nat) (a9 : Nat) (a10 : Nat) (a11 : Nat) (a12 : Nat) (a13 : Nat) (a14 : Nat) (a15 : Nat) (a16 : Nat) (a17 : Nat) (af8 : Nat → Int32) (af9 : Nat → Int32) (af10 : Nat → Int32) (af11 : Nat → Int32) (af12 : Nat → Int32) (af13 : Nat → Int32) (af14 : Nat → Int32) (af15 : Nat → Int32) (af16 : Nat → Int32) (af17 : Nat → Int32) (ts2 : List Value) (c8 : Nat) (c9 : Nat) (c10 : Nat) (c11 : Nat) (c12 : Nat) (c13 : Nat) (c14 : Nat) (c15 : Nat) (c16 : Nat) (c17 : Nat) (cf8 : Nat → Int32) (cf9 : Nat → Int32) (cf10 : Nat → Int32) (cf11 : Nat → Int32) (cf12 : Nat → Int32) (cf13 : Nat → Int32) (cf14 : Nat → Int32) (cf15 : Nat → Int32) (cf16 : Nat → Int32) (cf17 : Nat → Int32) (ts3 : List Value) (d8 : Nat) (d9 : Nat) (d10 : Nat) (d11 : Nat) (d12 : Nat) (d13 : Nat) (d14 : Nat) (d15 : Nat) (d16 : Nat) (d17 : Nat) (df8 : Nat → Int32) (df9 : Nat → Int32) (df10 : Nat → Int32) (df11 : Nat → Int32) (df12 : Nat → Int32) (df13 : Nat → Int32) (df14 : Nat → Int32) (df15 : Nat → Int32) (df16 : Nat → Int32) (df17 : Nat → Int32) (mfs : List Value) (m52 : Nat) (m53 : Nat) (m54 : Nat) (m55 : Nat) (m56 : Nat) (m57 : Nat) (m58 : Nat) (m59 : Nat) (m22 : Nat) (m60 : Nat) (m61 : Nat) (m62 : Nat) (m71 : Nat) (m74 : Nat) (m75 : Nat) (mf52 : Nat → Int32) (mf53 : Nat → Int32) (mf54 : Nat → Int32) (mf55 : Nat → Int32) (mf56 : Nat → Int32) (mf57 : Nat → Int32) (mf58 : Nat → Int32) (mf59 : Nat → Int32) (mf22 : Nat → Int32) (mf60 : Nat → Int32) (mf61 : Nat → Int32) (mf62 : Nat → Int32) (mf71 : Nat → Int32) (mf74 : Nat → Int32) (mf75 : Nat → Int32) {H : Heap} {locs : List Loc} {ls : Array Slot} (hf : fh fs 12 [(1, .ref pa), (2, .ref t0), (5, .ref t2), (6, .ref t3)]) (hp : fh ps 19 [(0, .int 0), (1, .int 0), (2, .int 0), (17, .ref sa)]) (hsec : ∀ j, j < 21 → fsec j = 60) (ht0 : fh ts0 20 [(0, .int 0), (1, .int 0), (2, .int 0), (3, .int 0), (4, .int 0), (19, .ref pa), (8, .ref a8), (9, .ref a9), (10, .ref a10), (11, .ref a11), (12, .ref a12), (13, .ref a13), (14, .ref a14), (15, .ref a15), (16, .ref a16), (17, .ref a17)]) (ht2 : fh ts2 20 [(8, .ref c8), (9, .ref c9), (10, .ref c10), (11, .ref c11), (12, .ref c12), (13, .ref c13), (14, .ref c14), (15, .ref c15), (16, .ref c16), (17, .ref c17)]) (ht3 : fh ts3 20 [(8, .ref d8), (9, .ref d9), (10, .ref d10), (11, .ref d11), (12, .ref d12), (13, .ref d13), (14, .ref d14), (15, .ref d15), (16, .ref d16), (17, .ref d17)]) (hmf : fh mfs 91 [(52, .ref m52), (53, .ref m53), (54, .ref m54), (55, .ref m55), (56, .ref m56), (57, .ref m57), (58, .ref m58), (59, .ref m59), (22, .ref m22), (60, .ref m60), (61, .ref m61), (62, .ref m62), (71, .ref m71), (74, .ref m74), (75, .ref m75), (12, .int 0), (13, .int 0), (14, .int 0)]) (he60_0 : mf60 0 = 0) (he61_0 : mf61 0 = 0) (hP : va_P G vwCl [(h0, .inr (7, fs)), (pa, .inr (2, ps)), (sa, .inl (cA 0, 21, .inl fsec)), (t0, .inr (6, ts0)), (a8, .inl (cA 0, 6, .inl af8)), (a9, .inl (cA 0, 6, .inl af9)), (a10, .inl (cA 0, 6, .inl af10)), (a11, .inl (cA 0, 6, .inl af11)), (a12, .inl (cA 0, 10, .inl af12)), (a13, .inl (cA 0, 10, .inl af13)), (a14, .inl (cA 0, 10, .inl af14)), (a15, .inl (cA 0, 50, .inl af15)), (a16, .inl (cA 0, 5, .inl af16)), (a17, .inl (cA 0, 5, .inl af17)), (t2, .inr (6, ts2)), (c8, .inl (cA 0, 6, .inl cf8)), (c9, .inl (cA 0, 6, .inl cf9)), (c10, .inl (cA 0, 6, .inl cf10)), (c11, .inl (cA 0, 6, .inl cf11)), (c12, .inl (cA 0, 10, .inl cf12)), (c13, .inl (cA 0, 10, .inl cf13)), (c14, .inl (cA 0, 10, .inl cf14)), (c15, .inl (cA 0, 50, .inl cf15)), (c16, .inl (cA 0, 5, .inl cf16)), (c17, .inl (cA 0, 5, .inl cf17)), (t3, .inr (6, ts3)), (d8, .inl (cA 0, 6, .inl df8)), (d9, .inl (cA 0, 6, .inl df9)), (d10, .inl (cA 0, 6, .inl df10)), (d11, .inl (cA 0, 6, .inl df11)), (d12, .inl (cA 0, 10, .inl df12)), (d13, .inl (cA 0, 10, .inl df13)), (d14, .inl (cA 0, 10, .inl df14)), (d15, .inl (cA 0, 50, .inl df15)), (d16, .inl (cA 0, 5, .inl df16)), (d17, .inl (cA 0, 5, .inl df17)), (mm, .inr (8, mfs)), (m52, .inl (cA 0, 20, .inl mf52)), (m53, .inl (cA 0, 20, .inl mf53)), (m54, .inl (cA 0, 100, .inl mf54)), (m55, .inl (cA 0, 10, .inl mf55)), (m56, .inl (cA 0, 12, .inl mf56)), (m57, .inl (cA 0, 12, .inl mf57)), (m58, .inl (cA 0, 12, .inl mf58)), (m59, .inl (cA 0, 12, .inl mf59)), (m22, .inl (cA 0, 6, .inl mf22)), (m60, .inl (cA 0, 2, .inl mf60)), (m61, .inl (cA 0, 2, .inl mf61)), (m62, .inl (cA 0, 2, .inl mf62)), (m71, .inl (cA 0, 10, .inl mf71)), (m74, .inl (cA 0, 4, .inl mf74)), (m75, .inl (cA 0, 4, .inl mf75))] H) (hD : va_D A [(h0, .inr (7, fs)), (pa, .inr (2, ps)), (sa, .inl (cA 0, 21, .inl fsec)), (t0, .inr (6, ts0)), (a8, .inl (cA 0, 6, .inl af8)), (a9, .inl (cA 0, 6, .inl af9)), (a10, .inl (cA 0, 6, .inl af10)), (a11, .inl (cA 0, 6, .inl af11)), (a12, .inl (cA 0, 10, .inl af12)), (a13, .inl (cA 0, 10, .inl af13)), (a14, .inl (cA 0, 10, .inl af14)), (a15, .inl (cA 0, 50, .inl af15)), (a16, .inl (cA 0, 5, .inl af16)), (a17, .inl (cA 0, 5, .inl af17)), (t2, .inr (6, ts2)), (c8, .inl (cA 0, 6, .inl cf8)), (c9, .inl (cA 0, 6, .inl cf9)), (c10, .inl (cA 0, 6, .inl cf10)), (c11, .inl (cA 0, 6, .inl cf11)), (c12, .inl (cA 0, 10, .inl cf12)), (c13, .inl (cA 0, 10, .inl cf13)), (c14, .inl (cA 0, 10, .inl cf14)), (c15, .inl (cA 0, 50, .inl cf15)), (c16, .inl (cA 0, 5, .inl cf16)), (c17, .inl (cA 0, 5, .inl cf17)), (t3, .inr (6, ts3)), (d8, .inl (cA 0, 6, .inl df8)), (d9, .inl (cA 0, 6, .inl df9)), (d10, .inl (cA 0, 6, .inl df10)), (d11, .inl (cA 0, 6, .inl df11)), (d12, .inl (cA 0, 10, .inl df12)), (d13, .inl (cA 0, 10, .inl df13)), (d14, .inl (cA 0, 10, .inl df14)), (d15, .inl (cA 0, 50, .inl df15)), (d16, .inl (cA 0, 5, .inl df16)), (d17, .inl (cA 0, 5, .inl df17)), (mm, .inr (8, mfs)), (m52, .inl (cA 0, 20, .inl mf52)), (m53, .inl (cA 0, 20, .inl mf53)), (m54, .inl (cA 0, 100, .inl mf54)), (m55, .inl (cA 0, 10, .inl mf55)), (m56, .inl (cA 0, 12, .inl mf56)), (m57, .inl (cA 0, 12, .inl mf57)), (m58, .inl (cA 0, 12, .inl mf58)), (m59, .inl (cA 0, 12, .inl mf59)), (m22, .inl (cA 0, 6, .inl mf22)), (m60, .inl (cA 0, 2, .inl mf60)), (m61, .inl (cA 0, 2, .inl mf61)), (m62, .inl (cA 0, 2, .inl mf62)), (m71, .inl (cA 0, 10, .inl mf71)), (m74, .inl (cA 0, 4, .inl mf74)), (m75, .inl (cA 0, 4, .inl mf75))]) (hS : va_S A s.heap H locs) (hl : lv_has ls 7 [(4, .int 0), (3, .ref oa), (2, .ref mm), (1, .ref h0), (0, .ref b)]) : W p l e room_1 s m #[Value.ref b] below meth c H locs 160 7660 (lw_Z below #[Value.ref b] s) (F0 m 669 ls []) := by
  obtain ⟨hx, hb, hr, hml, hown, hts, hX, hbl, hlocks, hgv⟩ := id C0
  have hT : ∀ v ∈ T0, v.before #[Value.ref b] s = true := fun v h => hts v (tq_law_in v h)
  have hown : s.vm.findClass RL = some m.cls := hown
  have hA : ∀ q : Nat, s.heap.size ≤ q → A q := fun q h => by rw [hAe]; exact h
  have hbA : ¬ A b := by rw [hAe]; exact Nat.not_le.mpr hbl
  have hO := hN.2.2.2.2
  refine lv_aload_n hx hb dL_law_669 rfl (lv_at hl 3 rfl) ?_
  refine lv_aload_n hx hb dL_law_670 rfl (lv_at hl 4 rfl) ?_
  refine lv_iload hx hb dL_law_671 (lv_at hl 0 rfl) ?_
  refine lv_iconst (v := 1) hx hb dL_law_673 (by decide) ?_
  refine lv_iadd hx hb dL_law_674 ?_
  refine tq_i (w := 1) (by decide) ?_
  refine va_sld (i := 1) hx hb hX hbl hbA hS (tq_in (by decide)) dL_law_675 ?_
  refine tq_i (w := w1) hw1 ?_
  refine tq_ci (wr := [(mm, .inr (8, mfs)), (m52, .inl (cA 0, 20, .inl mf52)), (m53, .inl (cA 0, 20, .inl mf53)), (m54, .inl (cA 0, 100, .inl mf54)), (m55, .inl (cA 0, 10, .inl mf55)), (m56, .inl (cA 0, 12, .inl mf56)), (m57, .inl (cA 0, 12, .inl mf57)), (m58, .inl (cA 0, 12, .inl mf58)), (m59, .inl (cA 0, 12, .inl mf59)), (m22, .inl (cA 0, 6, .inl mf22)), (m60, .inl (cA 0, 2, .inl mf60)), (m61, .inl (cA 0, 2, .inl mf61)), (m62, .inl (cA 0, 2, .inl mf62)), (m71, .inl (cA 0, 10, .inl mf71)), (m74, .inl (cA 0, 4, .inl mf74)), (m75, .inl (cA 0, 4, .inl mf75))]) hP hD hS hA [0, 1, 2, 3, 4, 5, 6, 7, 8, 9, 10, 11, 12, 13, 14, 15, 16, 17, 18, 19, 20, 21, 22, 23, 24, 25, 26, 27, 28, 29, 30, 31, 32, 33, 34, 35] [36, 37, 38, 39, 40, 41, 42, 43, 44, 45, 46, 47, 48, 49, 50, 51] rfl rfl (by decide) (by decide) (va_runV (As := [.int w1]) (rest := []) ⟨hx, hb, hml, hown, hT⟩ (c_X7_least l G cA H.size h0 w1 fs pa t0 t2 t3 ps sa fsec ts0 a8 a9 a10 a11 a12 a13 a14 a15 a16 a17 af8 af9 af10 af11 af12 af13 af14 af15 af16 af17 ts2 c8 c9 c10 c11 c12 c13 c14 c15 c16 c17 cf8 cf9 cf10 cf11 cf12 cf13 cf14 cf15 cf16 cf17 ts3 d8 d9 d10 d11 d12 d13 d14 d15 d16 d17 df8 df9 df10 df11 df12 df13 df14 df15 df16 df17 (fh_sub hf [0, 1, 2, 3] rfl) (fh_sub hp [0, 1, 2, 3] rfl) hsec (fh_sub ht0 [0, 1, 2, 3, 4, 5, 6, 7, 8, 9, 10, 11, 12, 13, 14, 15] rfl) (fh_sub ht2 [0, 1, 2, 3, 4, 5, 6, 7, 8, 9] rfl) (fh_sub ht3 [0, 1, 2, 3, 4, 5, 6, 7, 8, 9] rfl)) (cwV 1 hT (tq_gV kw_46_3 kw_46_4 kw_46_5 kw_1_2 kw_46_6) rfl rfl rfl (by decide +kernel) ⟨Nat.le_of_ble_eq_true rfl, Nat.le_of_ble_eq_true rfl⟩) ⟨(tq_pre (isC := [0, 1, 2, 3, 4, 5, 6, 7, 8, 9, 10, 11, 12, 13, 14, 15, 16, 17, 18, 19, 20, 21, 22, 23, 24, 25, 26, 27, 28, 29, 30, 31, 32, 33, 34, 35]) hP hD hK hN rfl (by decide)).1, va_recv hK hP (ci := 7) (q0 := 0) rfl rfl, (tq_pre (isC := [0, 1, 2, 3, 4, 5, 6, 7, 8, 9, 10, 11, 12, 13, 14, 15, 16, 17, 18, 19, 20, 21, 22, 23, 24, 25, 26, 27, 28, 29, 30, 31, 32, 33, 34, 35]) hP hD hK hN rfl (by decide)).2⟩ rfl rfl hl.1 rfl (lv_room (Nat.le_of_ble_eq_true rfl)) dL_law_676 ⟨Nat.le_of_ble_eq_true rfl, Nat.le_of_ble_eq_true rfl⟩) (fun r101 u102 H locs hw103 hP hD hS => ?_)
  refine W.widen (k := 160) (n := 7660) (Nat.le_of_ble_eq_true rfl) (Nat.le_of_ble_eq_true rfl) ?_
  have hr104 := hw103
  subst hr104
  have hP : va_P G vwCl [(mm, .inr (8, mfs)), (m52, .inl (cA 0, 20, .inl mf52)), (m53, .inl (cA 0, 20, .inl mf53)), (m54, .inl (cA 0, 100, .inl mf54)), (m55, .inl (cA 0, 10, .inl mf55)), (m56, .inl (cA 0, 12, .inl mf56)), (m57, .inl (cA 0, 12, .inl mf57)), (m58, .inl (cA 0, 12, .inl mf58)), (m59, .inl (cA 0, 12, .inl mf59)), (m22, .inl (cA 0, 6, .inl mf22)), (m60, .inl (cA 0, 2, .inl mf60)), (m61, .inl (cA 0, 2, .inl mf61)), (m62, .inl (cA 0, 2, .inl mf62)), (m71, .inl (cA 0, 10, .inl mf71)), (m74, .inl (cA 0, 4, .inl mf74)), (m75, .inl (cA 0, 4, .inl mf75))] H := hP
  have hD : va_D A [(mm, .inr (8, mfs)), (m52, .inl (cA 0, 20, .inl mf52)), (m53, .inl (cA 0, 20, .inl mf53)), (m54, .inl (cA 0, 100, .inl mf54)), (m55, .inl (cA 0, 10, .inl mf55)), (m56, .inl (cA 0, 12, .inl mf56)), (m57, .inl (cA 0, 12, .inl mf57)), (m58, .inl (cA 0, 12, .inl mf58)), (m59, .inl (cA 0, 12, .inl mf59)), (m22, .inl (cA 0, 6, .inl mf22)), (m60, .inl (cA 0, 2, .inl mf60)), (m61, .inl (cA 0, 2, .inl mf61)), (m62, .inl (cA 0, 2, .inl mf62)), (m71, .inl (cA 0, 10, .inl mf71)), (m74, .inl (cA 0, 4, .inl mf74)), (m75, .inl (cA 0, 4, .inl mf75))] := hD
  refine lv_aload_n hx hb dL_law_679 rfl (lv_at hl 2 rfl) ?_
  refine lv_aload_n hx hb dL_law_680 rfl (lv_at hl 4 rfl) ?_
  refine lv_iload hx hb dL_law_681 (lv_at hl 0 rfl) ?_
  refine lv_iconst (v := 1) hx hb dL_law_683 (by decide) ?_
  refine lv_iadd hx hb dL_law_684 ?_
  refine tq_i (w := 1) (by decide) ?_
  refine va_sld (i := 1) hx hb hX hbl hbA hS (tq_in (by decide)) dL_law_685 ?_
  refine tq_i (w := w1) hw1 ?_
  refine tq_ci (wr := []) hP hD hS hA [0, 1, 2, 3, 4, 5, 6, 7, 8, 9, 10, 11, 12, 13, 14, 15] [] rfl rfl (by decide) (by decide) (va_runV (As := [.int w1]) (rest := [.int ((sp_least w1))]) ⟨hx, hb, hml, hown, hT⟩ (c_X8_least l G cA H.size mm w1 mfs m52 m53 m54 m55 m56 m57 m58 m59 m22 m60 m61 m62 m71 m74 m75 mf52 mf53 mf54 mf55 mf56 mf57 mf58 mf59 mf22 mf60 mf61 mf62 mf71 mf74 mf75 (fh_sub hmf [0, 1, 2, 3, 4, 5, 6, 7, 8, 9, 10, 11, 12, 13, 14, 15, 16, 17] rfl) he60_0 he61_0) (cwV 1 hT (tq_gV kw_47_22 kw_47_23 kw_48_0 kw_1_5 kw_48_1) rfl rfl rfl (by decide +kernel) ⟨Nat.le_of_ble_eq_true rfl, Nat.le_of_ble_eq_true rfl⟩) ⟨(tq_pre (isC := [0, 1, 2, 3, 4, 5, 6, 7, 8, 9, 10, 11, 12, 13, 14, 15]) hP hD hK hN rfl (by decide)).1, va_recv hK hP (ci := 8) (q0 := 0) rfl rfl, (tq_pre (isC := [0, 1, 2, 3, 4, 5, 6, 7, 8, 9, 10, 11, 12, 13, 14, 15]) hP hD hK hN rfl (by decide)).2⟩ rfl rfl hl.1 rfl (lv_room (Nat.le_of_ble_eq_true rfl)) dL_law_686 ⟨Nat.le_of_ble_eq_true rfl, Nat.le_of_ble_eq_true rfl⟩) (fun r105 u106 H locs hw107 hP hD hS => ?_)
  refine W.widen (k := 160) (n := 7660) (Nat.le_of_ble_eq_true rfl) (Nat.le_of_ble_eq_true rfl) ?_
  have hr108 := hw107
  subst hr108
  have hP : va_P G vwCl [] H := hP
  have hD : va_D A [] := hD
  refine lv_icmp_eq (tgt := 1246) hx hb dL_law_689 (by decide) (fun c109 => ?_) (fun c109 => absurd rfl c109)
  refine lv_iinc (v := 6) (lv' := [(4, .int 6), (3, .ref oa), (2, .ref mm), (1, .ref h0), (0, .ref b)]) hx hb dL_law_1246 hl (k := 0) rfl (by decide) (by decide) rfl (fun ls hl => ?_)
  refine lv_goto (tgt := 23) hx hb dL_law_1249 (by decide) ?_
  refine lv_iload hx hb dL_law_23 (lv_at hl 0 rfl) ?_
  refine lv_aload_n hx hb dL_law_25 rfl (lv_at hl 4 rfl) ?_
  refine va_slen hx hb hX hbl hbA hS dL_law_26 ?_
  refine tq_i (w := 6) (by decide) ?_
  refine lv_bipush (v := 6) hx hb dL_law_27 (by decide) ?_
  refine lv_isub hx hb dL_law_29 ?_
  refine tq_i (w := 0) (by decide) ?_
  refine lv_icmp_gt (tgt := 1252) hx hb dL_law_30 (by decide) (fun c110 => ?_) (fun c110 => absurd (by decide) c110)
  refine lv_iconst (v := 1) hx hb dL_law_1252 (by decide) ?_
  refine va_forget (fun q hq => by have h9 := hS.2.2 q hq; rw [hAe] at h9; exact h9) ?_
  refine W.widen (k := 600002) (n := 7302232) (Nat.le_of_ble_eq_true rfl) (Nat.le_of_ble_eq_true rfl) ?_
  exact lw_ret hx hb hr hlocks dL_law_1253

set_option maxHeartbeats 4000000 in
set_option maxRecDepth 100000 in
theorem law_14 {p : Program} {e : Env} {s : State} {m : MethodId} {below : List Frame} {meth : Method} {c : Code} (l : Launch) (hst : l.stackTraces = false) {b : Nat} {xs : Nat → Int32} (C0 : lw_At p s m meth c b 6 xs) (G : va_G) (cA : Nat → ClassId) {A : Nat → Prop} (hAe : A = fun q : Nat => s.heap.size ≤ q) (hK : va_K G vwCl (tyL cA) s) (hN : tqN s) (sP : Nat) (hXx : tqX sP A s s.heap) (w0 : Int32) (w1 : Int32) (w2 : Int32) (w3 : Int32) (w4 : Int32) (w5 : Int32) (hw0 : xs 0 = w0) (hw1 : xs 1 = w1) (hw2 : xs 2 = w2) (hw3 : xs 3 = w3) (hw4 : xs 4 = w4) (hw5 : xs 5 = w5) (h0 : Nat) (mm : Nat) (oa : Nat) (fs : List Value) (pa : Nat) (ps : List Value) (mfs : List Value) {H : Heap} {locs : List Loc} {ls : Array Slot} (hf : fh fs 12 [(1, .ref pa)]) (hp : fh ps 19 [(2, .int 0)]) (hmf : fh mfs 91 [(14, .int 0)]) (hP : va_P G vwCl [(h0, .inr (7, fs)), (pa, .inr (2, ps)), (mm, .inr (8, mfs))] H) (hD : va_D A [(h0, .inr (7, fs)), (pa, .inr (2, ps)), (mm, .inr (8, mfs))]) (hS : va_S A s.heap H locs) (hl : lv_has ls 7 [(4, .int 0), (3, .ref oa), (2, .ref mm), (1, .ref h0), (0, .ref b)]) : W p l e room_1 s m #[Value.ref b] below meth c H locs 160 7660 (lw_Z below #[Value.ref b] s) (F0 m 694 ls []) := by
  obtain ⟨hx, hb, hr, hml, hown, hts, hX, hbl, hlocks, hgv⟩ := id C0
  have hT : ∀ v ∈ T0, v.before #[Value.ref b] s = true := fun v h => hts v (tq_law_in v h)
  have hown : s.vm.findClass RL = some m.cls := hown
  have hA : ∀ q : Nat, s.heap.size ≤ q → A q := fun q h => by rw [hAe]; exact h
  have hbA : ¬ A b := by rw [hAe]; exact Nat.not_le.mpr hbl
  have hO := hN.2.2.2.2
  refine lv_aload_n hx hb dL_law_694 rfl (lv_at hl 3 rfl) ?_
  refine lv_aload_n hx hb dL_law_695 rfl (lv_at hl 4 rfl) ?_
  refine lv_iload hx hb dL_law_696 (lv_at hl 0 rfl) ?_
  refine lv_iconst (v := 1) hx hb dL_law_698 (by decide) ?_
  refine lv_iadd hx hb dL_law_699 ?_
  refine tq_i (w := 1) (by decide) ?_
  refine va_sld (i := 1) hx hb hX hbl hbA hS (tq_in (by decide)) dL_law_700 ?_
  refine tq_i (w := w1) hw1 ?_
  refine lv_aload_n hx hb dL_law_701 rfl (lv_at hl 4 rfl) ?_
  refine lv_iload hx hb dL_law_702 (lv_at hl 0 rfl) ?_
  refine lv_iconst (v := 2) hx hb dL_law_704 (by decide) ?_
  refine lv_iadd hx hb dL_law_705 ?_
  refine tq_i (w := 2) (by decide) ?_
  refine va_sld (i := 2) hx hb hX hbl hbA hS (tq_in (by decide)) dL_law_706 ?_
  refine tq_i (w := w2) hw2 ?_
  refine tq_ci (wr := [(mm, .inr (8, mfs))]) hP hD hS hA [0, 1] [2] rfl rfl (by decide) (by decide) (va_runV (As := [.int w1, .int w2]) (rest := []) ⟨hx, hb, hml, hown, hT⟩ (c_X7_mine l G cA H.size h0 w1 w2 fs pa ps (fh_sub hf [0] rfl) (fh_sub hp [0] rfl)) (cwV 2 hT (tq_gV kw_48_17 kw_48_18 kw_48_19 kw_1_2 kw_48_20) rfl rfl rfl (by decide +kernel) ⟨Nat.le_of_ble_eq_true rfl, Nat.le_of_ble_eq_true rfl⟩) ⟨(tq_pre (isC := [0, 1]) hP hD hK hN rfl (by decide)).1, va_recv hK hP (ci := 7) (q0 := 0) rfl rfl, (tq_pre (isC := [0, 1]) hP hD hK hN rfl (by decide)).2⟩ rfl rfl hl.1 rfl (lv_room (Nat.le_of_ble_eq_true rfl)) dL_law_707 ⟨Nat.le_of_ble_eq_true rfl, Nat.le_of_ble_eq_true rfl⟩) (fun r101 u102 H locs hw103 hP hD hS => ?_)
  refine W.widen (k := 160) (n := 7660) (Nat.le_of_ble_eq_true rfl) (Nat.le_of_ble_eq_true rfl) ?_
  have hr104 := hw103
  subst hr104
  have hP : va_P G vwCl [(mm, .inr (8, mfs))] H := hP
  have hD : va_D A [(mm, .inr (8, mfs))] := hD
  refine lv_aload_n hx hb dL_law_710 rfl (lv_at hl 2 rfl) ?_
  refine lv_aload_n hx hb dL_law_711 rfl (lv_at hl 4 rfl) ?_
  refine lv_iload hx hb dL_law_712 (lv_at hl 0 rfl) ?_
  refine lv_iconst (v := 1) hx hb dL_law_714 (by decide) ?_
  refine lv_iadd hx hb dL_law_715 ?_
  refine tq_i (w := 1) (by decide) ?_
  refine va_sld (i := 1) hx hb hX hbl hbA hS (tq_in (by decide)) dL_law_716 ?_
  refine tq_i (w := w1) hw1 ?_
  refine lv_aload_n hx hb dL_law_717 rfl (lv_at hl 4 rfl) ?_
  refine lv_iload hx hb dL_law_718 (lv_at hl 0 rfl) ?_
  refine lv_iconst (v := 2) hx hb dL_law_720 (by decide) ?_
  refine lv_iadd hx hb dL_law_721 ?_
  refine tq_i (w := 2) (by decide) ?_
  refine va_sld (i := 2) hx hb hX hbl hbA hS (tq_in (by decide)) dL_law_722 ?_
  refine tq_i (w := w2) hw2 ?_
  refine tq_ci (wr := []) hP hD hS hA [0] [] rfl rfl (by decide) (by decide) (va_runV (As := [.int w1, .int w2]) (rest := [.int (-1)]) ⟨hx, hb, hml, hown, hT⟩ (c_X8_mine l G cA H.size mm w1 w2 mfs (fh_sub hmf [0] rfl)) (cwV 2 hT (tq_gV kw_49_1 kw_49_2 kw_49_3 kw_1_5 kw_49_4) rfl rfl rfl (by decide +kernel) ⟨Nat.le_of_ble_eq_true rfl, Nat.le_of_ble_eq_true rfl⟩) ⟨(tq_pre (isC := [0]) hP hD hK hN rfl (by decide)).1, va_recv hK hP (ci := 8) (q0 := 0) rfl rfl, (tq_pre (isC := [0]) hP hD hK hN rfl (by decide)).2⟩ rfl rfl hl.1 rfl (lv_room (Nat.le_of_ble_eq_true rfl)) dL_law_723 ⟨Nat.le_of_ble_eq_true rfl, Nat.le_of_ble_eq_true rfl⟩) (fun r105 u106 H locs hw107 hP hD hS => ?_)
  refine W.widen (k := 160) (n := 7660) (Nat.le_of_ble_eq_true rfl) (Nat.le_of_ble_eq_true rfl) ?_
  have hr108 := hw107
  subst hr108
  have hP : va_P G vwCl [] H := hP
  have hD : va_D A [] := hD
  refine lv_icmp_eq (tgt := 1246) hx hb dL_law_726 (by decide) (fun c109 => ?_) (fun c109 => absurd (by decide) c109)
  refine lv_iinc (v := 6) (lv' := [(4, .int 6), (3, .ref oa), (2, .ref mm), (1, .ref h0), (0, .ref b)]) hx hb dL_law_1246 hl (k := 0) rfl (by decide) (by decide) rfl (fun ls hl => ?_)
  refine lv_goto (tgt := 23) hx hb dL_law_1249 (by decide) ?_
  refine lv_iload hx hb dL_law_23 (lv_at hl 0 rfl) ?_
  refine lv_aload_n hx hb dL_law_25 rfl (lv_at hl 4 rfl) ?_
  refine va_slen hx hb hX hbl hbA hS dL_law_26 ?_
  refine tq_i (w := 6) (by decide) ?_
  refine lv_bipush (v := 6) hx hb dL_law_27 (by decide) ?_
  refine lv_isub hx hb dL_law_29 ?_
  refine tq_i (w := 0) (by decide) ?_
  refine lv_icmp_gt (tgt := 1252) hx hb dL_law_30 (by decide) (fun c110 => ?_) (fun c110 => absurd (by decide) c110)
  refine lv_iconst (v := 1) hx hb dL_law_1252 (by decide) ?_
  refine va_forget (fun q hq => by have h9 := hS.2.2 q hq; rw [hAe] at h9; exact h9) ?_
  refine W.widen (k := 600002) (n := 7302232) (Nat.le_of_ble_eq_true rfl) (Nat.le_of_ble_eq_true rfl) ?_
  exact lw_ret hx hb hr hlocks dL_law_1253

set_option maxHeartbeats 4000000 in
set_option maxRecDepth 100000 in
theorem law_15 {p : Program} {e : Env} {s : State} {m : MethodId} {below : List Frame} {meth : Method} {c : Code} (l : Launch) (hst : l.stackTraces = false) {b : Nat} {xs : Nat → Int32} (C0 : lw_At p s m meth c b 6 xs) (G : va_G) (cA : Nat → ClassId) {A : Nat → Prop} (hAe : A = fun q : Nat => s.heap.size ≤ q) (hK : va_K G vwCl (tyL cA) s) (hN : tqN s) (sP : Nat) (hXx : tqX sP A s s.heap) (w0 : Int32) (w1 : Int32) (w2 : Int32) (w3 : Int32) (w4 : Int32) (w5 : Int32) (hw0 : xs 0 = w0) (hw1 : xs 1 = w1) (hw2 : xs 2 = w2) (hw3 : xs 3 = w3) (hw4 : xs 4 = w4) (hw5 : xs 5 = w5) (h0 : Nat) (mm : Nat) (oa : Nat) (fs : List Value) (pa : Nat) (ps : List Value) (mfs : List Value) {H : Heap} {locs : List Loc} {ls : Array Slot} (hf : fh fs 12 [(1, .ref pa)]) (hp : fh ps 19 [(0, .int 0)]) (hmf : fh mfs 91 [(12, .int 0)]) (hP : va_P G vwCl [(h0, .inr (7, fs)), (pa, .inr (2, ps)), (mm, .inr (8, mfs))] H) (hD : va_D A [(h0, .inr (7, fs)), (pa, .inr (2, ps)), (mm, .inr (8, mfs))]) (hS : va_S A s.heap H locs) (hl : lv_has ls 7 [(4, .int 0), (3, .ref oa), (2, .ref mm), (1, .ref h0), (0, .ref b)]) : W p l e room_1 s m #[Value.ref b] below meth c H locs 160 7660 (lw_Z below #[Value.ref b] s) (F0 m 731 ls []) := by
  obtain ⟨hx, hb, hr, hml, hown, hts, hX, hbl, hlocks, hgv⟩ := id C0
  have hT : ∀ v ∈ T0, v.before #[Value.ref b] s = true := fun v h => hts v (tq_law_in v h)
  have hown : s.vm.findClass RL = some m.cls := hown
  have hA : ∀ q : Nat, s.heap.size ≤ q → A q := fun q h => by rw [hAe]; exact h
  have hbA : ¬ A b := by rw [hAe]; exact Nat.not_le.mpr hbl
  have hO := hN.2.2.2.2
  refine lv_aload_n hx hb dL_law_731 rfl (lv_at hl 3 rfl) ?_
  refine lv_aload_n hx hb dL_law_732 rfl (lv_at hl 4 rfl) ?_
  refine lv_iload hx hb dL_law_733 (lv_at hl 0 rfl) ?_
  refine lv_iconst (v := 1) hx hb dL_law_735 (by decide) ?_
  refine lv_iadd hx hb dL_law_736 ?_
  refine tq_i (w := 1) (by decide) ?_
  refine va_sld (i := 1) hx hb hX hbl hbA hS (tq_in (by decide)) dL_law_737 ?_
  refine tq_i (w := w1) hw1 ?_
  refine lv_aload_n hx hb dL_law_738 rfl (lv_at hl 4 rfl) ?_
  refine lv_iload hx hb dL_law_739 (lv_at hl 0 rfl) ?_
  refine lv_iconst (v := 2) hx hb dL_law_741 (by decide) ?_
  refine lv_iadd hx hb dL_law_742 ?_
  refine tq_i (w := 2) (by decide) ?_
  refine va_sld (i := 2) hx hb hX hbl hbA hS (tq_in (by decide)) dL_law_743 ?_
  refine tq_i (w := w2) hw2 ?_
  refine tq_ci (wr := [(mm, .inr (8, mfs))]) hP hD hS hA [0, 1] [2] rfl rfl (by decide) (by decide) (va_runV (As := [.int w1, .int w2]) (rest := []) ⟨hx, hb, hml, hown, hT⟩ (c_X7_when l G cA H.size h0 w1 w2 fs pa ps (fh_sub hf [0] rfl) (fh_sub hp [0] rfl)) (cwV 2 hT (tq_gV kw_49_5 kw_49_6 kw_49_7 kw_1_2 kw_49_8) rfl rfl rfl (by decide +kernel) ⟨Nat.le_of_ble_eq_true rfl, Nat.le_of_ble_eq_true rfl⟩) ⟨(tq_pre (isC := [0, 1]) hP hD hK hN rfl (by decide)).1, va_recv hK hP (ci := 7) (q0 := 0) rfl rfl, (tq_pre (isC := [0, 1]) hP hD hK hN rfl (by decide)).2⟩ rfl rfl hl.1 rfl (lv_room (Nat.le_of_ble_eq_true rfl)) dL_law_744 ⟨Nat.le_of_ble_eq_true rfl, Nat.le_of_ble_eq_true rfl⟩) (fun r101 u102 H locs hw103 hP hD hS => ?_)
  refine W.widen (k := 160) (n := 7660) (Nat.le_of_ble_eq_true rfl) (Nat.le_of_ble_eq_true rfl) ?_
  have hr104 := hw103
  subst hr104
  have hP : va_P G vwCl [(mm, .inr (8, mfs))] H := hP
  have hD : va_D A [(mm, .inr (8, mfs))] := hD
  refine lv_aload_n hx hb dL_law_747 rfl (lv_at hl 2 rfl) ?_
  refine lv_aload_n hx hb dL_law_748 rfl (lv_at hl 4 rfl) ?_
  refine lv_iload hx hb dL_law_749 (lv_at hl 0 rfl) ?_
  refine lv_iconst (v := 1) hx hb dL_law_751 (by decide) ?_
  refine lv_iadd hx hb dL_law_752 ?_
  refine tq_i (w := 1) (by decide) ?_
  refine va_sld (i := 1) hx hb hX hbl hbA hS (tq_in (by decide)) dL_law_753 ?_
  refine tq_i (w := w1) hw1 ?_
  refine lv_aload_n hx hb dL_law_754 rfl (lv_at hl 4 rfl) ?_
  refine lv_iload hx hb dL_law_755 (lv_at hl 0 rfl) ?_
  refine lv_iconst (v := 2) hx hb dL_law_757 (by decide) ?_
  refine lv_iadd hx hb dL_law_758 ?_
  refine tq_i (w := 2) (by decide) ?_
  refine va_sld (i := 2) hx hb hX hbl hbA hS (tq_in (by decide)) dL_law_759 ?_
  refine tq_i (w := w2) hw2 ?_
  refine tq_ci (wr := []) hP hD hS hA [0] [] rfl rfl (by decide) (by decide) (va_runV (As := [.int w1, .int w2]) (rest := [.int (-1)]) ⟨hx, hb, hml, hown, hT⟩ (c_X8_when l G cA H.size mm w1 w2 mfs (fh_sub hmf [0] rfl)) (cwV 2 hT (tq_gV kw_49_13 kw_49_14 kw_49_15 kw_1_5 kw_49_16) rfl rfl rfl (by decide +kernel) ⟨Nat.le_of_ble_eq_true rfl, Nat.le_of_ble_eq_true rfl⟩) ⟨(tq_pre (isC := [0]) hP hD hK hN rfl (by decide)).1, va_recv hK hP (ci := 8) (q0 := 0) rfl rfl, (tq_pre (isC := [0]) hP hD hK hN rfl (by decide)).2⟩ rfl rfl hl.1 rfl (lv_room (Nat.le_of_ble_eq_true rfl)) dL_law_760 ⟨Nat.le_of_ble_eq_true rfl, Nat.le_of_ble_eq_true rfl⟩) (fun r105 u106 H locs hw107 hP hD hS => ?_)
  refine W.widen (k := 160) (n := 7660) (Nat.le_of_ble_eq_true rfl) (Nat.le_of_ble_eq_true rfl) ?_
  have hr108 := hw107
  subst hr108
  have hP : va_P G vwCl [] H := hP
  have hD : va_D A [] := hD
  refine lv_icmp_eq (tgt := 1246) hx hb dL_law_763 (by decide) (fun c109 => ?_) (fun c109 => absurd (by decide) c109)
  refine lv_iinc (v := 6) (lv' := [(4, .int 6), (3, .ref oa), (2, .ref mm), (1, .ref h0), (0, .ref b)]) hx hb dL_law_1246 hl (k := 0) rfl (by decide) (by decide) rfl (fun ls hl => ?_)
  refine lv_goto (tgt := 23) hx hb dL_law_1249 (by decide) ?_
  refine lv_iload hx hb dL_law_23 (lv_at hl 0 rfl) ?_
  refine lv_aload_n hx hb dL_law_25 rfl (lv_at hl 4 rfl) ?_
  refine va_slen hx hb hX hbl hbA hS dL_law_26 ?_
  refine tq_i (w := 6) (by decide) ?_
  refine lv_bipush (v := 6) hx hb dL_law_27 (by decide) ?_
  refine lv_isub hx hb dL_law_29 ?_
  refine tq_i (w := 0) (by decide) ?_
  refine lv_icmp_gt (tgt := 1252) hx hb dL_law_30 (by decide) (fun c110 => ?_) (fun c110 => absurd (by decide) c110)
  refine lv_iconst (v := 1) hx hb dL_law_1252 (by decide) ?_
  refine va_forget (fun q hq => by have h9 := hS.2.2 q hq; rw [hAe] at h9; exact h9) ?_
  refine W.widen (k := 600002) (n := 7302232) (Nat.le_of_ble_eq_true rfl) (Nat.le_of_ble_eq_true rfl) ?_
  exact lw_ret hx hb hr hlocks dL_law_1253

set_option maxHeartbeats 4000000 in
set_option maxRecDepth 100000 in
theorem law_16 {p : Program} {e : Env} {s : State} {m : MethodId} {below : List Frame} {meth : Method} {c : Code} (l : Launch) (hst : l.stackTraces = false) {b : Nat} {xs : Nat → Int32} (C0 : lw_At p s m meth c b 6 xs) (G : va_G) (cA : Nat → ClassId) {A : Nat → Prop} (hAe : A = fun q : Nat => s.heap.size ≤ q) (hK : va_K G vwCl (tyL cA) s) (hN : tqN s) (sP : Nat) (hXx : tqX sP A s s.heap) (w0 : Int32) (w1 : Int32) (w2 : Int32) (w3 : Int32) (w4 : Int32) (w5 : Int32) (hw0 : xs 0 = w0) (hw1 : xs 1 = w1) (hw2 : xs 2 = w2) (hw3 : xs 3 = w3) (hw4 : xs 4 = w4) (hw5 : xs 5 = w5) (h0 : Nat) (mm : Nat) (oa : Nat) (fs : List Value) (pa : Nat) (ps : List Value) (mfs : List Value) {H : Heap} {locs : List Loc} {ls : Array Slot} (hf : fh fs 12 [(1, .ref pa)]) (hp : fh ps 19 [(2, .int 0)]) (hmf : fh mfs 91 [(14, .int 0)]) (hP : va_P G vwCl [(h0, .inr (7, fs)), (pa, .inr (2, ps)), (mm, .inr (8, mfs))] H) (hD : va_D A [(h0, .inr (7, fs)), (pa, .inr (2, ps)), (mm, .inr (8, mfs))]) (hS : va_S A s.heap H locs) (hl : lv_has ls 7 [(4, .int 0), (3, .ref oa), (2, .ref mm), (1, .ref h0), (0, .ref b)]) : W p l e room_1 s m #[Value.ref b] below meth c H locs 160 7660 (lw_Z below #[Value.ref b] s) (F0 m 768 ls []) := by
  obtain ⟨hx, hb, hr, hml, hown, hts, hX, hbl, hlocks, hgv⟩ := id C0
  have hT : ∀ v ∈ T0, v.before #[Value.ref b] s = true := fun v h => hts v (tq_law_in v h)
  have hown : s.vm.findClass RL = some m.cls := hown
  have hA : ∀ q : Nat, s.heap.size ≤ q → A q := fun q h => by rw [hAe]; exact h
  have hbA : ¬ A b := by rw [hAe]; exact Nat.not_le.mpr hbl
  have hO := hN.2.2.2.2
  refine lv_aload_n hx hb dL_law_768 rfl (lv_at hl 3 rfl) ?_
  refine lv_aload_n hx hb dL_law_769 rfl (lv_at hl 4 rfl) ?_
  refine lv_iload hx hb dL_law_770 (lv_at hl 0 rfl) ?_
  refine lv_iconst (v := 1) hx hb dL_law_772 (by decide) ?_
  refine lv_iadd hx hb dL_law_773 ?_
  refine tq_i (w := 1) (by decide) ?_
  refine va_sld (i := 1) hx hb hX hbl hbA hS (tq_in (by decide)) dL_law_774 ?_
  refine tq_i (w := w1) hw1 ?_
  refine lv_aload_n hx hb dL_law_775 rfl (lv_at hl 4 rfl) ?_
  refine lv_iload hx hb dL_law_776 (lv_at hl 0 rfl) ?_
  refine lv_iconst (v := 2) hx hb dL_law_778 (by decide) ?_
  refine lv_iadd hx hb dL_law_779 ?_
  refine tq_i (w := 2) (by decide) ?_
  refine va_sld (i := 2) hx hb hX hbl hbA hS (tq_in (by decide)) dL_law_780 ?_
  refine tq_i (w := w2) hw2 ?_
  refine tq_ci (wr := [(mm, .inr (8, mfs))]) hP hD hS hA [0, 1] [2] rfl rfl (by decide) (by decide) (va_runV (As := [.int w1, .int w2]) (rest := []) ⟨hx, hb, hml, hown, hT⟩ (c_X7_rests l G cA H.size h0 w1 w2 fs pa ps (fh_sub hf [0] rfl) (fh_sub hp [0] rfl)) (cwV 2 hT (tq_gV kw_49_17 kw_49_18 kw_49_19 kw_1_2 kw_49_20) rfl rfl rfl (by decide +kernel) ⟨Nat.le_of_ble_eq_true rfl, Nat.le_of_ble_eq_true rfl⟩) ⟨(tq_pre (isC := [0, 1]) hP hD hK hN rfl (by decide)).1, va_recv hK hP (ci := 7) (q0 := 0) rfl rfl, (tq_pre (isC := [0, 1]) hP hD hK hN rfl (by decide)).2⟩ rfl rfl hl.1 rfl (lv_room (Nat.le_of_ble_eq_true rfl)) dL_law_781 ⟨Nat.le_of_ble_eq_true rfl, Nat.le_of_ble_eq_true rfl⟩) (fun r101 u102 H locs hw103 hP hD hS => ?_)
  refine W.widen (k := 160) (n := 7660) (Nat.le_of_ble_eq_true rfl) (Nat.le_of_ble_eq_true rfl) ?_
  have hr104 := hw103
  subst hr104
  have hP : va_P G vwCl [(mm, .inr (8, mfs))] H := hP
  have hD : va_D A [(mm, .inr (8, mfs))] := hD
  refine lv_aload_n hx hb dL_law_784 rfl (lv_at hl 2 rfl) ?_
  refine lv_aload_n hx hb dL_law_785 rfl (lv_at hl 4 rfl) ?_
  refine lv_iload hx hb dL_law_786 (lv_at hl 0 rfl) ?_
  refine lv_iconst (v := 1) hx hb dL_law_788 (by decide) ?_
  refine lv_iadd hx hb dL_law_789 ?_
  refine tq_i (w := 1) (by decide) ?_
  refine va_sld (i := 1) hx hb hX hbl hbA hS (tq_in (by decide)) dL_law_790 ?_
  refine tq_i (w := w1) hw1 ?_
  refine lv_aload_n hx hb dL_law_791 rfl (lv_at hl 4 rfl) ?_
  refine lv_iload hx hb dL_law_792 (lv_at hl 0 rfl) ?_
  refine lv_iconst (v := 2) hx hb dL_law_794 (by decide) ?_
  refine lv_iadd hx hb dL_law_795 ?_
  refine tq_i (w := 2) (by decide) ?_
  refine va_sld (i := 2) hx hb hX hbl hbA hS (tq_in (by decide)) dL_law_796 ?_
  refine tq_i (w := w2) hw2 ?_
  refine tq_ci (wr := []) hP hD hS hA [0] [] rfl rfl (by decide) (by decide) (va_runV (As := [.int w1, .int w2]) (rest := [.int (-1)]) ⟨hx, hb, hml, hown, hT⟩ (c_X8_rests l G cA H.size mm w1 w2 mfs (fh_sub hmf [0] rfl)) (cwV 2 hT (tq_gV kw_50_13 kw_50_14 kw_50_15 kw_1_5 kw_50_16) rfl rfl rfl (by decide +kernel) ⟨Nat.le_of_ble_eq_true rfl, Nat.le_of_ble_eq_true rfl⟩) ⟨(tq_pre (isC := [0]) hP hD hK hN rfl (by decide)).1, va_recv hK hP (ci := 8) (q0 := 0) rfl rfl, (tq_pre (isC := [0]) hP hD hK hN rfl (by decide)).2⟩ rfl rfl hl.1 rfl (lv_room (Nat.le_of_ble_eq_true rfl)) dL_law_797 ⟨Nat.le_of_ble_eq_true rfl, Nat.le_of_ble_eq_true rfl⟩) (fun r105 u106 H locs hw107 hP hD hS => ?_)
  refine W.widen (k := 160) (n := 7660) (Nat.le_of_ble_eq_true rfl) (Nat.le_of_ble_eq_true rfl) ?_
  have hr108 := hw107
  subst hr108
  have hP : va_P G vwCl [] H := hP
  have hD : va_D A [] := hD
  refine lv_icmp_eq (tgt := 1246) hx hb dL_law_800 (by decide) (fun c109 => ?_) (fun c109 => absurd (by decide) c109)
  refine lv_iinc (v := 6) (lv' := [(4, .int 6), (3, .ref oa), (2, .ref mm), (1, .ref h0), (0, .ref b)]) hx hb dL_law_1246 hl (k := 0) rfl (by decide) (by decide) rfl (fun ls hl => ?_)
  refine lv_goto (tgt := 23) hx hb dL_law_1249 (by decide) ?_
  refine lv_iload hx hb dL_law_23 (lv_at hl 0 rfl) ?_
  refine lv_aload_n hx hb dL_law_25 rfl (lv_at hl 4 rfl) ?_
  refine va_slen hx hb hX hbl hbA hS dL_law_26 ?_
  refine tq_i (w := 6) (by decide) ?_
  refine lv_bipush (v := 6) hx hb dL_law_27 (by decide) ?_
  refine lv_isub hx hb dL_law_29 ?_
  refine tq_i (w := 0) (by decide) ?_
  refine lv_icmp_gt (tgt := 1252) hx hb dL_law_30 (by decide) (fun c110 => ?_) (fun c110 => absurd (by decide) c110)
  refine lv_iconst (v := 1) hx hb dL_law_1252 (by decide) ?_
  refine va_forget (fun q hq => by have h9 := hS.2.2 q hq; rw [hAe] at h9; exact h9) ?_
  refine W.widen (k := 600002) (n := 7302232) (Nat.le_of_ble_eq_true rfl) (Nat.le_of_ble_eq_true rfl) ?_
  exact lw_ret hx hb hr hlocks dL_law_1253

set_option maxHeartbeats 4000000 in
set_option maxRecDepth 100000 in
theorem law_17 {p : Program} {e : Env} {s : State} {m : MethodId} {below : List Frame} {meth : Method} {c : Code} (l : Launch) (hst : l.stackTraces = false) {b : Nat} {xs : Nat → Int32} (C0 : lw_At p s m meth c b 6 xs) (G : va_G) (cA : Nat → ClassId) {A : Nat → Prop} (hAe : A = fun q : Nat => s.heap.size ≤ q) (hK : va_K G vwCl (tyL cA) s) (hN : tqN s) (sP : Nat) (hXx : tqX sP A s s.heap) (w0 : Int32) (w1 : Int32) (w2 : Int32) (w3 : Int32) (w4 : Int32) (w5 : Int32) (hw0 : xs 0 = w0) (hw1 : xs 1 = w1) (hw2 : xs 2 = w2) (hw3 : xs 3 = w3) (hw4 : xs 4 = w4) (hw5 : xs 5 = w5) (h0 : Nat) (mm : Nat) (oa : Nat) (fs : List Value) (pa : Nat) (ps : List Value) (mfs : List Value) {H : Heap} {locs : List Loc} {ls : Array Slot} (hf : fh fs 12 [(1, .ref pa)]) (hp : fh ps 19 [(2, .int 0)]) (hmf : fh mfs 91 [(14, .int 0)]) (hP : va_P G vwCl [(h0, .inr (7, fs)), (pa, .inr (2, ps)), (mm, .inr (8, mfs))] H) (hD : va_D A [(h0, .inr (7, fs)), (pa, .inr (2, ps)), (mm, .inr (8, mfs))]) (hS : va_S A s.heap H locs) (hl : lv_has ls 7 [(4, .int 0), (3, .ref oa), (2, .ref mm), (1, .ref h0), (0, .ref b)]) : W p l e room_1 s m #[Value.ref b] below meth c H locs 160 7660 (lw_Z below #[Value.ref b] s) (F0 m 805 ls []) := by
  obtain ⟨hx, hb, hr, hml, hown, hts, hX, hbl, hlocks, hgv⟩ := id C0
  have hT : ∀ v ∈ T0, v.before #[Value.ref b] s = true := fun v h => hts v (tq_law_in v h)
  have hown : s.vm.findClass RL = some m.cls := hown
  have hA : ∀ q : Nat, s.heap.size ≤ q → A q := fun q h => by rw [hAe]; exact h
  have hbA : ¬ A b := by rw [hAe]; exact Nat.not_le.mpr hbl
  have hO := hN.2.2.2.2
  refine lv_aload_n hx hb dL_law_805 rfl (lv_at hl 3 rfl) ?_
  refine lv_aload_n hx hb dL_law_806 rfl (lv_at hl 4 rfl) ?_
  refine lv_iload hx hb dL_law_807 (lv_at hl 0 rfl) ?_
  refine lv_iconst (v := 1) hx hb dL_law_809 (by decide) ?_
  refine lv_iadd hx hb dL_law_810 ?_
  refine tq_i (w := 1) (by decide) ?_
  refine va_sld (i := 1) hx hb hX hbl hbA hS (tq_in (by decide)) dL_law_811 ?_
  refine tq_i (w := w1) hw1 ?_
  refine lv_aload_n hx hb dL_law_812 rfl (lv_at hl 4 rfl) ?_
  refine lv_iload hx hb dL_law_813 (lv_at hl 0 rfl) ?_
  refine lv_iconst (v := 2) hx hb dL_law_815 (by decide) ?_
  refine lv_iadd hx hb dL_law_816 ?_
  refine tq_i (w := 2) (by decide) ?_
  refine va_sld (i := 2) hx hb hX hbl hbA hS (tq_in (by decide)) dL_law_817 ?_
  refine tq_i (w := w2) hw2 ?_
  refine lv_aload_n hx hb dL_law_818 rfl (lv_at hl 4 rfl) ?_
  refine lv_iload hx hb dL_law_819 (lv_at hl 0 rfl) ?_
  refine lv_iconst (v := 3) hx hb dL_law_821 (by decide) ?_
  refine lv_iadd hx hb dL_law_822 ?_
  refine tq_i (w := 3) (by decide) ?_
  refine va_sld (i := 3) hx hb hX hbl hbA hS (tq_in (by decide)) dL_law_823 ?_
  refine tq_i (w := w3) hw3 ?_
  refine tq_ci (wr := [(mm, .inr (8, mfs))]) hP hD hS hA [0, 1] [2] rfl rfl (by decide) (by decide) (va_runV (As := [.int w1, .int w2, .int w3]) (rest := []) ⟨hx, hb, hml, hown, hT⟩ (c_X7_rest l G cA H.size h0 w1 w2 w3 fs pa ps (fh_sub hf [0] rfl) (fh_sub hp [0] rfl)) (cwV 3 hT (tq_gV kw_51_5 kw_51_6 kw_51_7 kw_1_2 kw_51_8) rfl rfl rfl (by decide +kernel) ⟨Nat.le_of_ble_eq_true rfl, Nat.le_of_ble_eq_true rfl⟩) ⟨(tq_pre (isC := [0, 1]) hP hD hK hN rfl (by decide)).1, va_recv hK hP (ci := 7) (q0 := 0) rfl rfl, (tq_pre (isC := [0, 1]) hP hD hK hN rfl (by decide)).2⟩ rfl rfl hl.1 rfl (lv_room (Nat.le_of_ble_eq_true rfl)) dL_law_824 ⟨Nat.le_of_ble_eq_true rfl, Nat.le_of_ble_eq_true rfl⟩) (fun r101 u102 H locs hw103 hP hD hS => ?_)
  refine W.widen (k := 160) (n := 7660) (Nat.le_of_ble_eq_true rfl) (Nat.le_of_ble_eq_true rfl) ?_
  have hr104 := hw103
  subst hr104
  have hP : va_P G vwCl [(mm, .inr (8, mfs))] H := hP
  have hD : va_D A [(mm, .inr (8, mfs))] := hD
  refine lv_aload_n hx hb dL_law_827 rfl (lv_at hl 2 rfl) ?_
  refine lv_aload_n hx hb dL_law_828 rfl (lv_at hl 4 rfl) ?_
  refine lv_iload hx hb dL_law_829 (lv_at hl 0 rfl) ?_
  refine lv_iconst (v := 1) hx hb dL_law_831 (by decide) ?_
  refine lv_iadd hx hb dL_law_832 ?_
  refine tq_i (w := 1) (by decide) ?_
  refine va_sld (i := 1) hx hb hX hbl hbA hS (tq_in (by decide)) dL_law_833 ?_
  refine tq_i (w := w1) hw1 ?_
  refine lv_aload_n hx hb dL_law_834 rfl (lv_at hl 4 rfl) ?_
  refine lv_iload hx hb dL_law_835 (lv_at hl 0 rfl) ?_
  refine lv_iconst (v := 2) hx hb dL_law_837 (by decide) ?_
  refine lv_iadd hx hb dL_law_838 ?_
  refine tq_i (w := 2) (by decide) ?_
  refine va_sld (i := 2) hx hb hX hbl hbA hS (tq_in (by decide)) dL_law_839 ?_
  refine tq_i (w := w2) hw2 ?_
  refine lv_aload_n hx hb dL_law_840 rfl (lv_at hl 4 rfl) ?_
  refine lv_iload hx hb dL_law_841 (lv_at hl 0 rfl) ?_
  refine lv_iconst (v := 3) hx hb dL_law_843 (by decide) ?_
  refine lv_iadd hx hb dL_law_844 ?_
  refine tq_i (w := 3) (by decide) ?_
  refine va_sld (i := 3) hx hb hX hbl hbA hS (tq_in (by decide)) dL_law_845 ?_
  refine tq_i (w := w3) hw3 ?_
  refine tq_ci (wr := []) hP hD hS hA [0] [] rfl rfl (by decide) (by decide) (va_runV (As := [.int w1, .int w2, .int w3]) (rest := [.int (-1)]) ⟨hx, hb, hml, hown, hT⟩ (c_X8_rest l G cA H.size mm w1 w2 w3 mfs (fh_sub hmf [0] rfl)) (cwV 3 hT (tq_gV kw_51_9 kw_51_10 kw_51_11 kw_1_5 kw_51_12) rfl rfl rfl (by decide +kernel) ⟨Nat.le_of_ble_eq_true rfl, Nat.le_of_ble_eq_true rfl⟩) ⟨(tq_pre (isC := [0]) hP hD hK hN rfl (by decide)).1, va_recv hK hP (ci := 8) (q0 := 0) rfl rfl, (tq_pre (isC := [0]) hP hD hK hN rfl (by decide)).2⟩ rfl rfl hl.1 rfl (lv_room (Nat.le_of_ble_eq_true rfl)) dL_law_846 ⟨Nat.le_of_ble_eq_true rfl, Nat.le_of_ble_eq_true rfl⟩) (fun r105 u106 H locs hw107 hP hD hS => ?_)
  refine W.widen (k := 160) (n := 7660) (Nat.le_of_ble_eq_true rfl) (Nat.le_of_ble_eq_true rfl) ?_
  have hr108 := hw107
  subst hr108
  have hP : va_P G vwCl [] H := hP
  have hD : va_D A [] := hD
  refine lv_icmp_eq (tgt := 1246) hx hb dL_law_849 (by decide) (fun c109 => ?_) (fun c109 => absurd (by decide) c109)
  refine lv_iinc (v := 6) (lv' := [(4, .int 6), (3, .ref oa), (2, .ref mm), (1, .ref h0), (0, .ref b)]) hx hb dL_law_1246 hl (k := 0) rfl (by decide) (by decide) rfl (fun ls hl => ?_)
  refine lv_goto (tgt := 23) hx hb dL_law_1249 (by decide) ?_
  refine lv_iload hx hb dL_law_23 (lv_at hl 0 rfl) ?_
  refine lv_aload_n hx hb dL_law_25 rfl (lv_at hl 4 rfl) ?_
  refine va_slen hx hb hX hbl hbA hS dL_law_26 ?_
  refine tq_i (w := 6) (by decide) ?_
  refine lv_bipush (v := 6) hx hb dL_law_27 (by decide) ?_
  refine lv_isub hx hb dL_law_29 ?_
  refine tq_i (w := 0) (by decide) ?_
  refine lv_icmp_gt (tgt := 1252) hx hb dL_law_30 (by decide) (fun c110 => ?_) (fun c110 => absurd (by decide) c110)
  refine lv_iconst (v := 1) hx hb dL_law_1252 (by decide) ?_
  refine va_forget (fun q hq => by have h9 := hS.2.2 q hq; rw [hAe] at h9; exact h9) ?_
  refine W.widen (k := 600002) (n := 7302232) (Nat.le_of_ble_eq_true rfl) (Nat.le_of_ble_eq_true rfl) ?_
  exact lw_ret hx hb hr hlocks dL_law_1253
