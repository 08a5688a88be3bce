set_option maxHeartbeats 8000000 in
set_option maxRecDepth 100000 in
theorem lw_loop {p : Program} {e : Env} {s : State} {m : MethodId} {below : List Frame} {meth : Method} {c : Code} (l : Launch) {b Ln : Nat} {xs : Nat → Int32} (C0 : lw_At p s m meth c b Ln xs) (G : va_G) (cA : Nat → ClassId) {A : Nat → Prop} (hAe : A = fun q : Nat => s.heap.size ≤ q) (hK : va_K G vwCl (tyL cA) s) (hN : tqN s) {bA : Nat} (hB : tqB bA A s s.heap) (hst : l.stackTraces = false) (sP sQ : Nat) (hXx : tqX sP sQ A s s.heap) (hLn : Ln ≤ 3072) {x0 mm oa : Nat} (N : Nat) : ∀ (i : Int32) (H : Heap) (locs : List Loc) (ls : Array Slot) (kc ks : Nat), 0 ≤ i.toInt → i.toInt ≤ (Ln : Int) + 6 → (Ln : Int) + 6 - i.toInt < (N : Int) → 3 * (kc : Int) ≤ 480 + i.toInt → (ks : Int) ≤ 7660 + 2 * i.toInt → lwP G cA A x0 mm oa H → va_S A s.heap H locs → lv_has ls 7 [(4, .int i), (3, .ref oa), (2, .ref mm), (1, .ref x0), (0, .ref b)] → W p l e room_1 s m #[Value.ref b] below meth c H locs kc ks (lw_Z below #[Value.ref b] s) (F0 m 23 ls []) := by
  obtain ⟨hx, hb, hr, hml, hown, hts, hX, hbl, hlocks, hgv⟩ := id C0
  have hT : ∀ v ∈ T0, v.before #[Value.ref b] s = true := fun v h => hts v (tq_law_in v h)
  have hown : s.vm.findClass RL = some m.cls := hown
  have hA : ∀ q : Nat, s.heap.size ≤ q → A q := fun q h => by rw [hAe]; exact h
  have hbA : ¬ A b := by rw [hAe]; exact Nat.not_le.mpr hbl
  induction N with
  | zero => intro i H locs ls kc ks h1 h2 h3; omega
  | succ N ih =>
    intro i H locs ls kc ks h1 h2 h3 h4 h5 hI hS hl
    refine lv_iload hx hb dL_law_23 (lv_at hl 0 rfl) ?_
    refine lv_aload_n hx hb dL_law_25 rfl (lv_at hl 4 rfl) ?_
    refine va_slen hx hb hX hbl hbA hS dL_law_26 ?_
    refine lv_bipush (v := 6) hx hb dL_law_27 (by decide) ?_
    refine lv_isub hx hb dL_law_29 ?_
    have eL : (Int32.ofNat Ln).toInt = (Ln : Int) := Int32.toInt_ofNat_of_lt (by omega)
    have e6 : (Int32.ofNat Ln - 6).toInt = (Ln : Int) - 6 := i_subK eL (by decide) (by omega) (by omega)
    refine lv_icmp_gt (tgt := 1223) hx hb dL_law_30 (by decide) (fun c9 => ?_) (fun c9 => ?_)
    · refine lv_iconst (v := 1) hx hb dL_law_1223 (by decide) ?_
      refine va_forget (fun q hq => by have h9 := hS.2.2 q hq; rw [hAe] at h9; exact h9) ?_
      refine W.widen (k := 601024) (n := 7293034) (by omega) (by omega) ?_
      exact lw_ret hx hb hr hlocks dL_law_1224
    · have k := tq_ltn (x := Int32.ofNat Ln - 6) (y := i) e6 rfl c9
      have hi : 0 ≤ i.toInt ∧ i.toInt + 6 ≤ (Ln : Int) := ⟨h1, by omega⟩
      refine lv_aload_n hx hb dL_law_33 rfl (lv_at hl 4 rfl) ?_
      refine lv_iload hx hb dL_law_34 (lv_at hl 0 rfl) ?_
      refine va_sld (i := i) hx hb hX hbl hbA hS (tx_in (okI_of h1 (by omega))) dL_law_36 ?_
      refine lv_bipush (v := 63) hx hb dL_law_37 (by decide) ?_
      refine lv_iand hx hb dL_law_39 ?_
      have hgo : ∀ (H : Heap) (locs : List Loc) (ls : Array Slot), lwP G cA A x0 mm oa H → va_S A s.heap H locs → lv_has ls 7 [(4, .int i), (3, .ref oa), (2, .ref mm), (1, .ref x0), (0, .ref b)] → W p l e room_1 s m #[Value.ref b] below meth c H locs (kc + 2) (ks + 12) (lw_Z below #[Value.ref b] s) (F0 m 1217 ls []) := by
        intro H locs ls hI hS hl
        obtain ⟨y, ey⟩ : ∃ y, i + 6 = y := ⟨_, rfl⟩
        have e7 : y.toInt = i.toInt + 6 := by rw [← ey]; exact i_addK rfl (by decide) (by omega) (by omega)
        refine lv_iinc (v := y) (lv' := [(4, .int y), (3, .ref oa), (2, .ref mm), (1, .ref x0), (0, .ref b)]) hx hb dL_law_1217 hl (k := 0) rfl ey (by decide) rfl (fun ls hl => ?_)
        refine lv_goto (tgt := 23) hx hb dL_law_1220 (by decide) ?_
        exact ih y H locs ls (kc + 2) (ks + 12) (by omega) (by omega) (by omega) (by omega) (by omega) hI hS hl
      have hgo0 : ∀ (H : Heap) (locs : List Loc) (ls : Array Slot), lwP G cA A x0 mm oa H → va_S A s.heap H locs → lv_has ls 7 [(4, .int i), (3, .ref oa), (2, .ref mm), (1, .ref x0), (0, .ref b)] → W p l e room_1 s m #[Value.ref b] below meth c H locs kc ks (lw_Z below #[Value.ref b] s) (F0 m 1217 ls []) := fun H locs ls hI hS hl => W.widen (k := kc + 2) (n := ks + 12) (by omega) (by omega) (hgo H locs ls hI hS hl)
      have hfit : kc ≤ 601024 ∧ ks ≤ 7293034 := ⟨by omega, by omega⟩
      have hfit2 : kc + 1 ≤ 601024 ∧ ks + 6 ≤ 7293034 := ⟨by omega, by omega⟩
      exact lw_switch l C0 G cA hAe hK hN hB (lc_0 l C0 G cA hAe hK hN hB hfit hi hLn hI hS hl hgo0) (lc_1 l C0 G cA hAe hK hN hB hfit hi hLn hI hS hl hgo0) (lc_2 l C0 G cA hAe hK hN hB hfit hi hLn hI hS hl hgo0) (lc_3 l C0 G cA hAe hK hN hB hfit hi hLn hI hS hl hgo0) (lc_4 l C0 G cA hAe hK hN hB hst sP sQ hXx hfit2 hi hLn hI hS hl hgo) (lc_5 l C0 G cA hAe hK hN hB hfit hi hLn hI hS hl hgo0) (lc_6 l C0 G cA hAe hK hN hB hfit hi hLn hI hS hl hgo0) (lc_7 l C0 G cA hAe hK hN hB hfit hi hLn hI hS hl hgo0) (lc_8 l C0 G cA hAe hK hN hB hfit hi hLn hI hS hl hgo0) (lc_9 l C0 G cA hAe hK hN hB hfit hi hLn hI hS hl hgo0) (lc_10 l C0 G cA hAe hK hN hB hfit hi hLn hI hS hl hgo0) (lc_11 l C0 G cA hAe hK hN hB hfit hi hLn hI hS hl hgo0) (lc_12 l C0 G cA hAe hK hN hB hfit hi hLn hI hS hl hgo0) (lc_13 l C0 G cA hAe hK hN hB hfit hi hLn hI hS hl hgo0) (lc_14 l C0 G cA hAe hK hN hB hfit hi hLn hI hS hl hgo0) (lc_15 l C0 G cA hAe hK hN hB hfit hi hLn hI hS hl hgo0) (lc_16 l C0 G cA hAe hK hN hB hfit hi hLn hI hS hl hgo0) (lc_17 l C0 G cA hAe hK hN hB hfit hi hLn hI hS hl hgo0) (lc_18 l C0 G cA hAe hK hN hB hfit hi hLn hI hS hl hgo0) (lc_19 l C0 G cA hAe hK hN hB hfit hi hLn hI hS hl hgo0) (lc_20 l C0 G cA hAe hK hN hB hfit hi hLn hI hS hl hgo0) (lc_21 l C0 G cA hAe hK hN hB hfit hi hLn hI hS hl hgo0) (lc_22 l C0 G cA hAe hK hN hB hfit hi hLn hI hS hl hgo0) (lc_23 l C0 G cA hAe hK hN hB hfit hi hLn hI hS hl hgo0) (lc_24 l C0 G cA hAe hK hN hB hfit hi hLn hI hS hl hgo0) (lc_25 l C0 G cA hAe hK hN hB hfit hi hLn hI hS hl hgo0) (lc_26 l C0 G cA hAe hK hN hB hfit hi hLn hI hS hl hgo0) (lc_27 l C0 G cA hAe hK hN hB hfit hi hLn hI hS hl hgo0) (lc_28 l C0 G cA hAe hK hN hB hfit hi hLn hI hS hl hgo0) (lc_29 l C0 G cA hAe hK hN hB hfit hi hLn hI hS hl hgo0) (lc_30 l C0 G cA hAe hK hN hB hfit hi hLn hI hS hl hgo0) (lc_31 l C0 G cA hAe hK hN hB hfit hi hLn hI hS hl hgo0) (lc_32 l C0 G cA hAe hK hN hB hfit hi hLn hI hS hl hgo0) (lc_33 l C0 G cA hAe hK hN hB hfit hi hLn hI hS hl hgo0) (hgo0 H locs ls hI hS hl)
