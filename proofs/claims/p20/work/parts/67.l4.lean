section LX
variable {p : Program} {l : Launch} {e : Env} {R : Room} {s : State} {m : MethodId} {args : Array Value} {below : List Frame} {meth : Method} {c : Code} {H : Heap} {locs : List Loc} {cells slots : Nat} {Q : State → Prop}
variable {pc : Nat} {ls : Array Slot} {rest st0 : List Value} {a : Array Value} {A : Nat → Prop} {H0 : Heap} {G : va_G} {cA : Nat → ClassId} {ws wc wr : va_W} {mc ms : Nat}
theorem tw_cim {S : Type} {post : Int32 → S → Prop} {w1 : S → va_W} (hp : ws.Perm (wc ++ wr)) (hP : va_P G vwCl ws H) (hD : va_D A ws) (hS : va_S A H0 H locs) (hA : ∀ q, H0.size ≤ q → A q)
    (hr : va_Run p l e R s m args below meth c H locs cells slots mc ms (F0 m pc ls st0) rest (tqQi G cA post w1 (va_A wc H.size) a) (va_A wc H.size))
    (kk : ∀ (r : Int32) (u : S) (H1 : Heap) (locs1 : List Loc), post r u → va_P G vwCl (w1 u ++ wr) H1 → va_D A (w1 u ++ wr) → va_S A H0 H1 locs1 → W p l e R s m args below meth c H1 locs1 (cells + mc) (slots + ms) Q (F0 m (pc + 3) ls (.int r :: rest))) : W p l e R s m args below meth c H locs cells slots Q (F0 m pc ls st0) := by
  have hFc := tw_free hp hD hS hA
  refine va_calli hr hS (fun q _ h => hFc q h) hFc (fun r u t H1 locs1 ht hvm hw hB hz1 hk1 hS1 => ?_)
  obtain ⟨hP1, hD1⟩ := hB
  rw [ht] at hP1
  obtain ⟨hP2, hD2⟩ := tw_join hp hP hD hk1 hFc hP1 hD1
  exact kk r u H1 locs1 hw hP2 hD2 hS1
end LX
theorem wl_p {α : Type} {a b : List α} {c : α} : (a ++ (b ++ [c])).Perm ((c :: a) ++ b) := by
  rw [← List.append_assoc]
  exact List.perm_append_singleton c (a ++ b)
theorem lw_x0 : ∀ w ∈ XW, w ∈ lw_tbl := by
  have h : ∀ w ∈ XW, w ∈ (tables_1.drop 1037).take 93 ∨ w ∈ tables_1.take 21 ∨ w ∈ lw_tbl := by decide +kernel
  exact fun w hw => (h w hw).elim (fun g => List.mem_append_right _ (List.mem_of_mem_drop (List.mem_of_mem_take g))) (fun g => g.elim (fun g => List.mem_append_right _ (List.mem_of_mem_take g)) id)
theorem lw_x1 : ∀ w ∈ XV, w ∈ lw_tbl := by
  have h : ∀ w ∈ XV, w ∈ (tables_1.drop 1037).take 93 ∨ w ∈ tables_1.take 21 ∨ w ∈ lw_tbl := by decide +kernel
  exact fun w hw => (h w hw).elim (fun g => List.mem_append_right _ (List.mem_of_mem_drop (List.mem_of_mem_take g))) (fun g => g.elim (fun g => List.mem_append_right _ (List.mem_of_mem_take g)) id)
set_option maxHeartbeats 4000000 in
set_option maxRecDepth 100000 in
theorem lc_4 {p : Program} {e : Env} {s : State} {m : MethodId} {below : List Frame} {meth : Method} {c : Code} (l : Launch) {b Ln : Nat} {xs : Nat → Int32} (C0 : lw_At p s m meth c b Ln xs) (G : va_G) (cA : Nat → ClassId) {A : Nat → Prop} (hAe : A = fun q : Nat => s.heap.size ≤ q) (hK : va_K G vwCl (tyL cA) s) (hN : tqN s) {bA : Nat} (hB : tqB bA A s s.heap) (hst : l.stackTraces = false) (sP sQ : Nat) (hXx : tqX sP sQ A s s.heap) {H : Heap} {locs : List Loc} {ls : Array Slot} {kc ks : Nat} (hfit : kc + 1 ≤ 601024 ∧ ks + 6 ≤ 7293034) {i : Int32} (hi : 0 ≤ i.toInt ∧ i.toInt + 6 ≤ (Ln : Int)) (hLn : Ln ≤ 3072) {x0 mm oa : Nat} (hI : lwP G cA A x0 mm oa H) (hS : va_S A s.heap H locs) (hl : lv_has ls 7 [(4, .int i), (3, .ref oa), (2, .ref mm), (1, .ref x0), (0, .ref b)]) (hk : (∀ (H : Heap) (locs : List Loc) (ls : Array Slot), lwP G cA A x0 mm oa H → va_S A s.heap H locs → lv_has ls 7 [(4, .int i), (3, .ref oa), (2, .ref mm), (1, .ref x0), (0, .ref b)] → W p l e room_1 s m #[Value.ref b] below meth c H locs (kc + 2) (ks + 12) (lw_Z below #[Value.ref b] s) (F0 m 1217 ls []))) : W p l e room_1 s m #[Value.ref b] below meth c H locs kc ks (lw_Z below #[Value.ref b] s) (F0 m 340 ls []) := by
  obtain ⟨hx, hb, hr, hml, hown, hts, hX, hbl, hlocks, hgv⟩ := id C0
  have hT : ∀ v ∈ T0, v.before #[Value.ref b] s = true := fun v h => hts v (tq_law_in v h)
  have hown : s.vm.findClass RL = some m.cls := hown
  have hA : ∀ q : Nat, s.heap.size ≤ q → A q := fun q h => by rw [hAe]; exact h
  have hbA : ¬ A b := by rw [hAe]; exact Nat.not_le.mpr hbl
  obtain ⟨xa, ka, ra, na, ia, ua, va, ca, za, pa, qa, aa, X, K, R, P, L, P2, L2, Tn, Ti, Tu, Tv, C, Z, q0, q1, q2, q3, q4, q5, S, LM, og, rfl, rfl, hok, jx, hrel, hP, hD⟩ := hI
  obtain ⟨bX, bK, bR, bP, bP2, bTn, bTi, bTu, bTv, bC, bZ, dz, e0, e4, e5, e1⟩ := id hok
  obtain ⟨w1, hw1⟩ : ∃ z, xs (i + 1).toNatClampNeg = z := ⟨_, rfl⟩
  obtain ⟨w2, hw2⟩ : ∃ z, xs (i + 2).toNatClampNeg = z := ⟨_, rfl⟩
  have hT1 : ∀ v ∈ T1, v.before #[Value.ref b] s = true := fun v h => (List.mem_append.mp h).elim (fun q => hT v q) (fun q => (List.mem_append.mp q).elim (fun q => hts v (lw_x0 v q)) (fun q => hts v (lw_x1 v q)))
  refine lv_aload_n hx hb dL_law_340 rfl (lv_at hl 3 rfl) ?_
  refine lv_aload_n hx hb dL_law_341 rfl (lv_at hl 4 rfl) ?_
  refine lv_iload hx hb dL_law_342 (lv_at hl 0 rfl) ?_
  refine lv_iconst (v := 1) hx hb dL_law_344 (by decide) ?_
  refine lv_iadd hx hb dL_law_345 ?_
  refine va_sld (i := i + 1) hx hb hX hbl hbA hS (lw_in hi (by decide)) dL_law_346 ?_
  refine tq_i (w := w1) hw1 ?_
  refine lv_aload_n hx hb dL_law_347 rfl (lv_at hl 4 rfl) ?_
  refine lv_iload hx hb dL_law_348 (lv_at hl 0 rfl) ?_
  refine lv_iconst (v := 2) hx hb dL_law_350 (by decide) ?_
  refine lv_iadd hx hb dL_law_351 ?_
  refine va_sld (i := i + 2) hx hb hX hbl hbA hS (lw_in hi (by decide)) dL_law_352 ?_
  refine tq_i (w := w2) hw2 ?_
  refine lv_aload_n hx hb dL_law_353 rfl (lv_at hl 1 rfl) ?_
  obtain ⟨r1, hc, _⟩ := t_X7_person pa qa P Tn q4 w1 w2 bP e4
  replace hP : va_P G vwCl (((oa, .inl (cA 2, 1, .inr (.inl og))) :: wX cA xa ka ra na ia ua va ca za pa qa X K R P L P2 L2 Tn Ti Tu Tv C Z q0 q1 q2 q3 q4 q5) ++ wM cA aa S LM) H := tw_P wl_p hP
  replace hD : va_D A (((oa, .inl (cA 2, 1, .inr (.inl og))) :: wX cA xa ka ra na ia ua va ca za pa qa X K R P L P2 L2 Tn Ti Tu Tv C Z q0 q1 q2 q3 q4 q5) ++ wM cA aa S LM) := tw_D wl_p hD
  have hG : GoodIn T1 (va_wsS RL 39 yL_person (.codeWith yL_person cL_person 5 (some .int) [(0, 10, 13, 13), (0, 10, 17, 15)] :: T1)) := by
    have key : ∀ v ∈ va_wsS RL 39 yL_person (.codeWith yL_person cL_person 5 (some .int) [(0, 10, 13, 13), (0, 10, 17, 15)] :: T1), v ∈ T1 := by
      intro v hv
      simp only [va_wsS, List.cons_append, List.nil_append, List.mem_cons] at hv
      rcases hv with rfl | rfl | rfl | rfl | hv
      · exact tq_T1 kw_28_8
      · exact tq_T1 kw_28_9
      · exact tq_T1 kw_28_10
      · exact tq_T1 kw_28_11
      · exact hv
    exact fun v hv => ⟨key v hv, good_of_word (tq_good1 v (key v hv))⟩
  refine tw_cim (wl_id (a := (oa, .inl (cA 2, 1, .inr (.inl og))) :: wX cA xa ka ra na ia ua va ca za pa qa X K R P L P2 L2 Tn Ti Tu Tv C Z q0 q1 q2 q3 q4 q5) (b := wM cA aa S LM)) hP hD hS hA (vx_runSW (As := [.ref (xa 0), .int w1, .int w2, .ref oa]) (rest := []) ⟨hx, hb, hml, hown, hT1⟩ (c_L_person l hst G cA H.size xa ka ra na ia ua va ca za pa qa X K R P L P2 L2 Tn Ti Tu Tv C Z q0 q1 q2 q3 q4 q5 oa og w1 w2 sP sQ r1 hc) (vx_cwSW 4 hT1 hG rfl rfl rfl (by decide +kernel) ⟨Nat.le_of_ble_eq_true rfl, Nat.le_of_ble_eq_true rfl⟩) (tw_pre3 wl_id hP hD hK hN hS hA hXx) rfl rfl hl.1 rfl (lv_room (Nat.le_of_ble_eq_true rfl)) dL_law_354 hfit) (fun r2 og H locs _ hP hD hS => ?_)
  replace hP : va_P G vwCl (wX cA xa ka ra na ia ua va ca za pa qa X K R P L P2 L2 Tn Ti Tu Tv C Z q0 q1 q2 q3 q4 q5 ++ (wM cA aa S LM ++ [(oa, .inl (cA 2, 1, .inr (.inl og)))])) H := tw_P wl_p.symm hP
  replace hD : va_D A (wX cA xa ka ra na ia ua va ca za pa qa X K R P L P2 L2 Tn Ti Tu Tv C Z q0 q1 q2 q3 q4 q5 ++ (wM cA aa S LM ++ [(oa, .inl (cA 2, 1, .inr (.inl og)))])) := tw_D wl_p.symm hD
  refine lv_istore (lv' := [(5, .int r2), (4, .int i), (3, .ref oa), (2, .ref (aa 0)), (1, .ref (xa 0)), (0, .ref b)]) hx hb dL_law_357 hl (by decide) rfl (fun ls hl => ?_)
  refine lv_aload_n hx hb dL_law_359 rfl (lv_at hl 3 rfl) ?_
  refine lv_aload_n hx hb dL_law_360 rfl (lv_at hl 5 rfl) ?_
  refine lv_iload hx hb dL_law_361 (lv_at hl 1 rfl) ?_
  refine lv_iconst (v := 1) hx hb dL_law_363 (by decide) ?_
  refine lv_iadd hx hb dL_law_364 ?_
  refine va_sld (i := i + 1) hx hb hX hbl hbA hS (lw_in hi (by decide)) dL_law_365 ?_
  refine tq_i (w := w1) hw1 ?_
  refine lv_aload_n hx hb dL_law_366 rfl (lv_at hl 5 rfl) ?_
  refine lv_iload hx hb dL_law_367 (lv_at hl 1 rfl) ?_
  refine lv_iconst (v := 2) hx hb dL_law_369 (by decide) ?_
  refine lv_iadd hx hb dL_law_370 ?_
  refine va_sld (i := i + 2) hx hb hX hbl hbA hS (lw_in hi (by decide)) dL_law_371 ?_
  refine tq_i (w := w2) hw2 ?_
  obtain ⟨⟨r3, S_4⟩, hc2, hq⟩ := (Q_person S w1 w2 jx)
  replace hP : va_P G vwCl (wM cA aa S LM ++ (wX cA xa ka ra na ia ua va ca za pa qa X K R P L P2 L2 Tn Ti Tu Tv C Z q0 q1 q2 q3 q4 q5 ++ [(oa, .inl (cA 2, 1, .inr (.inl og)))])) H := tw_P wl_rot hP
  replace hD : va_D A (wM cA aa S LM ++ (wX cA xa ka ra na ia ua va ca za pa qa X K R P L P2 L2 Tn Ti Tu Tv C Z q0 q1 q2 q3 q4 q5 ++ [(oa, .inl (cA 2, 1, .inr (.inl og)))])) := tw_D wl_rot hD
  refine lw_ci (As := [.int w1, .int w2]) (rest := []) hP hD hS hA hK hN ⟨hx, hb, hml, hown, hT⟩ (c_X8_person l G cA H.size aa S LM w1 w2 r3 S_4 hc2) (cwV 2 hT (tq_gV kw_29_8 kw_29_9 kw_29_10 kw_1_5 kw_29_11) rfl rfl rfl dkdV_yX8_person_2 ⟨Nat.le_of_ble_eq_true rfl, Nat.le_of_ble_eq_true rfl⟩) (wM_rec hK hP) rfl hl.1 rfl (lv_room (Nat.le_of_ble_eq_true rfl)) dL_law_372 hfit (fun _ _ H locs z9 hP hD hS => ?_)
  have z9 := z9.symm
  subst z9
  replace hP : va_P G vwCl (wX cA xa ka ra na ia ua va ca za pa qa X K R P L P2 L2 Tn Ti Tu Tv C Z q0 q1 q2 q3 q4 q5 ++ (wM cA aa S_4 LM ++ [(oa, .inl (cA 2, 1, .inr (.inl og)))])) H := tw_P wl_rot hP
  replace hD : va_D A (wX cA xa ka ra na ia ua va ca za pa qa X K R P L P2 L2 Tn Ti Tu Tv C Z q0 q1 q2 q3 q4 q5 ++ (wM cA aa S_4 LM ++ [(oa, .inl (cA 2, 1, .inr (.inl og)))])) := tw_D wl_rot hD
  refine lv_istore (lv' := [(6, .int r3), (5, .int r2), (4, .int i), (3, .ref oa), (2, .ref (aa 0)), (1, .ref (xa 0)), (0, .ref b)]) hx hb dL_law_375 hl (by decide) rfl (fun ls hl => ?_)
  refine lv_goto (tgt := 1217) hx hb dL_law_377 (by decide) ?_
  refine W.widen (k := kc + 2) (n := ks + 12) (by show kc + 1 ≤ kc + 2; omega) (by show ks + 6 ≤ ks + 12; omega) ?_
  exact hk H locs ls ⟨xa, ka, ra, na, ia, ua, va, ca, za, pa, qa, aa, X, K, R, P, L, P2, L2, Tn, Ti, Tu, Tv, C, Z, q0, q1, q2, q3, q4, q5, S_4, LM, og, rfl, rfl, ⟨bX, bK, bR, bP, bP2, bTn, bTi, bTu, bTv, bC, bZ, dz, e0, e4, e5, e1⟩, hq.1, E_person hok jx hrel hc2, hP, hD⟩ hS (lv_sub hl [2, 3, 4, 5, 6] rfl)
