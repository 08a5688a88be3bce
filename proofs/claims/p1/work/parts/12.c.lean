set_option maxHeartbeats 4000000 in
set_option maxRecDepth 100000 in
theorem c_X7_startTrial (l : Launch) (G : va_G) (cA : Nat → ClassId) (sz : Nat) (h0 : Nat) (fs : List Value) (t2 : Nat) (t0 : Nat) (ts2 : List Value) (c8 : Nat) (c9 : Nat) (c10 : Nat) (c11 : Nat) (c12 : Nat) (c13 : Nat) (c14 : Nat) (c15 : Nat) (c16 : Nat) (c17 : Nat) (cf8 : Nat → Int32) (cf9 : Nat → Int32) (cf10 : Nat → Int32) (cf11 : Nat → Int32) (cf12 : Nat → Int32) (cf13 : Nat → Int32) (cf14 : Nat → Int32) (cf15 : Nat → Int32) (cf16 : Nat → Int32) (cf17 : Nat → Int32) (ts0 : List Value) (pa : Nat) (a8 : Nat) (a9 : Nat) (a10 : Nat) (a11 : Nat) (a12 : Nat) (a13 : Nat) (a14 : Nat) (a15 : Nat) (a16 : Nat) (a17 : Nat) (af8 : Nat → Int32) (af9 : Nat → Int32) (af10 : Nat → Int32) (af11 : Nat → Int32) (af12 : Nat → Int32) (af13 : Nat → Int32) (af14 : Nat → Int32) (af15 : Nat → Int32) (af16 : Nat → Int32) (af17 : Nat → Int32) (hf : fh fs 12 [(5, .ref t2), (2, .ref t0)]) (ht2 : fh ts2 20 [(8, .ref c8), (9, .ref c9), (10, .ref c10), (11, .ref c11), (12, .ref c12), (13, .ref c13), (14, .ref c14), (15, .ref c15), (16, .ref c16), (17, .ref c17)]) (ht0 : fh ts0 20 [(0, .int 0), (1, .int 0), (2, .int 0), (3, .int 0), (4, .int 0), (19, .ref pa), (8, .ref a8), (9, .ref a9), (10, .ref a10), (11, .ref a11), (12, .ref a12), (13, .ref a13), (14, .ref a14), (15, .ref a15), (16, .ref a16), (17, .ref a17)]) : Met l yX7_startTrial (.code yX7_startTrial cX7_startTrial 1 none :: T0) ({ frames := 2, cells := 0, slots := 0, locals := 61 }) (tqP G cA [.ref h0] [(h0, .inr (7, fs)), (t2, .inr (6, ts2)), (c8, .inl (cA 0, 6, .inl cf8)), (c9, .inl (cA 0, 6, .inl cf9)), (c10, .inl (cA 0, 6, .inl cf10)), (c11, .inl (cA 0, 6, .inl cf11)), (c12, .inl (cA 0, 10, .inl cf12)), (c13, .inl (cA 0, 10, .inl cf13)), (c14, .inl (cA 0, 10, .inl cf14)), (c15, .inl (cA 0, 50, .inl cf15)), (c16, .inl (cA 0, 5, .inl cf16)), (c17, .inl (cA 0, 5, .inl cf17)), (t0, .inr (6, ts0)), (a8, .inl (cA 0, 6, .inl af8)), (a9, .inl (cA 0, 6, .inl af9)), (a10, .inl (cA 0, 6, .inl af10)), (a11, .inl (cA 0, 6, .inl af11)), (a12, .inl (cA 0, 10, .inl af12)), (a13, .inl (cA 0, 10, .inl af13)), (a14, .inl (cA 0, 10, .inl af14)), (a15, .inl (cA 0, 50, .inl af15)), (a16, .inl (cA 0, 5, .inl af16)), (a17, .inl (cA 0, 5, .inl af17))] sz) (tqQv G cA (fun (u : List Value × (Nat → Int32) × (Nat → Int32) × (Nat → Int32) × (Nat → Int32) × (Nat → Int32) × (Nat → Int32) × (Nat → Int32) × (Nat → Int32) × (Nat → Int32) × (Nat → Int32)) => fo ts2 u.1 [7, 6, 5, 4, 3, 2, 1, 0, 19] ∧ fh u.1 20 [(7, .int 1), (6, .int 1), (5, .int 0), (4, .int 0), (3, .int 0), (2, .int 0), (1, .int 0), (0, .int 0), (19, .ref pa)]) (fun (u : List Value × (Nat → Int32) × (Nat → Int32) × (Nat → Int32) × (Nat → Int32) × (Nat → Int32) × (Nat → Int32) × (Nat → Int32) × (Nat → Int32) × (Nat → Int32) × (Nat → Int32)) => [(h0, .inr (7, fs)), (t2, .inr (6, u.1)), (c8, .inl (cA 0, 6, .inl u.2.1)), (c9, .inl (cA 0, 6, .inl u.2.2.1)), (c10, .inl (cA 0, 6, .inl u.2.2.2.1)), (c11, .inl (cA 0, 6, .inl u.2.2.2.2.1)), (c12, .inl (cA 0, 10, .inl u.2.2.2.2.2.1)), (c13, .inl (cA 0, 10, .inl u.2.2.2.2.2.2.1)), (c14, .inl (cA 0, 10, .inl u.2.2.2.2.2.2.2.1)), (c15, .inl (cA 0, 50, .inl u.2.2.2.2.2.2.2.2.1)), (c16, .inl (cA 0, 5, .inl u.2.2.2.2.2.2.2.2.2.1)), (c17, .inl (cA 0, 5, .inl u.2.2.2.2.2.2.2.2.2.2)), (t0, .inr (6, ts0)), (a8, .inl (cA 0, 6, .inl af8)), (a9, .inl (cA 0, 6, .inl af9)), (a10, .inl (cA 0, 6, .inl af10)), (a11, .inl (cA 0, 6, .inl af11)), (a12, .inl (cA 0, 10, .inl af12)), (a13, .inl (cA 0, 10, .inl af13)), (a14, .inl (cA 0, 10, .inl af14)), (a15, .inl (cA 0, 50, .inl af15)), (a16, .inl (cA 0, 5, .inl af16)), (a17, .inl (cA 0, 5, .inl af17))]) (va_A [(h0, .inr (7, fs)), (t2, .inr (6, ts2)), (c8, .inl (cA 0, 6, .inl cf8)), (c9, .inl (cA 0, 6, .inl cf9)), (c10, .inl (cA 0, 6, .inl cf10)), (c11, .inl (cA 0, 6, .inl cf11)), (c12, .inl (cA 0, 10, .inl cf12)), (c13, .inl (cA 0, 10, .inl cf13)), (c14, .inl (cA 0, 10, .inl cf14)), (c15, .inl (cA 0, 50, .inl cf15)), (c16, .inl (cA 0, 5, .inl cf16)), (c17, .inl (cA 0, 5, .inl cf17)), (t0, .inr (6, ts0)), (a8, .inl (cA 0, 6, .inl af8)), (a9, .inl (cA 0, 6, .inl af9)), (a10, .inl (cA 0, 6, .inl af10)), (a11, .inl (cA 0, 6, .inl af11)), (a12, .inl (cA 0, 10, .inl af12)), (a13, .inl (cA 0, 10, .inl af13)), (a14, .inl (cA 0, 10, .inl af14)), (a15, .inl (cA 0, 50, .inl af15)), (a16, .inl (cA 0, 5, .inl af16)), (a17, .inl (cA 0, 5, .inl af17))] sz)) 0 0 (va_A [(h0, .inr (7, fs)), (t2, .inr (6, ts2)), (c8, .inl (cA 0, 6, .inl cf8)), (c9, .inl (cA 0, 6, .inl cf9)), (c10, .inl (cA 0, 6, .inl cf10)), (c11, .inl (cA 0, 6, .inl cf11)), (c12, .inl (cA 0, 10, .inl cf12)), (c13, .inl (cA 0, 10, .inl cf13)), (c14, .inl (cA 0, 10, .inl cf14)), (c15, .inl (cA 0, 50, .inl cf15)), (c16, .inl (cA 0, 5, .inl cf16)), (c17, .inl (cA 0, 5, .inl cf17)), (t0, .inr (6, ts0)), (a8, .inl (cA 0, 6, .inl af8)), (a9, .inl (cA 0, 6, .inl af9)), (a10, .inl (cA 0, 6, .inl af10)), (a11, .inl (cA 0, 6, .inl af11)), (a12, .inl (cA 0, 10, .inl af12)), (a13, .inl (cA 0, 10, .inl af13)), (a14, .inl (cA 0, 10, .inl af14)), (a15, .inl (cA 0, 50, .inl af15)), (a16, .inl (cA 0, 5, .inl af16)), (a17, .inl (cA 0, 5, .inl af17))] sz) := by
  refine Met.ofW (cc := cX7_startTrial) (maxL := 1) (ret := none) (by decide) rfl ?_
  intro p e s m args below meth c s₁ B hml hv
  obtain ⟨rfl, hsz, hP, hK, hD0, hN⟩ := hv
  have hx := B.exec
  have hb := B.bytes
  have hr := B.returns
  have hts := atoms_spec (ws := .code yX7_startTrial cX7_startTrial 1 none :: T0) B.pre
  have hT : ∀ w ∈ T0, w.before _ s = true := fun w h => hts w (List.mem_cons_of_mem _ h)
  have hown : s.vm.findClass RX7 = some m.cls := findClass_of_methodNamed B.named
  have hlocks := B.notSynchronized
  subst hsz
  have hD := hD0.self (sz := s.heap.size)
  generalize hAe : va_A [(h0, .inr (7, fs)), (t2, .inr (6, ts2)), (c8, .inl (cA 0, 6, .inl cf8)), (c9, .inl (cA 0, 6, .inl cf9)), (c10, .inl (cA 0, 6, .inl cf10)), (c11, .inl (cA 0, 6, .inl cf11)), (c12, .inl (cA 0, 10, .inl cf12)), (c13, .inl (cA 0, 10, .inl cf13)), (c14, .inl (cA 0, 10, .inl cf14)), (c15, .inl (cA 0, 50, .inl cf15)), (c16, .inl (cA 0, 5, .inl cf16)), (c17, .inl (cA 0, 5, .inl cf17)), (t0, .inr (6, ts0)), (a8, .inl (cA 0, 6, .inl af8)), (a9, .inl (cA 0, 6, .inl af9)), (a10, .inl (cA 0, 6, .inl af10)), (a11, .inl (cA 0, 6, .inl af11)), (a12, .inl (cA 0, 10, .inl af12)), (a13, .inl (cA 0, 10, .inl af13)), (a14, .inl (cA 0, 10, .inl af14)), (a15, .inl (cA 0, 50, .inl af15)), (a16, .inl (cA 0, 5, .inl af16)), (a17, .inl (cA 0, 5, .inl af17))] s.heap.size = A at hD ⊢
  have hA : ∀ q : Nat, s.heap.size ≤ q → A q := fun q h => by rw [← hAe]; exact Or.inr h
  have hS : va_S A s.heap s.heap [] := va_S.rf
  have hl := lv_entry ([.ref h0]) (n := 1) (Nat.le_of_ble_eq_true rfl)
  rw [lg_entry_eq]
  generalize (lg_sl ([.ref h0]) ++ List.replicate (1 - (lg_sl ([.ref h0])).length) Slot.unset).toArray = ls at hl ⊢
  have hl : lv_has ls 1 [(0, .ref h0)] := hl
  obtain ⟨H, hH⟩ : ∃ z, z = s.heap := ⟨_, rfl⟩
  rw [← hH] at hP
  have hS : va_S A s.heap H [] := by rw [hH]; exact hS
  suffices hgo : W p l e _ s m _ below meth c H [] 0 0 _ _ by rw [hH] at hgo; exact hgo
  have hO := hN.2.2.2.2
  have ho_hf := fo_refl fs
  have ho_ht2 := fo_refl ts2
  have ho_ht0 := fo_refl ts0
  refine lv_aload_n hx hb dX7_startTrial_0 rfl (lv_at hl 0 rfl) ?_
  refine va_get (D := G) (ci := 7) (v := .ref t2) (C := RX7) (T := TX7) (N := 12) hx hb hT ku_7 hown hK hP 0 rfl rfl 5 (by decide) (hT _ kw_2_3) (fun _ h9 => h9) (fh_at hf 0 rfl) dX7_startTrial_1 ?_
  refine lv_aload_n hx hb dX7_startTrial_4 rfl (lv_at hl 0 rfl) ?_
  refine va_get (D := G) (ci := 7) (v := .ref t0) (C := RX7) (T := TX7) (N := 12) hx hb hT ku_7 hown hK hP 0 rfl rfl 2 (by decide) (hT _ kw_2_0) (fun _ h9 => h9) (fh_at hf 1 rfl) dX7_startTrial_5 ?_
  refine tq_cv (wr := [(h0, .inr (7, fs))]) hP hD hS hA [1, 2, 3, 4, 5, 6, 7, 8, 9, 10, 11, 12, 13, 14, 15, 16, 17, 18, 19, 20, 21, 22] [0] rfl rfl (by decide) (by decide) (va_runV (As := [.ref t0]) (rest := []) ⟨hx, hb, hml, hown, hT⟩ (c_X6_copy l G cA H.size t2 t0 ts2 c8 c9 c10 c11 c12 c13 c14 c15 c16 c17 cf8 cf9 cf10 cf11 cf12 cf13 cf14 cf15 cf16 cf17 ts0 0 0 0 0 0 pa a8 a9 a10 a11 a12 a13 a14 a15 a16 a17 af8 af9 af10 af11 af12 af13 af14 af15 af16 af17 (fh_sub ht2 [0, 1, 2, 3, 4, 5, 6, 7, 8, 9] rfl) (fh_sub ht0 [0, 1, 2, 3, 4, 5, 6, 7, 8, 9, 10, 11, 12, 13, 14, 15] rfl)) (cwV 1 hT (tq_gV kw_38_10 kw_38_11 kw_38_12 kw_1_23 kw_38_13) rfl rfl rfl (by decide +kernel) ⟨Nat.le_of_ble_eq_true rfl, Nat.le_of_ble_eq_true rfl⟩) ⟨(tq_pre (isC := [1, 2, 3, 4, 5, 6, 7, 8, 9, 10, 11, 12, 13, 14, 15, 16, 17, 18, 19, 20, 21, 22]) hP hD hK hN rfl (by decide)).1, va_recv hK hP (ci := 6) (q0 := 1) rfl rfl, (tq_pre (isC := [1, 2, 3, 4, 5, 6, 7, 8, 9, 10, 11, 12, 13, 14, 15, 16, 17, 18, 19, 20, 21, 22]) hP hD hK hN rfl (by decide)).2⟩ rfl rfl hl.1 rfl (lv_room (Nat.le_of_ble_eq_true rfl)) dX7_startTrial_8 ⟨Nat.le_of_ble_eq_true rfl, Nat.le_of_ble_eq_true rfl⟩) (fun u101 H locs hw102 hP hD hS => ?_)
  refine W.widen (k := 0) (n := 0) (Nat.le_of_ble_eq_true rfl) (Nat.le_of_ble_eq_true rfl) ?_
  obtain ⟨g103, g104, g105, g106, g107, g108, g109, g110, g111, g112, g113⟩ := u101
  obtain ⟨ho114, hf115⟩ := hw102
  try dsimp only at hP hD ho114 hf115
  have hf115 := fh_app (fo_fh (l' := [(8, .ref c8), (9, .ref c9), (10, .ref c10), (11, .ref c11), (12, .ref c12), (13, .ref c13), (14, .ref c14), (15, .ref c15), (16, .ref c16), (17, .ref c17)]) ht2 ho114 rfl) hf115
  have ho116 := fo_mono (k2 := [4, 3, 2, 1, 0, 19]) (fo_trans ho_ht2 ho114) (by decide)
  have hf115 : fh g103 20 [(8, .ref c8), (9, .ref c9), (10, .ref c10), (11, .ref c11), (12, .ref c12), (13, .ref c13), (14, .ref c14), (15, .ref c15), (16, .ref c16), (17, .ref c17), (4, .int 0), (3, .int 0), (2, .int 0), (1, .int 0), (0, .int 0), (19, .ref pa)] := hf115
  have hP : va_P G vwCl [(h0, .inr (7, fs)), (t2, .inr (6, g103)), (c8, .inl (cA 0, 6, .inl g104)), (c9, .inl (cA 0, 6, .inl g105)), (c10, .inl (cA 0, 6, .inl g106)), (c11, .inl (cA 0, 6, .inl g107)), (c12, .inl (cA 0, 10, .inl g108)), (c13, .inl (cA 0, 10, .inl g109)), (c14, .inl (cA 0, 10, .inl g110)), (c15, .inl (cA 0, 50, .inl g111)), (c16, .inl (cA 0, 5, .inl g112)), (c17, .inl (cA 0, 5, .inl g113)), (t0, .inr (6, ts0)), (a8, .inl (cA 0, 6, .inl af8)), (a9, .inl (cA 0, 6, .inl af9)), (a10, .inl (cA 0, 6, .inl af10)), (a11, .inl (cA 0, 6, .inl af11)), (a12, .inl (cA 0, 10, .inl af12)), (a13, .inl (cA 0, 10, .inl af13)), (a14, .inl (cA 0, 10, .inl af14)), (a15, .inl (cA 0, 50, .inl af15)), (a16, .inl (cA 0, 5, .inl af16)), (a17, .inl (cA 0, 5, .inl af17))] H := hP
  have hD : va_D A [(h0, .inr (7, fs)), (t2, .inr (6, g103)), (c8, .inl (cA 0, 6, .inl g104)), (c9, .inl (cA 0, 6, .inl g105)), (c10, .inl (cA 0, 6, .inl g106)), (c11, .inl (cA 0, 6, .inl g107)), (c12, .inl (cA 0, 10, .inl g108)), (c13, .inl (cA 0, 10, .inl g109)), (c14, .inl (cA 0, 10, .inl g110)), (c15, .inl (cA 0, 50, .inl g111)), (c16, .inl (cA 0, 5, .inl g112)), (c17, .inl (cA 0, 5, .inl g113)), (t0, .inr (6, ts0)), (a8, .inl (cA 0, 6, .inl af8)), (a9, .inl (cA 0, 6, .inl af9)), (a10, .inl (cA 0, 6, .inl af10)), (a11, .inl (cA 0, 6, .inl af11)), (a12, .inl (cA 0, 10, .inl af12)), (a13, .inl (cA 0, 10, .inl af13)), (a14, .inl (cA 0, 10, .inl af14)), (a15, .inl (cA 0, 50, .inl af15)), (a16, .inl (cA 0, 5, .inl af16)), (a17, .inl (cA 0, 5, .inl af17))] := hD
  refine lv_aload_n hx hb dX7_startTrial_11 rfl (lv_at hl 0 rfl) ?_
  refine va_get (D := G) (ci := 7) (v := .ref t2) (C := RX7) (T := TX7) (N := 12) hx hb hT ku_7 hown hK hP 0 rfl rfl 5 (by decide) (hT _ kw_2_3) (fun _ h9 => h9) (fh_at hf 0 rfl) dX7_startTrial_12 ?_
  refine lv_iconst (v := 0) hx hb dX7_startTrial_15 (by decide) ?_
  refine va_put (D := G) (ci := 6) (v := .int 0) (ty := .boolean) (C := RX6) (T := TX6) (N := 20) hx hb hT ku_6 tyX6 tyX6_ok nmX6 hown hK hP hD hS 1 rfl rfl 5 (by decide) (hT _ kw_40_10) (fun _ h9 => h9) rfl (by decide +kernel) rfl rfl (fh_lt hf115 (by decide)) dX7_startTrial_16 (fun H locs hP hD hS => ?_)
  have hP : va_P G vwCl [(h0, .inr (7, fs)), (t2, .inr (6, (g103.set 5 (.int 0)))), (c8, .inl (cA 0, 6, .inl g104)), (c9, .inl (cA 0, 6, .inl g105)), (c10, .inl (cA 0, 6, .inl g106)), (c11, .inl (cA 0, 6, .inl g107)), (c12, .inl (cA 0, 10, .inl g108)), (c13, .inl (cA 0, 10, .inl g109)), (c14, .inl (cA 0, 10, .inl g110)), (c15, .inl (cA 0, 50, .inl g111)), (c16, .inl (cA 0, 5, .inl g112)), (c17, .inl (cA 0, 5, .inl g113)), (t0, .inr (6, ts0)), (a8, .inl (cA 0, 6, .inl af8)), (a9, .inl (cA 0, 6, .inl af9)), (a10, .inl (cA 0, 6, .inl af10)), (a11, .inl (cA 0, 6, .inl af11)), (a12, .inl (cA 0, 10, .inl af12)), (a13, .inl (cA 0, 10, .inl af13)), (a14, .inl (cA 0, 10, .inl af14)), (a15, .inl (cA 0, 50, .inl af15)), (a16, .inl (cA 0, 5, .inl af16)), (a17, .inl (cA 0, 5, .inl af17))] H := hP
  have hD : va_D A [(h0, .inr (7, fs)), (t2, .inr (6, (g103.set 5 (.int 0)))), (c8, .inl (cA 0, 6, .inl g104)), (c9, .inl (cA 0, 6, .inl g105)), (c10, .inl (cA 0, 6, .inl g106)), (c11, .inl (cA 0, 6, .inl g107)), (c12, .inl (cA 0, 10, .inl g108)), (c13, .inl (cA 0, 10, .inl g109)), (c14, .inl (cA 0, 10, .inl g110)), (c15, .inl (cA 0, 50, .inl g111)), (c16, .inl (cA 0, 5, .inl g112)), (c17, .inl (cA 0, 5, .inl g113)), (t0, .inr (6, ts0)), (a8, .inl (cA 0, 6, .inl af8)), (a9, .inl (cA 0, 6, .inl af9)), (a10, .inl (cA 0, 6, .inl af10)), (a11, .inl (cA 0, 6, .inl af11)), (a12, .inl (cA 0, 10, .inl af12)), (a13, .inl (cA 0, 10, .inl af13)), (a14, .inl (cA 0, 10, .inl af14)), (a15, .inl (cA 0, 50, .inl af15)), (a16, .inl (cA 0, 5, .inl af16)), (a17, .inl (cA 0, 5, .inl af17))] := hD
  have hf115 := fh_set (l' := [(5, .int 0), (8, .ref c8), (9, .ref c9), (10, .ref c10), (11, .ref c11), (12, .ref c12), (13, .ref c13), (14, .ref c14), (15, .ref c15), (16, .ref c16), (17, .ref c17), (4, .int 0), (3, .int 0), (2, .int 0), (1, .int 0), (0, .int 0), (19, .ref pa)]) hf115 5 (.int 0) (by decide) rfl
  have ho118 := fo_set ho116 5 (.int 0)
  generalize (g103.set 5 (.int 0)) = fs117 at hP hD hf115 ho118
  refine lv_aload_n hx hb dX7_startTrial_19 rfl (lv_at hl 0 rfl) ?_
  refine va_get (D := G) (ci := 7) (v := .ref t2) (C := RX7) (T := TX7) (N := 12) hx hb hT ku_7 hown hK hP 0 rfl rfl 5 (by decide) (hT _ kw_2_3) (fun _ h9 => h9) (fh_at hf 0 rfl) dX7_startTrial_20 ?_
  refine lv_iconst (v := 1) hx hb dX7_startTrial_23 (by decide) ?_
  refine va_put (D := G) (ci := 6) (v := .int 1) (ty := .boolean) (C := RX6) (T := TX6) (N := 20) hx hb hT ku_6 tyX6 tyX6_ok nmX6 hown hK hP hD hS 1 rfl rfl 6 (by decide) (hT _ kw_47_1) (fun _ h9 => h9) rfl (by decide +kernel) rfl rfl (fh_lt hf115 (by decide)) dX7_startTrial_24 (fun H locs hP hD hS => ?_)
  have hP : va_P G vwCl [(h0, .inr (7, fs)), (t2, .inr (6, (fs117.set 6 (.int 1)))), (c8, .inl (cA 0, 6, .inl g104)), (c9, .inl (cA 0, 6, .inl g105)), (c10, .inl (cA 0, 6, .inl g106)), (c11, .inl (cA 0, 6, .inl g107)), (c12, .inl (cA 0, 10, .inl g108)), (c13, .inl (cA 0, 10, .inl g109)), (c14, .inl (cA 0, 10, .inl g110)), (c15, .inl (cA 0, 50, .inl g111)), (c16, .inl (cA 0, 5, .inl g112)), (c17, .inl (cA 0, 5, .inl g113)), (t0, .inr (6, ts0)), (a8, .inl (cA 0, 6, .inl af8)), (a9, .inl (cA 0, 6, .inl af9)), (a10, .inl (cA 0, 6, .inl af10)), (a11, .inl (cA 0, 6, .inl af11)), (a12, .inl (cA 0, 10, .inl af12)), (a13, .inl (cA 0, 10, .inl af13)), (a14, .inl (cA 0, 10, .inl af14)), (a15, .inl (cA 0, 50, .inl af15)), (a16, .inl (cA 0, 5, .inl af16)), (a17, .inl (cA 0, 5, .inl af17))] H := hP
  have hD : va_D A [(h0, .inr (7, fs)), (t2, .inr (6, (fs117.set 6 (.int 1)))), (c8, .inl (cA 0, 6, .inl g104)), (c9, .inl (cA 0, 6, .inl g105)), (c10, .inl (cA 0, 6, .inl g106)), (c11, .inl (cA 0, 6, .inl g107)), (c12, .inl (cA 0, 10, .inl g108)), (c13, .inl (cA 0, 10, .inl g109)), (c14, .inl (cA 0, 10, .inl g110)), (c15, .inl (cA 0, 50, .inl g111)), (c16, .inl (cA 0, 5, .inl g112)), (c17, .inl (cA 0, 5, .inl g113)), (t0, .inr (6, ts0)), (a8, .inl (cA 0, 6, .inl af8)), (a9, .inl (cA 0, 6, .inl af9)), (a10, .inl (cA 0, 6, .inl af10)), (a11, .inl (cA 0, 6, .inl af11)), (a12, .inl (cA 0, 10, .inl af12)), (a13, .inl (cA 0, 10, .inl af13)), (a14, .inl (cA 0, 10, .inl af14)), (a15, .inl (cA 0, 50, .inl af15)), (a16, .inl (cA 0, 5, .inl af16)), (a17, .inl (cA 0, 5, .inl af17))] := hD
  have hf115 := fh_set (l' := [(6, .int 1), (5, .int 0), (8, .ref c8), (9, .ref c9), (10, .ref c10), (11, .ref c11), (12, .ref c12), (13, .ref c13), (14, .ref c14), (15, .ref c15), (16, .ref c16), (17, .ref c17), (4, .int 0), (3, .int 0), (2, .int 0), (1, .int 0), (0, .int 0), (19, .ref pa)]) hf115 6 (.int 1) (by decide) rfl
  have ho120 := fo_set ho118 6 (.int 1)
  generalize (fs117.set 6 (.int 1)) = fs119 at hP hD hf115 ho120
  refine lv_aload_n hx hb dX7_startTrial_27 rfl (lv_at hl 0 rfl) ?_
  refine va_get (D := G) (ci := 7) (v := .ref t2) (C := RX7) (T := TX7) (N := 12) hx hb hT ku_7 hown hK hP 0 rfl rfl 5 (by decide) (hT _ kw_2_3) (fun _ h9 => h9) (fh_at hf 0 rfl) dX7_startTrial_28 ?_
  refine lv_iconst (v := 1) hx hb dX7_startTrial_31 (by decide) ?_
  refine va_put (D := G) (ci := 6) (v := .int 1) (ty := .boolean) (C := RX6) (T := TX6) (N := 20) hx hb hT ku_6 tyX6 tyX6_ok nmX6 hown hK hP hD hS 1 rfl rfl 7 (by decide) (hT _ kw_47_2) (fun _ h9 => h9) rfl (by decide +kernel) rfl rfl (fh_lt hf115 (by decide)) dX7_startTrial_32 (fun H locs hP hD hS => ?_)
  have hP : va_P G vwCl [(h0, .inr (7, fs)), (t2, .inr (6, (fs119.set 7 (.int 1)))), (c8, .inl (cA 0, 6, .inl g104)), (c9, .inl (cA 0, 6, .inl g105)), (c10, .inl (cA 0, 6, .inl g106)), (c11, .inl (cA 0, 6, .inl g107)), (c12, .inl (cA 0, 10, .inl g108)), (c13, .inl (cA 0, 10, .inl g109)), (c14, .inl (cA 0, 10, .inl g110)), (c15, .inl (cA 0, 50, .inl g111)), (c16, .inl (cA 0, 5, .inl g112)), (c17, .inl (cA 0, 5, .inl g113)), (t0, .inr (6, ts0)), (a8, .inl (cA 0, 6, .inl af8)), (a9, .inl (cA 0, 6, .inl af9)), (a10, .inl (cA 0, 6, .inl af10)), (a11, .inl (cA 0, 6, .inl af11)), (a12, .inl (cA 0, 10, .inl af12)), (a13, .inl (cA 0, 10, .inl af13)), (a14, .inl (cA 0, 10, .inl af14)), (a15, .inl (cA 0, 50, .inl af15)), (a16, .inl (cA 0, 5, .inl af16)), (a17, .inl (cA 0, 5, .inl af17))] H := hP
  have hD : va_D A [(h0, .inr (7, fs)), (t2, .inr (6, (fs119.set 7 (.int 1)))), (c8, .inl (cA 0, 6, .inl g104)), (c9, .inl (cA 0, 6, .inl g105)), (c10, .inl (cA 0, 6, .inl g106)), (c11, .inl (cA 0, 6, .inl g107)), (c12, .inl (cA 0, 10, .inl g108)), (c13, .inl (cA 0, 10, .inl g109)), (c14, .inl (cA 0, 10, .inl g110)), (c15, .inl (cA 0, 50, .inl g111)), (c16, .inl (cA 0, 5, .inl g112)), (c17, .inl (cA 0, 5, .inl g113)), (t0, .inr (6, ts0)), (a8, .inl (cA 0, 6, .inl af8)), (a9, .inl (cA 0, 6, .inl af9)), (a10, .inl (cA 0, 6, .inl af10)), (a11, .inl (cA 0, 6, .inl af11)), (a12, .inl (cA 0, 10, .inl af12)), (a13, .inl (cA 0, 10, .inl af13)), (a14, .inl (cA 0, 10, .inl af14)), (a15, .inl (cA 0, 50, .inl af15)), (a16, .inl (cA 0, 5, .inl af16)), (a17, .inl (cA 0, 5, .inl af17))] := hD
  have hf115 := fh_set (l' := [(7, .int 1), (6, .int 1), (5, .int 0), (8, .ref c8), (9, .ref c9), (10, .ref c10), (11, .ref c11), (12, .ref c12), (13, .ref c13), (14, .ref c14), (15, .ref c15), (16, .ref c16), (17, .ref c17), (4, .int 0), (3, .int 0), (2, .int 0), (1, .int 0), (0, .int 0), (19, .ref pa)]) hf115 7 (.int 1) (by decide) rfl
  have ho122 := fo_set ho120 7 (.int 1)
  generalize (fs119.set 7 (.int 1)) = fs121 at hP hD hf115 ho122
  have qho122 := fo_mono (k2 := [7, 6, 5, 4, 3, 2, 1, 0, 19]) ho122 (by decide)
  exact W.vret hx hb hr (fun t ht hW => ⟨⟨(fs121, g104, g105, g106, g107, g108, g109, g110, g111, g112, g113), rfl, ⟨qho122, fh_sub hf115 [0, 1, 2, 13, 14, 15, 16, 17, 18] rfl⟩, by rw [ht]; exact hP, hD⟩, hS.F ht⟩) hS.2.2 dX7_startTrial_35

set_option maxHeartbeats 4000000 in
set_option maxRecDepth 100000 in
theorem c_X7_liftsOfTrial_0 (l : Launch) (G : va_G) (cA : Nat → ClassId) (sz : Nat) (h0 : Nat) (fs : List Value) (t2 : Nat) (t0 : Nat) (ts2 : List Value) (pa : Nat) (ts0 : List Value) (ps : List Value) (hf : fh fs 12 [(5, .ref t2), (2, .ref t0)]) (ht2 : fh ts2 20 [(0, .int 0), (1, .int 0), (19, .ref pa)]) (ht0 : fh ts0 20 [(1, .int 0)]) (hp : fh ps 19 [(0, .int 0), (1, .int 0), (2, .int 0)]) : Met l yX7_liftsOfTrial (.code yX7_liftsOfTrial cX7_liftsOfTrial 1 (some .int) :: T0) ({ frames := 2, cells := 0, slots := 0, locals := 41 }) (tqP G cA [.ref h0] [(h0, .inr (7, fs)), (t2, .inr (6, ts2)), (t0, .inr (6, ts0)), (pa, .inr (2, ps))] sz) (tqQi G cA (fun (r : Int32) (u : Unit) => r = 0) (fun (u : Unit) => [(h0, .inr (7, fs)), (t2, .inr (6, ts2)), (t0, .inr (6, ts0)), (pa, .inr (2, ps))]) (va_A [(h0, .inr (7, fs)), (t2, .inr (6, ts2)), (t0, .inr (6, ts0)), (pa, .inr (2, ps))] sz)) 0 0 (va_A [(h0, .inr (7, fs)), (t2, .inr (6, ts2)), (t0, .inr (6, ts0)), (pa, .inr (2, ps))] sz) := by
  refine Met.ofW (cc := cX7_liftsOfTrial) (maxL := 1) (ret := (some .int)) (by decide) rfl ?_
  intro p e s m args below meth c s₁ B hml hv
  obtain ⟨rfl, hsz, hP, hK, hD0, hN⟩ := hv
  have hx := B.exec
  have hb := B.bytes
  have hr := B.returns
  have hts := atoms_spec (ws := .code yX7_liftsOfTrial cX7_liftsOfTrial 1 (some .int) :: T0) B.pre
  have hT : ∀ w ∈ T0, w.before _ s = true := fun w h => hts w (List.mem_cons_of_mem _ h)
  have hown : s.vm.findClass RX7 = some m.cls := findClass_of_methodNamed B.named
  have hlocks := B.notSynchronized
  subst hsz
  have hD := hD0.self (sz := s.heap.size)
  generalize hAe : va_A [(h0, .inr (7, fs)), (t2, .inr (6, ts2)), (t0, .inr (6, ts0)), (pa, .inr (2, ps))] s.heap.size = A at hD ⊢
  have hA : ∀ q : Nat, s.heap.size ≤ q → A q := fun q h => by rw [← hAe]; exact Or.inr h
  have hS : va_S A s.heap s.heap [] := va_S.rf
  have hl := lv_entry ([.ref h0]) (n := 1) (Nat.le_of_ble_eq_true rfl)
  rw [lg_entry_eq]
  generalize (lg_sl ([.ref h0]) ++ List.replicate (1 - (lg_sl ([.ref h0])).length) Slot.unset).toArray = ls at hl ⊢
  have hl : lv_has ls 1 [(0, .ref h0)] := hl
  obtain ⟨H, hH⟩ : ∃ z, z = s.heap := ⟨_, rfl⟩
  rw [← hH] at hP
  have hS : va_S A s.heap H [] := by rw [hH]; exact hS
  suffices hgo : W p l e _ s m _ below meth c H [] 0 0 _ _ by rw [hH] at hgo; exact hgo
  have hO := hN.2.2.2.2
  have ho_hf := fo_refl fs
  have ho_ht2 := fo_refl ts2
  have ho_ht0 := fo_refl ts0
  have ho_hp := fo_refl ps
  refine lv_aload_n hx hb dX7_liftsOfTrial_0 rfl (lv_at hl 0 rfl) ?_
  refine va_get (D := G) (ci := 7) (v := .ref t2) (C := RX7) (T := TX7) (N := 12) hx hb hT ku_7 hown hK hP 0 rfl rfl 5 (by decide) (hT _ kw_2_3) (fun _ h9 => h9) (fh_at hf 0 rfl) dX7_liftsOfTrial_1 ?_
  refine tq_cv (wr := [(h0, .inr (7, fs)), (t0, .inr (6, ts0))]) hP hD hS hA [1, 3] [0, 2] rfl rfl (by decide) (by decide) (va_runV (As := []) (rest := []) ⟨hx, hb, hml, hown, hT⟩ (c_X6_runToEnd_0 l G cA H.size t2 ts2 pa ps (fh_sub ht2 [2, 0] rfl) (fh_sub hp [0, 1, 2] rfl)) (cwV 0 hT (tq_gV kw_47_14 kw_47_15 kw_47_16 kw_1_23 kw_47_17) rfl rfl rfl (by decide +kernel) ⟨Nat.le_of_ble_eq_true rfl, Nat.le_of_ble_eq_true rfl⟩) ⟨(tq_pre (isC := [1, 3]) hP hD hK hN rfl (by decide)).1, va_recv hK hP (ci := 6) (q0 := 1) rfl rfl, (tq_pre (isC := [1, 3]) hP hD hK hN rfl (by decide)).2⟩ rfl rfl hl.1 rfl (lv_room (Nat.le_of_ble_eq_true rfl)) dX7_liftsOfTrial_4 ⟨Nat.le_of_ble_eq_true rfl, Nat.le_of_ble_eq_true rfl⟩) (fun u101 H locs hw102 hP hD hS => ?_)
  refine W.widen (k := 0) (n := 0) (Nat.le_of_ble_eq_true rfl) (Nat.le_of_ble_eq_true rfl) ?_
  have hP : va_P G vwCl [(h0, .inr (7, fs)), (t0, .inr (6, ts0)), (t2, .inr (6, ts2)), (pa, .inr (2, ps))] H := hP
  have hD : va_D A [(h0, .inr (7, fs)), (t0, .inr (6, ts0)), (t2, .inr (6, ts2)), (pa, .inr (2, ps))] := hD
  refine lv_aload_n hx hb dX7_liftsOfTrial_7 rfl (lv_at hl 0 rfl) ?_
  refine va_get (D := G) (ci := 7) (v := .ref t2) (C := RX7) (T := TX7) (N := 12) hx hb hT ku_7 hown hK hP 0 rfl rfl 5 (by decide) (hT _ kw_2_3) (fun _ h9 => h9) (fh_at hf 0 rfl) dX7_liftsOfTrial_8 ?_
  refine va_get (D := G) (ci := 6) (v := .int 0) (C := RX6) (T := TX6) (N := 20) hx hb hT ku_6 hown hK hP 2 rfl rfl 1 (by decide) (hT _ kw_46_20) (fun _ h9 => h9) (fh_at ht2 1 rfl) dX7_liftsOfTrial_11 ?_
  refine lv_aload_n hx hb dX7_liftsOfTrial_14 rfl (lv_at hl 0 rfl) ?_
  refine va_get (D := G) (ci := 7) (v := .ref t0) (C := RX7) (T := TX7) (N := 12) hx hb hT ku_7 hown hK hP 0 rfl rfl 2 (by decide) (hT _ kw_2_0) (fun _ h9 => h9) (fh_at hf 1 rfl) dX7_liftsOfTrial_15 ?_
  refine va_get (D := G) (ci := 6) (v := .int 0) (C := RX6) (T := TX6) (N := 20) hx hb hT ku_6 hown hK hP 1 rfl rfl 1 (by decide) (hT _ kw_46_20) (fun _ h9 => h9) (fh_at ht0 0 rfl) dX7_liftsOfTrial_18 ?_
  refine lv_isub hx hb dX7_liftsOfTrial_21 ?_
  refine tq_i (w := 0) (by decide) ?_
  have hP : va_P G vwCl [(h0, .inr (7, fs)), (t2, .inr (6, ts2)), (t0, .inr (6, ts0)), (pa, .inr (2, ps))] H := hP.sub [0, 2, 1, 3] rfl
  have hD : va_D A [(h0, .inr (7, fs)), (t2, .inr (6, ts2)), (t0, .inr (6, ts0)), (pa, .inr (2, ps))] := hD.sub [0, 2, 1, 3] (by decide) rfl
  exact W.iret (v := 0) hx hb hr (fun t ht hW => ⟨⟨0, (), rfl, rfl, by rw [ht]; exact hP, hD⟩, hS.F ht⟩) hS.2.2 dX7_liftsOfTrial_22

set_option maxHeartbeats 4000000 in
set_option maxRecDepth 100000 in
theorem c_X7_isPlace (l : Launch) (G : va_G) (cA : Nat → ClassId) (sz : Nat) (h0 : Nat) (x : Int32) (fs : List Value) (pa : Nat) (ps : List Value) (hf : fh fs 12 [(1, .ref pa)]) (hp : fh ps 19 [(0, .int 0)]) : Met l yX7_isPlace (.code yX7_isPlace cX7_isPlace 2 (some .boolean) :: T0) ({ frames := 0, cells := 0, slots := 0, locals := 0 }) (tqP G cA [.ref h0, .int x] [(h0, .inr (7, fs)), (pa, .inr (2, ps))] sz) (tqQi G cA (fun (r : Int32) (u : Unit) => r = 0) (fun (u : Unit) => [(h0, .inr (7, fs)), (pa, .inr (2, ps))]) (va_A [(h0, .inr (7, fs)), (pa, .inr (2, ps))] sz)) 0 0 (va_A [(h0, .inr (7, fs)), (pa, .inr (2, ps))] sz) := by
  refine Met.ofW (cc := cX7_isPlace) (maxL := 2) (ret := (some .boolean)) (by decide) rfl ?_
  intro p e s m args below meth c s₁ B hml hv
  obtain ⟨rfl, hsz, hP, hK, hD0, hN⟩ := hv
  have hx := B.exec
  have hb := B.bytes
  have hr := B.returns
  have hts := atoms_spec (ws := .code yX7_isPlace cX7_isPlace 2 (some .boolean) :: T0) B.pre
  have hT : ∀ w ∈ T0, w.before _ s = true := fun w h => hts w (List.mem_cons_of_mem _ h)
  have hown : s.vm.findClass RX7 = some m.cls := findClass_of_methodNamed B.named
  have hlocks := B.notSynchronized
  subst hsz
  have hD := hD0.self (sz := s.heap.size)
  generalize hAe : va_A [(h0, .inr (7, fs)), (pa, .inr (2, ps))] s.heap.size = A at hD ⊢
  have hA : ∀ q : Nat, s.heap.size ≤ q → A q := fun q h => by rw [← hAe]; exact Or.inr h
  have hS : va_S A s.heap s.heap [] := va_S.rf
  have hl := lv_entry ([.ref h0, .int x]) (n := 2) (Nat.le_of_ble_eq_true rfl)
  rw [lg_entry_eq]
  generalize (lg_sl ([.ref h0, .int x]) ++ List.replicate (2 - (lg_sl ([.ref h0, .int x])).length) Slot.unset).toArray = ls at hl ⊢
  have hl : lv_has ls 2 [(0, .ref h0), (1, .int x)] := hl
  obtain ⟨H, hH⟩ : ∃ z, z = s.heap := ⟨_, rfl⟩
  rw [← hH] at hP
  have hS : va_S A s.heap H [] := by rw [hH]; exact hS
  suffices hgo : W p l e _ s m _ below meth c H [] 0 0 _ _ by rw [hH] at hgo; exact hgo
  have hO := hN.2.2.2.2
  have ho_hf := fo_refl fs
  have ho_hp := fo_refl ps
  refine lv_iload_n hx hb dX7_isPlace_0 rfl (lv_at hl 1 rfl) ?_
  refine lv_if_lt (tgt := 19) hx hb dX7_isPlace_1 (by decide) (fun c101 => ?_) (fun c101 => ?_)
  · have k101 := tq_lt (a := x.toInt) (b := 0) rfl (by decide) c101
    refine lv_iconst (v := 0) hx hb dX7_isPlace_19 (by decide) ?_
    exact W.zret (v := 0) (ty := .boolean) hx hb hr rfl (fun t ht hW => ⟨⟨0, (), rfl, rfl, by rw [ht]; exact hP, hD⟩, hS.F ht⟩) hS.2.2 dX7_isPlace_20
  · have k101 := tq_ltn (a := x.toInt) (b := 0) rfl (by decide) c101
    refine lv_iload_n hx hb dX7_isPlace_4 rfl (lv_at hl 1 rfl) ?_
    refine lv_aload_n hx hb dX7_isPlace_5 rfl (lv_at hl 0 rfl) ?_
    refine va_get (D := G) (ci := 7) (v := .ref pa) (C := RX7) (T := TX7) (N := 12) hx hb hT ku_7 hown hK hP 0 rfl rfl 1 (by decide) (hT _ kw_1_20) (fun _ h9 => h9) (fh_at hf 0 rfl) dX7_isPlace_6 ?_
    refine va_get (D := G) (ci := 2) (v := .int 0) (C := RX2) (T := TX2) (N := 19) hx hb hT ku_2 hown hK hP 1 rfl rfl 0 (by decide) (hT _ kw_32_6) (fun _ h9 => h9) (fh_at hp 0 rfl) dX7_isPlace_9 ?_
    refine lv_icmp_ge (tgt := 19) hx hb dX7_isPlace_12 (by decide) (fun c102 => ?_) (fun c102 => ?_)
    · have k102 := tq_le (a := 0) (b := x.toInt) (by decide) rfl c102
      refine lv_iconst (v := 0) hx hb dX7_isPlace_19 (by decide) ?_
      exact W.zret (v := 0) (ty := .boolean) hx hb hr rfl (fun t ht hW => ⟨⟨0, (), rfl, rfl, by rw [ht]; exact hP, hD⟩, hS.F ht⟩) hS.2.2 dX7_isPlace_20
    · have k102 := tq_len (a := 0) (b := x.toInt) (by decide) rfl c102
      exfalso
      omega

set_option maxHeartbeats 4000000 in
set_option maxRecDepth 100000 in
theorem c_X7_isPerson (l : Launch) (G : va_G) (cA : Nat → ClassId) (sz : Nat) (h0 : Nat) (x : Int32) (fs : List Value) (pa : Nat) (ps : List Value) (hf : fh fs 12 [(1, .ref pa)]) (hp : fh ps 19 [(1, .int 0)]) : Met l yX7_isPerson (.code yX7_isPerson cX7_isPerson 2 (some .boolean) :: T0) ({ frames := 0, cells := 0, slots := 0, locals := 0 }) (tqP G cA [.ref h0, .int x] [(h0, .inr (7, fs)), (pa, .inr (2, ps))] sz) (tqQi G cA (fun (r : Int32) (u : Unit) => r = 0) (fun (u : Unit) => [(h0, .inr (7, fs)), (pa, .inr (2, ps))]) (va_A [(h0, .inr (7, fs)), (pa, .inr (2, ps))] sz)) 0 0 (va_A [(h0, .inr (7, fs)), (pa, .inr (2, ps))] sz) := by
  refine Met.ofW (cc := cX7_isPerson) (maxL := 2) (ret := (some .boolean)) (by decide) rfl ?_
  intro p e s m args below meth c s₁ B hml hv
  obtain ⟨rfl, hsz, hP, hK, hD0, hN⟩ := hv
  have hx := B.exec
  have hb := B.bytes
  have hr := B.returns
  have hts := atoms_spec (ws := .code yX7_isPerson cX7_isPerson 2 (some .boolean) :: T0) B.pre
  have hT : ∀ w ∈ T0, w.before _ s = true := fun w h => hts w (List.mem_cons_of_mem _ h)
  have hown : s.vm.findClass RX7 = some m.cls := findClass_of_methodNamed B.named
  have hlocks := B.notSynchronized
  subst hsz
  have hD := hD0.self (sz := s.heap.size)
  generalize hAe : va_A [(h0, .inr (7, fs)), (pa, .inr (2, ps))] s.heap.size = A at hD ⊢
  have hA : ∀ q : Nat, s.heap.size ≤ q → A q := fun q h => by rw [← hAe]; exact Or.inr h
  have hS : va_S A s.heap s.heap [] := va_S.rf
  have hl := lv_entry ([.ref h0, .int x]) (n := 2) (Nat.le_of_ble_eq_true rfl)
  rw [lg_entry_eq]
  generalize (lg_sl ([.ref h0, .int x]) ++ List.replicate (2 - (lg_sl ([.ref h0, .int x])).length) Slot.unset).toArray = ls at hl ⊢
  have hl : lv_has ls 2 [(0, .ref h0), (1, .int x)] := hl
  obtain ⟨H, hH⟩ : ∃ z, z = s.heap := ⟨_, rfl⟩
  rw [← hH] at hP
  have hS : va_S A s.heap H [] := by rw [hH]; exact hS
  suffices hgo : W p l e _ s m _ below meth c H [] 0 0 _ _ by rw [hH] at hgo; exact hgo
  have hO := hN.2.2.2.2
  have ho_hf := fo_refl fs
  have ho_hp := fo_refl ps
  refine lv_iload_n hx hb dX7_isPerson_0 rfl (lv_at hl 1 rfl) ?_
  refine lv_if_lt (tgt := 19) hx hb dX7_isPerson_1 (by decide) (fun c101 => ?_) (fun c101 => ?_)
  · have k101 := tq_lt (a := x.toInt) (b := 0) rfl (by decide) c101
    refine lv_iconst (v := 0) hx hb dX7_isPerson_19 (by decide) ?_
    exact W.zret (v := 0) (ty := .boolean) hx hb hr rfl (fun t ht hW => ⟨⟨0, (), rfl, rfl, by rw [ht]; exact hP, hD⟩, hS.F ht⟩) hS.2.2 dX7_isPerson_20
  · have k101 := tq_ltn (a := x.toInt) (b := 0) rfl (by decide) c101
    refine lv_iload_n hx hb dX7_isPerson_4 rfl (lv_at hl 1 rfl) ?_
    refine lv_aload_n hx hb dX7_isPerson_5 rfl (lv_at hl 0 rfl) ?_
    refine va_get (D := G) (ci := 7) (v := .ref pa) (C := RX7) (T := TX7) (N := 12) hx hb hT ku_7 hown hK hP 0 rfl rfl 1 (by decide) (hT _ kw_1_20) (fun _ h9 => h9) (fh_at hf 0 rfl) dX7_isPerson_6 ?_
    refine va_get (D := G) (ci := 2) (v := .int 0) (C := RX2) (T := TX2) (N := 19) hx hb hT ku_2 hown hK hP 1 rfl rfl 1 (by decide) (hT _ kw_29_7) (fun _ h9 => h9) (fh_at hp 0 rfl) dX7_isPerson_9 ?_
    refine lv_icmp_ge (tgt := 19) hx hb dX7_isPerson_12 (by decide) (fun c102 => ?_) (fun c102 => ?_)
    · have k102 := tq_le (a := 0) (b := x.toInt) (by decide) rfl c102
      refine lv_iconst (v := 0) hx hb dX7_isPerson_19 (by decide) ?_
      exact W.zret (v := 0) (ty := .boolean) hx hb hr rfl (fun t ht hW => ⟨⟨0, (), rfl, rfl, by rw [ht]; exact hP, hD⟩, hS.F ht⟩) hS.2.2 dX7_isPerson_20
    · have k102 := tq_len (a := 0) (b := x.toInt) (by decide) rfl c102
      exfalso
      omega

set_option maxHeartbeats 4000000 in
set_option maxRecDepth 100000 in
theorem c_X7_isPiece (l : Launch) (G : va_G) (cA : Nat → ClassId) (sz : Nat) (h0 : Nat) (x : Int32) (fs : List Value) (pa : Nat) (ps : List Value) (hf : fh fs 12 [(1, .ref pa)]) (hp : fh ps 19 [(2, .int 0)]) : Met l yX7_isPiece (.code yX7_isPiece cX7_isPiece 2 (some .boolean) :: T0) ({ frames := 0, cells := 0, slots := 0, locals := 0 }) (tqP G cA [.ref h0, .int x] [(h0, .inr (7, fs)), (pa, .inr (2, ps))] sz) (tqQi G cA (fun (r : Int32) (u : Unit) => r = 0) (fun (u : Unit) => [(h0, .inr (7, fs)), (pa, .inr (2, ps))]) (va_A [(h0, .inr (7, fs)), (pa, .inr (2, ps))] sz)) 0 0 (va_A [(h0, .inr (7, fs)), (pa, .inr (2, ps))] sz) := by
  refine Met.ofW (cc := cX7_isPiece) (maxL := 2) (ret := (some .boolean)) (by decide) rfl ?_
  intro p e s m args below meth c s₁ B hml hv
  obtain ⟨rfl, hsz, hP, hK, hD0, hN⟩ := hv
  have hx := B.exec
  have hb := B.bytes
  have hr := B.returns
  have hts := atoms_spec (ws := .code yX7_isPiece cX7_isPiece 2 (some .boolean) :: T0) B.pre
  have hT : ∀ w ∈ T0, w.before _ s = true := fun w h => hts w (List.mem_cons_of_mem _ h)
  have hown : s.vm.findClass RX7 = some m.cls := findClass_of_methodNamed B.named
  have hlocks := B.notSynchronized
  subst hsz
  have hD := hD0.self (sz := s.heap.size)
  generalize hAe : va_A [(h0, .inr (7, fs)), (pa, .inr (2, ps))] s.heap.size = A at hD ⊢
  have hA : ∀ q : Nat, s.heap.size ≤ q → A q := fun q h => by rw [← hAe]; exact Or.inr h
  have hS : va_S A s.heap s.heap [] := va_S.rf
  have hl := lv_entry ([.ref h0, .int x]) (n := 2) (Nat.le_of_ble_eq_true rfl)
  rw [lg_entry_eq]
  generalize (lg_sl ([.ref h0, .int x]) ++ List.replicate (2 - (lg_sl ([.ref h0, .int x])).length) Slot.unset).toArray = ls at hl ⊢
  have hl : lv_has ls 2 [(0, .ref h0), (1, .int x)] := hl
  obtain ⟨H, hH⟩ : ∃ z, z = s.heap := ⟨_, rfl⟩
  rw [← hH] at hP
  have hS : va_S A s.heap H [] := by rw [hH]; exact hS
  suffices hgo : W p l e _ s m _ below meth c H [] 0 0 _ _ by rw [hH] at hgo; exact hgo
  have hO := hN.2.2.2.2
  have ho_hf := fo_refl fs
  have ho_hp := fo_refl ps
  refine lv_iload_n hx hb dX7_isPiece_0 rfl (lv_at hl 1 rfl) ?_
  refine lv_if_lt (tgt := 19) hx hb dX7_isPiece_1 (by decide) (fun c101 => ?_) (fun c101 => ?_)
  · have k101 := tq_lt (a := x.toInt) (b := 0) rfl (by decide) c101
    refine lv_iconst (v := 0) hx hb dX7_isPiece_19 (by decide) ?_
    exact W.zret (v := 0) (ty := .boolean) hx hb hr rfl (fun t ht hW => ⟨⟨0, (), rfl, rfl, by rw [ht]; exact hP, hD⟩, hS.F ht⟩) hS.2.2 dX7_isPiece_20
  · have k101 := tq_ltn (a := x.toInt) (b := 0) rfl (by decide) c101
    refine lv_iload_n hx hb dX7_isPiece_4 rfl (lv_at hl 1 rfl) ?_
    refine lv_aload_n hx hb dX7_isPiece_5 rfl (lv_at hl 0 rfl) ?_
    refine va_get (D := G) (ci := 7) (v := .ref pa) (C := RX7) (T := TX7) (N := 12) hx hb hT ku_7 hown hK hP 0 rfl rfl 1 (by decide) (hT _ kw_1_20) (fun _ h9 => h9) (fh_at hf 0 rfl) dX7_isPiece_6 ?_
    refine va_get (D := G) (ci := 2) (v := .int 0) (C := RX2) (T := TX2) (N := 19) hx hb hT ku_2 hown hK hP 1 rfl rfl 2 (by decide) (hT _ kw_30_13) (fun _ h9 => h9) (fh_at hp 0 rfl) dX7_isPiece_9 ?_
    refine lv_icmp_ge (tgt := 19) hx hb dX7_isPiece_12 (by decide) (fun c102 => ?_) (fun c102 => ?_)
    · have k102 := tq_le (a := 0) (b := x.toInt) (by decide) rfl c102
      refine lv_iconst (v := 0) hx hb dX7_isPiece_19 (by decide) ?_
      exact W.zret (v := 0) (ty := .boolean) hx hb hr rfl (fun t ht hW => ⟨⟨0, (), rfl, rfl, by rw [ht]; exact hP, hD⟩, hS.F ht⟩) hS.2.2 dX7_isPiece_20
    · have k102 := tq_len (a := 0) (b := x.toInt) (by decide) rfl c102
      exfalso
      omega

set_option maxHeartbeats 4000000 in
set_option maxRecDepth 100000 in
theorem c_X7_comesNow (l : Launch) (G : va_G) (cA : Nat → ClassId) (sz : Nat) (h0 : Nat) (x : Int32) (fs : List Value) (pa : Nat) (ps : List Value) (hf : fh fs 12 [(1, .ref pa)]) (hp : fh ps 19 [(2, .int 0)]) : Met l yX7_comesNow (.code yX7_comesNow cX7_comesNow 2 (some .boolean) :: T0) ({ frames := 1, cells := 0, slots := 0, locals := 21 }) (tqP G cA [.ref h0, .int x] [(h0, .inr (7, fs)), (pa, .inr (2, ps))] sz) (tqQi G cA (fun (r : Int32) (u : Unit) => r = 0) (fun (u : Unit) => [(h0, .inr (7, fs)), (pa, .inr (2, ps))]) (va_A [(h0, .inr (7, fs)), (pa, .inr (2, ps))] sz)) 0 0 (va_A [(h0, .inr (7, fs)), (pa, .inr (2, ps))] sz) := by
  refine Met.ofW (cc := cX7_comesNow) (maxL := 2) (ret := (some .boolean)) (by decide) rfl ?_
  intro p e s m args below meth c s₁ B hml hv
  obtain ⟨rfl, hsz, hP, hK, hD0, hN⟩ := hv
  have hx := B.exec
  have hb := B.bytes
  have hr := B.returns
  have hts := atoms_spec (ws := .code yX7_comesNow cX7_comesNow 2 (some .boolean) :: T0) B.pre
  have hT : ∀ w ∈ T0, w.before _ s = true := fun w h => hts w (List.mem_cons_of_mem _ h)
  have hown : s.vm.findClass RX7 = some m.cls := findClass_of_methodNamed B.named
  have hlocks := B.notSynchronized
  subst hsz
  have hD := hD0.self (sz := s.heap.size)
  generalize hAe : va_A [(h0, .inr (7, fs)), (pa, .inr (2, ps))] s.heap.size = A at hD ⊢
  have hA : ∀ q : Nat, s.heap.size ≤ q → A q := fun q h => by rw [← hAe]; exact Or.inr h
  have hS : va_S A s.heap s.heap [] := va_S.rf
  have hl := lv_entry ([.ref h0, .int x]) (n := 2) (Nat.le_of_ble_eq_true rfl)
  rw [lg_entry_eq]
  generalize (lg_sl ([.ref h0, .int x]) ++ List.replicate (2 - (lg_sl ([.ref h0, .int x])).length) Slot.unset).toArray = ls at hl ⊢
  have hl : lv_has ls 2 [(0, .ref h0), (1, .int x)] := hl
  obtain ⟨H, hH⟩ : ∃ z, z = s.heap := ⟨_, rfl⟩
  rw [← hH] at hP
  have hS : va_S A s.heap H [] := by rw [hH]; exact hS
  suffices hgo : W p l e _ s m _ below meth c H [] 0 0 _ _ by rw [hH] at hgo; exact hgo
  have hO := hN.2.2.2.2
  have ho_hf := fo_refl fs
  have ho_hp := fo_refl ps
  refine lv_aload_n hx hb dX7_comesNow_0 rfl (lv_at hl 0 rfl) ?_
  refine lv_iload_n hx hb dX7_comesNow_1 rfl (lv_at hl 1 rfl) ?_
  refine tq_ci (wr := []) hP hD hS hA [0, 1] [] rfl rfl (by decide) (by decide) (va_runV (As := [.int x]) (rest := []) ⟨hx, hb, hml, hown, hT⟩ (c_X7_isPiece l G cA H.size h0 x fs pa ps (fh_sub hf [0] rfl) (fh_sub hp [0] rfl)) (cwV 1 hT (tq_gV kw_30_9 kw_30_10 kw_30_11 kw_1_2 kw_30_12) rfl rfl rfl (by decide +kernel) ⟨Nat.le_of_ble_eq_true rfl, Nat.le_of_ble_eq_true rfl⟩) ⟨(tq_pre (isC := [0, 1]) hP hD hK hN rfl (by decide)).1, va_recv hK hP (ci := 7) (q0 := 0) rfl rfl, (tq_pre (isC := [0, 1]) hP hD hK hN rfl (by decide)).2⟩ rfl rfl hl.1 rfl (lv_room (Nat.le_of_ble_eq_true rfl)) dX7_comesNow_2 ⟨Nat.le_of_ble_eq_true rfl, Nat.le_of_ble_eq_true rfl⟩) (fun r101 u102 H locs hw103 hP hD hS => ?_)
  refine W.widen (k := 0) (n := 0) (Nat.le_of_ble_eq_true rfl) (Nat.le_of_ble_eq_true rfl) ?_
  have hr104 := hw103
  subst hr104
  have hP : va_P G vwCl [(h0, .inr (7, fs)), (pa, .inr (2, ps))] H := hP
  have hD : va_D A [(h0, .inr (7, fs)), (pa, .inr (2, ps))] := hD
  refine lv_if_eq (tgt := 51) hx hb dX7_comesNow_5 (by decide) (fun c105 => ?_) (fun c105 => absurd (by decide) c105)
  refine lv_iconst (v := 0) hx hb dX7_comesNow_51 (by decide) ?_
  exact W.zret (v := 0) (ty := .boolean) hx hb hr rfl (fun t ht hW => ⟨⟨0, (), rfl, rfl, by rw [ht]; exact hP, hD⟩, hS.F ht⟩) hS.2.2 dX7_comesNow_52

set_option maxHeartbeats 4000000 in
set_option maxRecDepth 100000 in
theorem c_X7_canChoose (l : Launch) (G : va_G) (cA : Nat → ClassId) (sz : Nat) (h0 : Nat) (x : Int32) (y : Int32) (fs : List Value) (pa : Nat) (ps : List Value) (hf : fh fs 12 [(1, .ref pa)]) (hp : fh ps 19 [(2, .int 0)]) : Met l yX7_canChoose (.code yX7_canChoose cX7_canChoose 3 (some .boolean) :: T0) ({ frames := 2, cells := 0, slots := 0, locals := 42 }) (tqP G cA [.ref h0, .int x, .int y] [(h0, .inr (7, fs)), (pa, .inr (2, ps))] sz) (tqQi G cA (fun (r : Int32) (u : Unit) => r = 0) (fun (u : Unit) => [(h0, .inr (7, fs)), (pa, .inr (2, ps))]) (va_A [(h0, .inr (7, fs)), (pa, .inr (2, ps))] sz)) 0 0 (va_A [(h0, .inr (7, fs)), (pa, .inr (2, ps))] sz) := by
  refine Met.ofW (cc := cX7_canChoose) (maxL := 3) (ret := (some .boolean)) (by decide) rfl ?_
  intro p e s m args below meth c s₁ B hml hv
  obtain ⟨rfl, hsz, hP, hK, hD0, hN⟩ := hv
  have hx := B.exec
  have hb := B.bytes
  have hr := B.returns
  have hts := atoms_spec (ws := .code yX7_canChoose cX7_canChoose 3 (some .boolean) :: T0) B.pre
  have hT : ∀ w ∈ T0, w.before _ s = true := fun w h => hts w (List.mem_cons_of_mem _ h)
  have hown : s.vm.findClass RX7 = some m.cls := findClass_of_methodNamed B.named
  have hlocks := B.notSynchronized
  subst hsz
  have hD := hD0.self (sz := s.heap.size)
  generalize hAe : va_A [(h0, .inr (7, fs)), (pa, .inr (2, ps))] s.heap.size = A at hD ⊢
  have hA : ∀ q : Nat, s.heap.size ≤ q → A q := fun q h => by rw [← hAe]; exact Or.inr h
  have hS : va_S A s.heap s.heap [] := va_S.rf
  have hl := lv_entry ([.ref h0, .int x, .int y]) (n := 3) (Nat.le_of_ble_eq_true rfl)
  rw [lg_entry_eq]
  generalize (lg_sl ([.ref h0, .int x, .int y]) ++ List.replicate (3 - (lg_sl ([.ref h0, .int x, .int y])).length) Slot.unset).toArray = ls at hl ⊢
  have hl : lv_has ls 3 [(0, .ref h0), (1, .int x), (2, .int y)] := hl
  obtain ⟨H, hH⟩ : ∃ z, z = s.heap := ⟨_, rfl⟩
  rw [← hH] at hP
  have hS : va_S A s.heap H [] := by rw [hH]; exact hS
  suffices hgo : W p l e _ s m _ below meth c H [] 0 0 _ _ by rw [hH] at hgo; exact hgo
  have hO := hN.2.2.2.2
  have ho_hf := fo_refl fs
  have ho_hp := fo_refl ps
  refine lv_aload_n hx hb dX7_canChoose_0 rfl (lv_at hl 0 rfl) ?_
  refine lv_iload_n hx hb dX7_canChoose_1 rfl (lv_at hl 1 rfl) ?_
  refine tq_ci (wr := []) hP hD hS hA [0, 1] [] rfl rfl (by decide) (by decide) (va_runV (As := [.int x]) (rest := []) ⟨hx, hb, hml, hown, hT⟩ (c_X7_comesNow l G cA H.size h0 x fs pa ps (fh_sub hf [0] rfl) (fh_sub hp [0] rfl)) (cwV 1 hT (tq_gV kw_46_11 kw_46_12 kw_46_13 kw_1_2 kw_46_14) rfl rfl rfl (by decide +kernel) ⟨Nat.le_of_ble_eq_true rfl, Nat.le_of_ble_eq_true rfl⟩) ⟨(tq_pre (isC := [0, 1]) hP hD hK hN rfl (by decide)).1, va_recv hK hP (ci := 7) (q0 := 0) rfl rfl, (tq_pre (isC := [0, 1]) hP hD hK hN rfl (by decide)).2⟩ rfl rfl hl.1 rfl (lv_room (Nat.le_of_ble_eq_true rfl)) dX7_canChoose_2 ⟨Nat.le_of_ble_eq_true rfl, Nat.le_of_ble_eq_true rfl⟩) (fun r101 u102 H locs hw103 hP hD hS => ?_)
  refine W.widen (k := 0) (n := 0) (Nat.le_of_ble_eq_true rfl) (Nat.le_of_ble_eq_true rfl) ?_
  have hr104 := hw103
  subst hr104
  have hP : va_P G vwCl [(h0, .inr (7, fs)), (pa, .inr (2, ps))] H := hP
  have hD : va_D A [(h0, .inr (7, fs)), (pa, .inr (2, ps))] := hD
  refine lv_if_eq (tgt := 51) hx hb dX7_canChoose_5 (by decide) (fun c105 => ?_) (fun c105 => absurd (by decide) c105)
  refine lv_iconst (v := 0) hx hb dX7_canChoose_51 (by decide) ?_
  exact W.zret (v := 0) (ty := .boolean) hx hb hr rfl (fun t ht hW => ⟨⟨0, (), rfl, rfl, by rw [ht]; exact hP, hD⟩, hS.F ht⟩) hS.2.2 dX7_canChoose_52

set_option maxHeartbeats 4000000 in
set_option maxRecDepth 100000 in
theorem c_X7_listComing (l : Launch) (G : va_G) (cA : Nat → ClassId) (sz : Nat) (h0 : Nat) (fs : List Value) (pa : Nat) (ps : List Value) (hf : fh fs 12 [(1, .ref pa)]) (hp : fh ps 19 [(2, .int 0)]) : Met l yX7_listComing (.code yX7_listComing cX7_listComing 3 (some .int) :: T0) ({ frames := 0, cells := 0, slots := 0, locals := 0 }) (tqP G cA [.ref h0] [(h0, .inr (7, fs)), (pa, .inr (2, ps))] sz) (tqQi G cA (fun (r : Int32) (u : Unit) => r = 0) (fun (u : Unit) => [(h0, .inr (7, fs)), (pa, .inr (2, ps))]) (va_A [(h0, .inr (7, fs)), (pa, .inr (2, ps))] sz)) 0 0 (va_A [(h0, .inr (7, fs)), (pa, .inr (2, ps))] sz) := by
  refine Met.ofW (cc := cX7_listComing) (maxL := 3) (ret := (some .int)) (by decide) rfl ?_
  intro p e s m args below meth c s₁ B hml hv
  obtain ⟨rfl, hsz, hP, hK, hD0, hN⟩ := hv
  have hx := B.exec
  have hb := B.bytes
  have hr := B.returns
  have hts := atoms_spec (ws := .code yX7_listComing cX7_listComing 3 (some .int) :: T0) B.pre
  have hT : ∀ w ∈ T0, w.before _ s = true := fun w h => hts w (List.mem_cons_of_mem _ h)
  have hown : s.vm.findClass RX7 = some m.cls := findClass_of_methodNamed B.named
  have hlocks := B.notSynchronized
  subst hsz
  have hD := hD0.self (sz := s.heap.size)
  generalize hAe : va_A [(h0, .inr (7, fs)), (pa, .inr (2, ps))] s.heap.size = A at hD ⊢
  have hA : ∀ q : Nat, s.heap.size ≤ q → A q := fun q h => by rw [← hAe]; exact Or.inr h
  have hS : va_S A s.heap s.heap [] := va_S.rf
  have hl := lv_entry ([.ref h0]) (n := 3) (Nat.le_of_ble_eq_true rfl)
  rw [lg_entry_eq]
  generalize (lg_sl ([.ref h0]) ++ List.replicate (3 - (lg_sl ([.ref h0])).length) Slot.unset).toArray = ls at hl ⊢
  have hl : lv_has ls 3 [(0, .ref h0)] := hl
  obtain ⟨H, hH⟩ : ∃ z, z = s.heap := ⟨_, rfl⟩
  rw [← hH] at hP
  have hS : va_S A s.heap H [] := by rw [hH]; exact hS
  suffices hgo : W p l e _ s m _ below meth c H [] 0 0 _ _ by rw [hH] at hgo; exact hgo
  have hO := hN.2.2.2.2
  have ho_hf := fo_refl fs
  have ho_hp := fo_refl ps
  refine lv_iconst (v := 0) hx hb dX7_listComing_0 (by decide) ?_
  refine lv_istore_n (lv' := [(1, .int 0), (0, .ref h0)]) hx hb dX7_listComing_1 rfl hl (by decide) rfl (fun ls hl => ?_)
  refine lv_iconst (v := 0) hx hb dX7_listComing_2 (by decide) ?_
  refine lv_istore_n (lv' := [(2, .int 0), (1, .int 0), (0, .ref h0)]) hx hb dX7_listComing_3 rfl hl (by decide) rfl (fun ls hl => ?_)
  refine lv_iload_n hx hb dX7_listComing_4 rfl (lv_at hl 0 rfl) ?_
  refine lv_aload_n hx hb dX7_listComing_5 rfl (lv_at hl 2 rfl) ?_
  refine va_get (D := G) (ci := 7) (v := .ref pa) (C := RX7) (T := TX7) (N := 12) hx hb hT ku_7 hown hK hP 0 rfl rfl 1 (by decide) (hT _ kw_1_20) (fun _ h9 => h9) (fh_at hf 0 rfl) dX7_listComing_6 ?_
  refine va_get (D := G) (ci := 2) (v := .int 0) (C := RX2) (T := TX2) (N := 19) hx hb hT ku_2 hown hK hP 1 rfl rfl 2 (by decide) (hT _ kw_30_13) (fun _ h9 => h9) (fh_at hp 0 rfl) dX7_listComing_9 ?_
  refine lv_icmp_ge (tgt := 39) hx hb dX7_listComing_12 (by decide) (fun c101 => ?_) (fun c101 => absurd (by decide) c101)
  refine lv_iload_n hx hb dX7_listComing_39 rfl (lv_at hl 1 rfl) ?_
  exact W.iret (v := 0) hx hb hr (fun t ht hW => ⟨⟨0, (), rfl, rfl, by rw [ht]; exact hP, hD⟩, hS.F ht⟩) hS.2.2 dX7_listComing_40

set_option maxHeartbeats 4000000 in
set_option maxRecDepth 100000 in
theorem c_X7_comingLeft (l : Launch) (G : va_G) (cA : Nat → ClassId) (sz : Nat) (h0 : Nat) (fs : List Value) (t2 : Nat) (hf : fh fs 12 [(5, .ref t2)]) : Met l yX7_comingLeft (.code yX7_comingLeft cX7_comingLeft 3 (some .boolean) :: T0) ({ frames := 0, cells := 0, slots := 0, locals := 0 }) (tqP G cA [.ref h0, .int 0] [(h0, .inr (7, fs))] sz) (tqQi G cA (fun (r : Int32) (u : Unit) => r = 0) (fun (u : Unit) => [(h0, .inr (7, fs))]) (va_A [(h0, .inr (7, fs))] sz)) 0 0 (va_A [(h0, .inr (7, fs))] sz) := by
  refine Met.ofW (cc := cX7_comingLeft) (maxL := 3) (ret := (some .boolean)) (by decide) rfl ?_
  intro p e s m args below meth c s₁ B hml hv
  obtain ⟨rfl, hsz, hP, hK, hD0, hN⟩ := hv
  have hx := B.exec
  have hb := B.bytes
  have hr := B.returns
  have hts := atoms_spec (ws := .code yX7_comingLeft cX7_comingLeft 3 (some .boolean) :: T0) B.pre
  have hT : ∀ w ∈ T0, w.before _ s = true := fun w h => hts w (List.mem_cons_of_mem _ h)
  have hown : s.vm.findClass RX7 = some m.cls := findClass_of_methodNamed B.named
  have hlocks := B.notSynchronized
  subst hsz
  have hD := hD0.self (sz := s.heap.size)
  generalize hAe : va_A [(h0, .inr (7, fs))] s.heap.size = A at hD ⊢
  have hA : ∀ q : Nat, s.heap.size ≤ q → A q := fun q h => by rw [← hAe]; exact Or.inr h
  have hS : va_S A s.heap s.heap [] := va_S.rf
  have hl := lv_entry ([.ref h0, .int 0]) (n := 3) (Nat.le_of_ble_eq_true rfl)
  rw [lg_entry_eq]
  generalize (lg_sl ([.ref h0, .int 0]) ++ List.replicate (3 - (lg_sl ([.ref h0, .int 0])).length) Slot.unset).toArray = ls at hl ⊢
  have hl : lv_has ls 3 [(0, .ref h0), (1, .int 0)] := hl
  obtain ⟨H, hH⟩ : ∃ z, z = s.heap := ⟨_, rfl⟩
  rw [← hH] at hP
  have hS : va_S A s.heap H [] := by rw [hH]; exact hS
  suffices hgo : W p l e _ s m _ below meth c H [] 0 0 _ _ by rw [hH] at hgo; exact hgo
  have hO := hN.2.2.2.2
  have ho_hf := fo_refl fs
  refine lv_iconst (v := 0) hx hb dX7_comingLeft_0 (by decide) ?_
  refine lv_istore_n (lv' := [(2, .int 0), (0, .ref h0), (1, .int 0)]) hx hb dX7_comingLeft_1 rfl hl (by decide) rfl (fun ls hl => ?_)
  refine lv_iload_n hx hb dX7_comingLeft_2 rfl (lv_at hl 0 rfl) ?_
  refine lv_iload_n hx hb dX7_comingLeft_3 rfl (lv_at hl 2 rfl) ?_
  refine lv_icmp_ge (tgt := 33) hx hb dX7_comingLeft_4 (by decide) (fun c101 => ?_) (fun c101 => absurd (by decide) c101)
  refine lv_iconst (v := 0) hx hb dX7_comingLeft_33 (by decide) ?_
  exact W.zret (v := 0) (ty := .boolean) hx hb hr rfl (fun t ht hW => ⟨⟨0, (), rfl, rfl, by rw [ht]; exact hP, hD⟩, hS.F ht⟩) hS.2.2 dX7_comingLeft_34

set_option maxHeartbeats 4000000 in
set_option maxRecDepth 100000 in
theorem c_X4_regarded (l : Launch) (G : va_G) (cA : Nat → ClassId) (sz : Nat) (h0 : Nat) (fs : List Value) (hf : fh fs 7 [(0, .int 0), (1, .int (-1))]) : Met l yX4_regarded (.code yX4_regarded cX4_regarded 1 (some .int) :: T0) ({ frames := 0, cells := 0, slots := 0, locals := 0 }) (tqP G cA [.ref h0] [(h0, .inr (4, fs))] sz) (tqQi G cA (fun (r : Int32) (u : Unit) => r = 0) (fun (u : Unit) => [(h0, .inr (4, fs))]) (va_A [(h0, .inr (4, fs))] sz)) 0 0 (va_A [(h0, .inr (4, fs))] sz) := by
  refine Met.ofW (cc := cX4_regarded) (maxL := 1) (ret := (some .int)) (by decide) rfl ?_
  intro p e s m args below meth c s₁ B hml hv
  obtain ⟨rfl, hsz, hP, hK, hD0, hN⟩ := hv
  have hx := B.exec
  have hb := B.bytes
  have hr := B.returns
  have hts := atoms_spec (ws := .code yX4_regarded cX4_regarded 1 (some .int) :: T0) B.pre
  have hT : ∀ w ∈ T0, w.before _ s = true := fun w h => hts w (List.mem_cons_of_mem _ h)
  have hown : s.vm.findClass RX4 = some m.cls := findClass_of_methodNamed B.named
  have hlocks := B.notSynchronized
  subst hsz
  have hD := hD0.self (sz := s.heap.size)
  generalize hAe : va_A [(h0, .inr (4, fs))] s.heap.size = A at hD ⊢
  have hA : ∀ q : Nat, s.heap.size ≤ q → A q := fun q h => by rw [← hAe]; exact Or.inr h
  have hS : va_S A s.heap s.heap [] := va_S.rf
  have hl := lv_entry ([.ref h0]) (n := 1) (Nat.le_of_ble_eq_true rfl)
  rw [lg_entry_eq]
  generalize (lg_sl ([.ref h0]) ++ List.replicate (1 - (lg_sl ([.ref h0])).length) Slot.unset).toArray = ls at hl ⊢
  have hl : lv_has ls 1 [(0, .ref h0)] := hl
  obtain ⟨H, hH⟩ : ∃ z, z = s.heap := ⟨_, rfl⟩
  rw [← hH] at hP
  have hS : va_S A s.heap H [] := by rw [hH]; exact hS
  suffices hgo : W p l e _ s m _ below meth c H [] 0 0 _ _ by rw [hH] at hgo; exact hgo
  have hO := hN.2.2.2.2
  have ho_hf := fo_refl fs
  refine lv_aload_n hx hb dX4_regarded_0 rfl (lv_at hl 0 rfl) ?_
  refine va_get (D := G) (ci := 4) (v := .int (-1)) (C := RX4) (T := TX4) (N := 7) hx hb hT ku_4 hown hK hP 0 rfl rfl 1 (by decide) (hT _ kw_8_23) (fun _ h9 => h9) (fh_at hf 1 rfl) dX4_regarded_1 ?_
  refine lv_if_ge (tgt := 14) hx hb dX4_regarded_4 (by decide) (fun c101 => absurd c101 (by decide)) (fun c101 => ?_)
  refine lv_aload_n hx hb dX4_regarded_7 rfl (lv_at hl 0 rfl) ?_
  refine va_get (D := G) (ci := 4) (v := .int 0) (C := RX4) (T := TX4) (N := 7) hx hb hT ku_4 hown hK hP 0 rfl rfl 0 (by decide) (hT _ kw_8_22) (fun _ h9 => h9) (fh_at hf 0 rfl) dX4_regarded_8 ?_
  refine lv_goto (tgt := 18) hx hb dX4_regarded_11 (by decide) ?_
  exact W.iret (v := 0) hx hb hr (fun t ht hW => ⟨⟨0, (), rfl, rfl, by rw [ht]; exact hP, hD⟩, hS.F ht⟩) hS.2.2 dX4_regarded_18

set_option maxHeartbeats 4000000 in
set_option maxRecDepth 100000 in
theorem c_X4_forget (l : Launch) (G : va_G) (cA : Nat → ClassId) (sz : Nat) (h0 : Nat) (fs : List Value) (hf : fh fs 7 []) : Met l yX4_forget (.code yX4_forget cX4_forget 1 none :: T0) ({ frames := 0, cells := 0, slots := 0, locals := 0 }) (tqP G cA [.ref h0] [(h0, .inr (4, fs))] sz) (tqQv G cA (fun (u : List Value) => fo fs u [1, 0] ∧ fh u 7 [(1, .int (-1)), (0, .int 0)]) (fun (u : List Value) => [(h0, .inr (4, u))]) (va_A [(h0, .inr (4, fs))] sz)) 0 0 (va_A [(h0, .inr (4, fs))] sz) := by
  refine Met.ofW (cc := cX4_forget) (maxL := 1) (ret := none) (by decide) rfl ?_
  intro p e s m args below meth c s₁ B hml hv
  obtain ⟨rfl, hsz, hP, hK, hD0, hN⟩ := hv
  have hx := B.exec
  have hb := B.bytes
  have hr := B.returns
  have hts := atoms_spec (ws := .code yX4_forget cX4_forget 1 none :: T0) B.pre
  have hT : ∀ w ∈ T0, w.before _ s = true := fun w h => hts w (List.mem_cons_of_mem _ h)
  have hown : s.vm.findClass RX4 = some m.cls := findClass_of_methodNamed B.named
  have hlocks := B.notSynchronized
  subst hsz
  have hD := hD0.self (sz := s.heap.size)
  generalize hAe : va_A [(h0, .inr (4, fs))] s.heap.size = A at hD ⊢
  have hA : ∀ q : Nat, s.heap.size ≤ q → A q := fun q h => by rw [← hAe]; exact Or.inr h
  have hS : va_S A s.heap s.heap [] := va_S.rf
  have hl := lv_entry ([.ref h0]) (n := 1) (Nat.le_of_ble_eq_true rfl)
  rw [lg_entry_eq]
  generalize (lg_sl ([.ref h0]) ++ List.replicate (1 - (lg_sl ([.ref h0])).length) Slot.unset).toArray = ls at hl ⊢
  have hl : lv_has ls 1 [(0, .ref h0)] := hl
  obtain ⟨H, hH⟩ : ∃ z, z = s.heap := ⟨_, rfl⟩
  rw [← hH] at hP
  have hS : va_S A s.heap H [] := by rw [hH]; exact hS
  suffices hgo : W p l e _ s m _ below meth c H [] 0 0 _ _ by rw [hH] at hgo; exact hgo
  have hO := hN.2.2.2.2
  have ho_hf := fo_refl fs
  refine lv_aload_n hx hb dX4_forget_0 rfl (lv_at hl 0 rfl) ?_
  refine lv_iconst (v := 0) hx hb dX4_forget_1 (by decide) ?_
  refine va_put (D := G) (ci := 4) (v := .int 0) (ty := .int) (C := RX4) (T := TX4) (N := 7) hx hb hT ku_4 tyX4 tyX4_ok nmX4 hown hK hP hD hS 0 rfl rfl 0 (by decide) (hT _ kw_8_22) (fun _ h9 => h9) rfl (by decide +kernel) rfl rfl (fh_lt hf (by decide)) dX4_forget_2 (fun H locs hP hD hS => ?_)
  have hP : va_P G vwCl [(h0, .inr (4, (fs.set 0 (.int 0))))] H := hP
  have hD : va_D A [(h0, .inr (4, (fs.set 0 (.int 0))))] := hD
  have hf := fh_set (l' := [(0, .int 0)]) hf 0 (.int 0) (by decide) rfl
  have ho102 := fo_set ho_hf 0 (.int 0)
  generalize (fs.set 0 (.int 0)) = fs101 at hP hD hf ho102
  refine lv_aload_n hx hb dX4_forget_5 rfl (lv_at hl 0 rfl) ?_
  refine lv_iconst (v := (-1)) hx hb dX4_forget_6 (by decide) ?_
  refine va_put (D := G) (ci := 4) (v := .int (-1)) (ty := .int) (C := RX4) (T := TX4) (N := 7) hx hb hT ku_4 tyX4 tyX4_ok nmX4 hown hK hP hD hS 0 rfl rfl 1 (by decide) (hT _ kw_8_23) (fun _ h9 => h9) rfl (by decide +kernel) rfl rfl (fh_lt hf (by decide)) dX4_forget_7 (fun H locs hP hD hS => ?_)
  have hP : va_P G vwCl [(h0, .inr (4, (fs101.set 1 (.int (-1)))))] H := hP
  have hD : va_D A [(h0, .inr (4, (fs101.set 1 (.int (-1)))))] := hD
  have hf := fh_set (l' := [(1, .int (-1)), (0, .int 0)]) hf 1 (.int (-1)) (by decide) rfl
  have ho104 := fo_set ho102 1 (.int (-1))
  generalize (fs101.set 1 (.int (-1))) = fs103 at hP hD hf ho104
  have qho104 := fo_mono (k2 := [1, 0]) ho104 (by decide)
  exact W.vret hx hb hr (fun t ht hW => ⟨⟨fs103, rfl, ⟨qho104, fh_sub hf [0, 1] rfl⟩, by rw [ht]; exact hP, hD⟩, hS.F ht⟩) hS.2.2 dX4_forget_10
