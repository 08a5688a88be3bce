def fTn (t : Nat → Nat) (T : Tr) : List Value := [.int (T 0 0), .int (T 0 1), .int (T 0 2), .int (T 0 3), .int (T 0 4), .int (T 0 5), .int (T 0 6), .int (T 0 7), .ref (t 9), .ref (t 10), .ref (t 11), .ref (t 12), .ref (t 13), .ref (t 14), .ref (t 15), .ref (t 16), .ref (t 17), .ref (t 18), .ref (t 19), .null]
def gTn (cA : Nat → ClassId) (t : Nat → Nat) (T : Tr) : va_W := [(t 0, .inr (6, fTn t T)), (t 9, .inl (cA 0, 6, .inl (T 9))), (t 10, .inl (cA 0, 6, .inl (T 10))), (t 11, .inl (cA 0, 6, .inl (T 11))), (t 12, .inl (cA 0, 6, .inl (T 12))), (t 13, .inl (cA 0, 10, .inl (T 13))), (t 14, .inl (cA 0, 10, .inl (T 14))), (t 15, .inl (cA 0, 10, .inl (T 15))), (t 16, .inl (cA 0, 50, .inl (T 16))), (t 17, .inl (cA 0, 5, .inl (T 17))), (t 18, .inl (cA 0, 5, .inl (T 18))), (t 19, .inl (cA 0, 7, .inl (T 19)))]
def wTBn (cA : Nat → ClassId) (ta pa : Nat → Nat) (T P : Tr) : va_W := List.flatten [gTn cA ta T, gP cA pa P]
theorem sTBn_r19 {cA : Nat → ClassId} {ta pa : Nat → Nat} {T P : Tr} {v : Nat} : (wTBn cA ta pa T P).set 0 (ta 0, .inr (6, (fTn ta T).set 19 (.ref v))) = wTB cA ta pa T P v := rfl
set_option maxHeartbeats 4000000 in
set_option maxRecDepth 100000 in
theorem c_X6_begin_n (l : Launch) (G : va_G) (cA : Nat → ClassId) (sz : Nat) (ta : Nat → Nat) (pa : Nat → Nat) (T : Tr) (P : Tr) (q : Nat)  (T' : Tr) (q' : Nat) (h : f_X6_begin pa T P q = some (T', q')) : Met l yX6_begin (.code yX6_begin cX6_begin 3 none :: T0) ({ frames := 0, cells := 0, slots := 0, locals := 0 } : Room) (tqP G cA [.ref (ta 0), .ref (pa 0)] (wTBn cA ta pa T P) sz) (tqQv G cA (fun (_ : Unit) => True) (fun (_ : Unit) => wTB cA ta pa (T') P (q')) (va_A (wTBn cA ta pa T P) sz)) 0 0 (va_A (wTBn cA ta pa T P) sz) := by
  refine Met.ofW (cc := cX6_begin) (maxL := 3) (ret := none) (by decide) rfl ?_
  intro p e s m args below meth c s₁ B hml hv
  obtain ⟨rfl, hsz, hP, hK, hD0, hN⟩ := hv
  have hx := B.exec
  have hb := B.bytes
  have hr := B.returns
  have hts := atoms_spec (ws := .code yX6_begin cX6_begin 3 none :: T0) B.pre
  have hT : ∀ w ∈ T0, w.before _ s = true := fun w h => hts w (List.mem_cons_of_mem _ h)
  have hown : s.vm.findClass RX6 = some m.cls := findClass_of_methodNamed B.named
  have hlocks := B.notSynchronized
  subst hsz
  have hD := hD0.self (sz := s.heap.size)
  generalize hAe : va_A (wTBn cA ta pa T P) s.heap.size = A at hD ⊢
  have hA : ∀ q : Nat, s.heap.size ≤ q → A q := fun q h => by rw [← hAe]; exact Or.inr h
  have hS : va_S A s.heap s.heap [] := va_S.rf
  have hl := lv_entry ([.ref (ta 0), .ref (pa 0)]) (n := 3) (Nat.le_of_ble_eq_true rfl)
  rw [lg_entry_eq]
  generalize (lg_sl ([.ref (ta 0), .ref (pa 0)]) ++ List.replicate (3 - (lg_sl ([.ref (ta 0), .ref (pa 0)])).length) Slot.unset).toArray = ls at hl ⊢
  have hl : lv_has ls 3 [(0, .ref (ta 0)), (1, .ref (pa 0))] := hl
  have F : tF p s m ([.ref (ta 0), .ref (pa 0)] : List Value).toArray meth c G cA A RX6 cX6_begin 3 none := ⟨hx, hb, hr, hml, hT, hown, hlocks, hK, hN, hA⟩
  obtain ⟨H, hH⟩ : ∃ z, z = s.heap := ⟨_, rfl⟩
  rw [← hH] at hP
  have hS : va_S A s.heap H [] := by rw [hH]; exact hS
  suffices hgo : G_X6_begin p l e s m below meth c G cA A ta pa P T' q' H [] (F0 m 0 ls []) by rw [hH] at hgo; exact hgo
  generalize ([] : List Loc) = locs at hS ⊢
  unfold f_X6_begin at h
  refine lv_aload_n hx hb dX6_begin_0 rfl (lv_at hl 0 rfl) ?_
  refine lv_aload_n hx hb dX6_begin_1 rfl (lv_at hl 1 rfl) ?_
  refine va_put (D := G) (ci := 6) (v := .ref (pa 0)) (ty := (.object "RackTrain$Plan")) (C := RX6) (T := TX6) (N := 20) hx hb hT ku_6 tyX6 tyX6_ok nmX6 hown hK hP hD hS 0 rfl rfl 19 (by decide) (hT _ kw_8_1) (fun _ h9 => h9) rfl (by decide +kernel) rfl rfl (Nat.le_of_ble_eq_true rfl) dX6_begin_2 (fun H locs hP hD hS => ?_)
  rw [sTBn_r19] at hP hD
  refine lv_aload_n hx hb dX6_begin_5 rfl (lv_at hl 0 rfl) ?_
  refine lv_iconst (v := 0) hx hb dX6_begin_6 (by decide) ?_
  refine va_put (D := G) (ci := 6) (v := .int 0) (ty := .int) (C := RX6) (T := TX6) (N := 20) hx hb hT ku_6 tyX6 tyX6_ok nmX6 hown hK hP hD hS 0 rfl rfl 0 (by decide) (hT _ kw_8_2) (fun _ h9 => h9) rfl (by decide +kernel) rfl rfl (Nat.le_of_ble_eq_true rfl) dX6_begin_7 (fun H locs hP hD hS => ?_)
  obtain ⟨T_1, eT_1, h⟩ := tx_lt h
  rw [sTB_ta_f0, eT_1] at hP hD
  refine lv_aload_n hx hb dX6_begin_10 rfl (lv_at hl 0 rfl) ?_
  refine lv_iconst (v := 0) hx hb dX6_begin_11 (by decide) ?_
  refine va_put (D := G) (ci := 6) (v := .int 0) (ty := .int) (C := RX6) (T := TX6) (N := 20) hx hb hT ku_6 tyX6 tyX6_ok nmX6 hown hK hP hD hS 0 rfl rfl 1 (by decide) (hT _ kw_8_3) (fun _ h9 => h9) rfl (by decide +kernel) rfl rfl (Nat.le_of_ble_eq_true rfl) dX6_begin_12 (fun H locs hP hD hS => ?_)
  obtain ⟨T_2, eT_2, h⟩ := tx_lt h
  rw [sTB_ta_f1, eT_2] at hP hD
  refine lv_aload_n hx hb dX6_begin_15 rfl (lv_at hl 0 rfl) ?_
  refine lv_aload_n hx hb dX6_begin_16 rfl (lv_at hl 1 rfl) ?_
  refine va_get (D := G) (ci := 2) (v := .int (P 0 6)) (C := RX2) (T := TX2) (N := 19) hx hb hT ku_2 hown hK hP 12 rfl rfl 6 (by decide) (hT _ kw_8_4) (fun _ h9 => h9) rfl dX6_begin_17 ?_
  refine va_put (D := G) (ci := 6) (v := .int (P 0 6)) (ty := .int) (C := RX6) (T := TX6) (N := 20) hx hb hT ku_6 tyX6 tyX6_ok nmX6 hown hK hP hD hS 0 rfl rfl 2 (by decide) (hT _ kw_8_5) (fun _ h9 => h9) rfl (by decide +kernel) rfl rfl (Nat.le_of_ble_eq_true rfl) dX6_begin_20 (fun H locs hP hD hS => ?_)
  obtain ⟨T_3, eT_3, h⟩ := tx_lt h
  rw [sTB_ta_f2, eT_3] at hP hD
  refine lv_aload_n hx hb dX6_begin_23 rfl (lv_at hl 0 rfl) ?_
  refine lv_aload_n hx hb dX6_begin_24 rfl (lv_at hl 1 rfl) ?_
  refine va_get (D := G) (ci := 2) (v := .int (P 0 4)) (C := RX2) (T := TX2) (N := 19) hx hb hT ku_2 hown hK hP 12 rfl rfl 4 (by decide) (hT _ kw_8_6) (fun _ h9 => h9) rfl dX6_begin_25 ?_
  refine va_put (D := G) (ci := 6) (v := .int (P 0 4)) (ty := .int) (C := RX6) (T := TX6) (N := 20) hx hb hT ku_6 tyX6 tyX6_ok nmX6 hown hK hP hD hS 0 rfl rfl 3 (by decide) (hT _ kw_8_7) (fun _ h9 => h9) rfl (by decide +kernel) rfl rfl (Nat.le_of_ble_eq_true rfl) dX6_begin_28 (fun H locs hP hD hS => ?_)
  obtain ⟨T_4, eT_4, h⟩ := tx_lt h
  rw [sTB_ta_f3, eT_4] at hP hD
  refine lv_aload_n hx hb dX6_begin_31 rfl (lv_at hl 0 rfl) ?_
  refine lv_aload_n hx hb dX6_begin_32 rfl (lv_at hl 1 rfl) ?_
  refine va_get (D := G) (ci := 2) (v := .int (P 0 5)) (C := RX2) (T := TX2) (N := 19) hx hb hT ku_2 hown hK hP 12 rfl rfl 5 (by decide) (hT _ kw_8_8) (fun _ h9 => h9) rfl dX6_begin_33 ?_
  refine va_put (D := G) (ci := 6) (v := .int (P 0 5)) (ty := .int) (C := RX6) (T := TX6) (N := 20) hx hb hT ku_6 tyX6 tyX6_ok nmX6 hown hK hP hD hS 0 rfl rfl 4 (by decide) (hT _ kw_8_9) (fun _ h9 => h9) rfl (by decide +kernel) rfl rfl (Nat.le_of_ble_eq_true rfl) dX6_begin_36 (fun H locs hP hD hS => ?_)
  obtain ⟨T_5, eT_5, h⟩ := tx_lt h
  rw [sTB_ta_f4, eT_5] at hP hD
  refine lv_iconst (v := 0) hx hb dX6_begin_39 (by decide) ?_
  refine lv_istore_n (lv' := [(2, .int 0), (0, .ref (ta 0)), (1, .ref (pa 0))]) hx hb dX6_begin_40 rfl hl (by decide) rfl (fun ls hl => ?_)
  exact w_X6_begin_L41 F 2000 0 T_5 H locs ls h hP hD hS (lv_sub hl [1, 2, 0] rfl)
