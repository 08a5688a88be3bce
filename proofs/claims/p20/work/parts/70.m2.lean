set_option maxHeartbeats 8000000 in
set_option maxRecDepth 100000 in
theorem k8_b {p : Program} {l : Launch} {e : Env} {s : State} {m : MethodId} {below : List Frame} {meth : Method} {c : Code} {G : va_G} {cA : Nat → ClassId} {A : Nat → Prop} {h0 : Nat} (F : tF p s m ([.ref h0] : List Value).toArray meth c G cA A RX8 cX8_init 1 none) (hin : meth.name = "<init>") {H : Heap} {locs : List Loc} {ls : Array Slot} (hl : lv_has ls 1 [(0, .ref h0)]) (q1 q2 : Nat) (vs2 : List Value) (ev2 : vs2 = (([.null, .int 0, .int 0, .null, .int 0, .int 0, .int 0, .int 0, .int 0, .int 0, .int 0, .int 0, .int 0, .int 0, .int 0, .int 0, .int 0, .int 0, .int 0, .int 0, .int 0, .null, .null, .null, .null, .null, .null, .null, .null, .null, .null, .null, .null, .null, .null, .null, .null, .null, .null, .null, .null, .null, .null, .int 0, .int 0, .int 0, .int 0, .int 0, .int 0, .null, .null, .int 0, .null, .null, .null, .null, .null, .null, .null, .null, .null, .null, .null, .long 0, .int 0, .int 0, .int 0, .int 0, .int 0, .int 0, .int 0, .null, .int 0, .null, .null, .null, .null, .null, .int 0, .int 0, .null, .null, .int 0, .null, .int 0, .null, .null, .null, .int 0, .int 0, .long 0] : List Value).set 0 (.ref q1)).set 3 (.ref q2)) (hlen : vs2.length = 91) (hP : va_P G vwCl ((h0, .inr (8, vs2)) :: (q1, .inl (cA 0, 700, .inl (fun _ => 0))) :: (q2, .inl (cA 0, 153, .inl (wfn 153))) :: []) H) (hD : va_D A ((h0, .inr (8, vs2)) :: (q1, .inl (cA 0, 700, .inl (fun _ => 0))) :: (q2, .inl (cA 0, 153, .inl (wfn 153))) :: [])) (hS : va_S A s.heap H locs) (hk : ∀ (H : Heap) (locs : List Loc) (aa : Nat → Nat), aa 0 = h0 → va_P G vwCl (wM cA aa S0M L0M) H → va_D A (wM cA aa S0M L0M) → va_S A s.heap H locs → GI8 p l e s m below meth c G cA A h0 H locs 49 3443 (F0 m 1343 ls [])) : GI8 p l e s m below meth c G cA A h0 H locs 2 853 (F0 m 959 ls []) := by
  obtain ⟨hx, hb, hr, hml, hT, hown, hlocks, hK, hN, hA⟩ := id F
  obtain ⟨R2, eR2⟩ : ∃ z : va_W, z = [] := ⟨_, rfl⟩
  have hP : va_P G vwCl ((h0, .inr (8, vs2)) :: (q1, .inl (cA 0, 700, .inl (fun _ => 0))) :: (q2, .inl (cA 0, 153, .inl (wfn 153))) :: R2) H := by rw [eR2]; exact hP
  have hD : va_D A ((h0, .inr (8, vs2)) :: (q1, .inl (cA 0, 700, .inl (fun _ => 0))) :: (q2, .inl (cA 0, 153, .inl (wfn 153))) :: R2) := by rw [eR2]; exact hD
  refine lv_aload_n hx hb dX8_init_959 rfl (lv_at hl 0 rfl) ?_
  refine lv_iconst (v := (-1)) hx hb dX8_init_960 (by decide) ?_
  refine va_put (D := G) (ci := 8) (v := .int (-1)) (ty := .int) (C := RX8) (T := TX8) (N := 91) hx hb hT ku_8 tyX8 tyX8_ok nmX8 hown hK hP hD hS 0 rfl rfl 5 (by decide) (hT _ kw_9_12) (fun _ h9 => h9) rfl (by decide +kernel) rfl rfl (by rw [hlen]; decide) dX8_init_961 (fun H locs hP hD hS => ?_)
  obtain ⟨vs3, ev3⟩ : ∃ z : List Value, z = vs2.set 5 (.int (-1)) := ⟨_, rfl⟩
  have hlen : vs3.length = 91 := by rw [ev3, List.length_set]; exact hlen
  have hP : va_P G vwCl ((h0, .inr (8, vs3)) :: (q1, .inl (cA 0, 700, .inl (fun _ => 0))) :: (q2, .inl (cA 0, 153, .inl (wfn 153))) :: R2) H := by rw [ev3]; exact hP
  have hD : va_D A ((h0, .inr (8, vs3)) :: (q1, .inl (cA 0, 700, .inl (fun _ => 0))) :: (q2, .inl (cA 0, 153, .inl (wfn 153))) :: R2) := by rw [ev3]; exact hD
  refine lv_aload_n hx hb dX8_init_964 rfl (lv_at hl 0 rfl) ?_
  refine lv_iconst (v := 3) hx hb dX8_init_965 (by decide) ?_
  refine tq_newa (atype := .boolean) (ty := .boolean) (n := 3) (N' := 3) (a0 := (3, .inl (fun _ => 0))) hx hb (hT _ kw_9_4) rfl hK hP hD hS hA 1 (cA 1) rfl (fun _ => rfl) (by decide) (by decide) (by decide) (Nat.le_of_ble_eq_true rfl) (Nat.le_of_ble_eq_true rfl) dX8_init_966 (fun q3 H hP hD hS => ?_)
  refine W.widen (k := 3) (n := 856) (Nat.le_of_ble_eq_true rfl) (Nat.le_of_ble_eq_true rfl) ?_
  obtain ⟨R3, eR3⟩ : ∃ z : va_W, z = R2 ++ [(q3, .inl (cA 1, 3, .inl (fun _ => 0)))] := ⟨_, rfl⟩
  have hP : va_P G vwCl ((h0, .inr (8, vs3)) :: (q1, .inl (cA 0, 700, .inl (fun _ => 0))) :: (q2, .inl (cA 0, 153, .inl (wfn 153))) :: R3) H := by rw [eR3]; exact hP
  have hD : va_D A ((h0, .inr (8, vs3)) :: (q1, .inl (cA 0, 700, .inl (fun _ => 0))) :: (q2, .inl (cA 0, 153, .inl (wfn 153))) :: R3) := by rw [eR3]; exact hD
  refine va_putF (D := G) (ci := 8) (v := .ref q3) (ty := (.array .boolean)) (C := RX8) (T := TX8) (N := 91) hx hb hT ku_8 tyX8 tyX8_ok nmX8 hown hK hP hD hS 0 rfl rfl 21 (by decide) (hT _ kw_9_13) (fun _ h9 => h9) rfl hin rfl (by decide +kernel) rfl rfl (by rw [hlen]; decide) dX8_init_968 (fun H locs hP hD hS => ?_)
  obtain ⟨vs4, ev4⟩ : ∃ z : List Value, z = vs3.set 21 (.ref q3) := ⟨_, rfl⟩
  have hlen : vs4.length = 91 := by rw [ev4, List.length_set]; exact hlen
  have hP : va_P G vwCl ((h0, .inr (8, vs4)) :: (q1, .inl (cA 0, 700, .inl (fun _ => 0))) :: (q2, .inl (cA 0, 153, .inl (wfn 153))) :: R3) H := by rw [ev4]; exact hP
  have hD : va_D A ((h0, .inr (8, vs4)) :: (q1, .inl (cA 0, 700, .inl (fun _ => 0))) :: (q2, .inl (cA 0, 153, .inl (wfn 153))) :: R3) := by rw [ev4]; exact hD
  refine lv_aload_n hx hb dX8_init_971 rfl (lv_at hl 0 rfl) ?_
  refine lv_bipush (v := 6) hx hb dX8_init_972 (by decide) ?_
  refine tq_newa (atype := .int) (ty := .int) (n := 6) (N' := 6) (a0 := (6, .inl (fun _ => 0))) hx hb (hT _ kw_2_13) rfl hK hP hD hS hA 0 (cA 0) rfl (fun _ => rfl) (by decide) (by decide) (by decide) (Nat.le_of_ble_eq_true rfl) (Nat.le_of_ble_eq_true rfl) dX8_init_974 (fun q4 H hP hD hS => ?_)
  refine W.widen (k := 4) (n := 862) (Nat.le_of_ble_eq_true rfl) (Nat.le_of_ble_eq_true rfl) ?_
  obtain ⟨R4, eR4⟩ : ∃ z : va_W, z = R3 ++ [(q4, .inl (cA 0, 6, .inl (fun _ => 0)))] := ⟨_, rfl⟩
  have hP : va_P G vwCl ((h0, .inr (8, vs4)) :: (q1, .inl (cA 0, 700, .inl (fun _ => 0))) :: (q2, .inl (cA 0, 153, .inl (wfn 153))) :: R4) H := by rw [eR4]; exact hP
  have hD : va_D A ((h0, .inr (8, vs4)) :: (q1, .inl (cA 0, 700, .inl (fun _ => 0))) :: (q2, .inl (cA 0, 153, .inl (wfn 153))) :: R4) := by rw [eR4]; exact hD
  refine va_putF (D := G) (ci := 8) (v := .ref q4) (ty := (.array .int)) (C := RX8) (T := TX8) (N := 91) hx hb hT ku_8 tyX8 tyX8_ok nmX8 hown hK hP hD hS 0 rfl rfl 22 (by decide) (hT _ kw_9_14) (fun _ h9 => h9) rfl hin rfl (by decide +kernel) rfl rfl (by rw [hlen]; decide) dX8_init_976 (fun H locs hP hD hS => ?_)
  obtain ⟨vs5, ev5⟩ : ∃ z : List Value, z = vs4.set 22 (.ref q4) := ⟨_, rfl⟩
  have hlen : vs5.length = 91 := by rw [ev5, List.length_set]; exact hlen
  have hP : va_P G vwCl ((h0, .inr (8, vs5)) :: (q1, .inl (cA 0, 700, .inl (fun _ => 0))) :: (q2, .inl (cA 0, 153, .inl (wfn 153))) :: R4) H := by rw [ev5]; exact hP
  have hD : va_D A ((h0, .inr (8, vs5)) :: (q1, .inl (cA 0, 700, .inl (fun _ => 0))) :: (q2, .inl (cA 0, 153, .inl (wfn 153))) :: R4) := by rw [ev5]; exact hD
  refine lv_aload_n hx hb dX8_init_979 rfl (lv_at hl 0 rfl) ?_
  refine lv_bipush (v := 10) hx hb dX8_init_980 (by decide) ?_
  refine tq_newa (atype := .int) (ty := .int) (n := 10) (N' := 10) (a0 := (10, .inl (fun _ => 0))) hx hb (hT _ kw_2_13) rfl hK hP hD hS hA 0 (cA 0) rfl (fun _ => rfl) (by decide) (by decide) (by decide) (Nat.le_of_ble_eq_true rfl) (Nat.le_of_ble_eq_true rfl) dX8_init_982 (fun q5 H hP hD hS => ?_)
  refine W.widen (k := 5) (n := 872) (Nat.le_of_ble_eq_true rfl) (Nat.le_of_ble_eq_true rfl) ?_
  obtain ⟨R5, eR5⟩ : ∃ z : va_W, z = R4 ++ [(q5, .inl (cA 0, 10, .inl (fun _ => 0)))] := ⟨_, rfl⟩
  have hP : va_P G vwCl ((h0, .inr (8, vs5)) :: (q1, .inl (cA 0, 700, .inl (fun _ => 0))) :: (q2, .inl (cA 0, 153, .inl (wfn 153))) :: R5) H := by rw [eR5]; exact hP
  have hD : va_D A ((h0, .inr (8, vs5)) :: (q1, .inl (cA 0, 700, .inl (fun _ => 0))) :: (q2, .inl (cA 0, 153, .inl (wfn 153))) :: R5) := by rw [eR5]; exact hD
  refine va_putF (D := G) (ci := 8) (v := .ref q5) (ty := (.array .int)) (C := RX8) (T := TX8) (N := 91) hx hb hT ku_8 tyX8 tyX8_ok nmX8 hown hK hP hD hS 0 rfl rfl 23 (by decide) (hT _ kw_9_15) (fun _ h9 => h9) rfl hin rfl (by decide +kernel) rfl rfl (by rw [hlen]; decide) dX8_init_984 (fun H locs hP hD hS => ?_)
  obtain ⟨vs6, ev6⟩ : ∃ z : List Value, z = vs5.set 23 (.ref q5) := ⟨_, rfl⟩
  have hlen : vs6.length = 91 := by rw [ev6, List.length_set]; exact hlen
  have hP : va_P G vwCl ((h0, .inr (8, vs6)) :: (q1, .inl (cA 0, 700, .inl (fun _ => 0))) :: (q2, .inl (cA 0, 153, .inl (wfn 153))) :: R5) H := by rw [ev6]; exact hP
  have hD : va_D A ((h0, .inr (8, vs6)) :: (q1, .inl (cA 0, 700, .inl (fun _ => 0))) :: (q2, .inl (cA 0, 153, .inl (wfn 153))) :: R5) := by rw [ev6]; exact hD
  refine lv_aload_n hx hb dX8_init_987 rfl (lv_at hl 0 rfl) ?_
  refine lv_bipush (v := 10) hx hb dX8_init_988 (by decide) ?_
  refine tq_newa (atype := .int) (ty := .int) (n := 10) (N' := 10) (a0 := (10, .inl (fun _ => 0))) hx hb (hT _ kw_2_13) rfl hK hP hD hS hA 0 (cA 0) rfl (fun _ => rfl) (by decide) (by decide) (by decide) (Nat.le_of_ble_eq_true rfl) (Nat.le_of_ble_eq_true rfl) dX8_init_990 (fun q6 H hP hD hS => ?_)
  refine W.widen (k := 6) (n := 882) (Nat.le_of_ble_eq_true rfl) (Nat.le_of_ble_eq_true rfl) ?_
  obtain ⟨R6, eR6⟩ : ∃ z : va_W, z = R5 ++ [(q6, .inl (cA 0, 10, .inl (fun _ => 0)))] := ⟨_, rfl⟩
  have hP : va_P G vwCl ((h0, .inr (8, vs6)) :: (q1, .inl (cA 0, 700, .inl (fun _ => 0))) :: (q2, .inl (cA 0, 153, .inl (wfn 153))) :: R6) H := by rw [eR6]; exact hP
  have hD : va_D A ((h0, .inr (8, vs6)) :: (q1, .inl (cA 0, 700, .inl (fun _ => 0))) :: (q2, .inl (cA 0, 153, .inl (wfn 153))) :: R6) := by rw [eR6]; exact hD
  refine va_putF (D := G) (ci := 8) (v := .ref q6) (ty := (.array .int)) (C := RX8) (T := TX8) (N := 91) hx hb hT ku_8 tyX8 tyX8_ok nmX8 hown hK hP hD hS 0 rfl rfl 24 (by decide) (hT _ kw_9_16) (fun _ h9 => h9) rfl hin rfl (by decide +kernel) rfl rfl (by rw [hlen]; decide) dX8_init_992 (fun H locs hP hD hS => ?_)
  obtain ⟨vs7, ev7⟩ : ∃ z : List Value, z = vs6.set 24 (.ref q6) := ⟨_, rfl⟩
  have hlen : vs7.length = 91 := by rw [ev7, List.length_set]; exact hlen
  have hP : va_P G vwCl ((h0, .inr (8, vs7)) :: (q1, .inl (cA 0, 700, .inl (fun _ => 0))) :: (q2, .inl (cA 0, 153, .inl (wfn 153))) :: R6) H := by rw [ev7]; exact hP
  have hD : va_D A ((h0, .inr (8, vs7)) :: (q1, .inl (cA 0, 700, .inl (fun _ => 0))) :: (q2, .inl (cA 0, 153, .inl (wfn 153))) :: R6) := by rw [ev7]; exact hD
  refine lv_aload_n hx hb dX8_init_995 rfl (lv_at hl 0 rfl) ?_
  refine lv_bipush (v := 12) hx hb dX8_init_996 (by decide) ?_
  refine tq_newa (atype := .int) (ty := .int) (n := 12) (N' := 12) (a0 := (12, .inl (fun _ => 0))) hx hb (hT _ kw_2_13) rfl hK hP hD hS hA 0 (cA 0) rfl (fun _ => rfl) (by decide) (by decide) (by decide) (Nat.le_of_ble_eq_true rfl) (Nat.le_of_ble_eq_true rfl) dX8_init_998 (fun q7 H hP hD hS => ?_)
  refine W.widen (k := 7) (n := 894) (Nat.le_of_ble_eq_true rfl) (Nat.le_of_ble_eq_true rfl) ?_
  obtain ⟨R7, eR7⟩ : ∃ z : va_W, z = R6 ++ [(q7, .inl (cA 0, 12, .inl (fun _ => 0)))] := ⟨_, rfl⟩
  have hP : va_P G vwCl ((h0, .inr (8, vs7)) :: (q1, .inl (cA 0, 700, .inl (fun _ => 0))) :: (q2, .inl (cA 0, 153, .inl (wfn 153))) :: R7) H := by rw [eR7]; exact hP
  have hD : va_D A ((h0, .inr (8, vs7)) :: (q1, .inl (cA 0, 700, .inl (fun _ => 0))) :: (q2, .inl (cA 0, 153, .inl (wfn 153))) :: R7) := by rw [eR7]; exact hD
  refine va_putF (D := G) (ci := 8) (v := .ref q7) (ty := (.array .int)) (C := RX8) (T := TX8) (N := 91) hx hb hT ku_8 tyX8 tyX8_ok nmX8 hown hK hP hD hS 0 rfl rfl 25 (by decide) (hT _ kw_9_17) (fun _ h9 => h9) rfl hin rfl (by decide +kernel) rfl rfl (by rw [hlen]; decide) dX8_init_1000 (fun H locs hP hD hS => ?_)
  obtain ⟨vs8, ev8⟩ : ∃ z : List Value, z = vs7.set 25 (.ref q7) := ⟨_, rfl⟩
  have hlen : vs8.length = 91 := by rw [ev8, List.length_set]; exact hlen
  have hP : va_P G vwCl ((h0, .inr (8, vs8)) :: (q1, .inl (cA 0, 700, .inl (fun _ => 0))) :: (q2, .inl (cA 0, 153, .inl (wfn 153))) :: R7) H := by rw [ev8]; exact hP
  have hD : va_D A ((h0, .inr (8, vs8)) :: (q1, .inl (cA 0, 700, .inl (fun _ => 0))) :: (q2, .inl (cA 0, 153, .inl (wfn 153))) :: R7) := by rw [ev8]; exact hD
  refine lv_aload_n hx hb dX8_init_1003 rfl (lv_at hl 0 rfl) ?_
  refine lv_bipush (v := 12) hx hb dX8_init_1004 (by decide) ?_
  refine tq_newa (atype := .int) (ty := .int) (n := 12) (N' := 12) (a0 := (12, .inl (fun _ => 0))) hx hb (hT _ kw_2_13) rfl hK hP hD hS hA 0 (cA 0) rfl (fun _ => rfl) (by decide) (by decide) (by decide) (Nat.le_of_ble_eq_true rfl) (Nat.le_of_ble_eq_true rfl) dX8_init_1006 (fun q8 H hP hD hS => ?_)
  refine W.widen (k := 8) (n := 906) (Nat.le_of_ble_eq_true rfl) (Nat.le_of_ble_eq_true rfl) ?_
  obtain ⟨R8, eR8⟩ : ∃ z : va_W, z = R7 ++ [(q8, .inl (cA 0, 12, .inl (fun _ => 0)))] := ⟨_, rfl⟩
  have hP : va_P G vwCl ((h0, .inr (8, vs8)) :: (q1, .inl (cA 0, 700, .inl (fun _ => 0))) :: (q2, .inl (cA 0, 153, .inl (wfn 153))) :: R8) H := by rw [eR8]; exact hP
  have hD : va_D A ((h0, .inr (8, vs8)) :: (q1, .inl (cA 0, 700, .inl (fun _ => 0))) :: (q2, .inl (cA 0, 153, .inl (wfn 153))) :: R8) := by rw [eR8]; exact hD
  refine va_putF (D := G) (ci := 8) (v := .ref q8) (ty := (.array .int)) (C := RX8) (T := TX8) (N := 91) hx hb hT ku_8 tyX8 tyX8_ok nmX8 hown hK hP hD hS 0 rfl rfl 26 (by decide) (hT _ kw_9_18) (fun _ h9 => h9) rfl hin rfl (by decide +kernel) rfl rfl (by rw [hlen]; decide) dX8_init_1008 (fun H locs hP hD hS => ?_)
  obtain ⟨vs9, ev9⟩ : ∃ z : List Value, z = vs8.set 26 (.ref q8) := ⟨_, rfl⟩
  have hlen : vs9.length = 91 := by rw [ev9, List.length_set]; exact hlen
  have hP : va_P G vwCl ((h0, .inr (8, vs9)) :: (q1, .inl (cA 0, 700, .inl (fun _ => 0))) :: (q2, .inl (cA 0, 153, .inl (wfn 153))) :: R8) H := by rw [ev9]; exact hP
  have hD : va_D A ((h0, .inr (8, vs9)) :: (q1, .inl (cA 0, 700, .inl (fun _ => 0))) :: (q2, .inl (cA 0, 153, .inl (wfn 153))) :: R8) := by rw [ev9]; exact hD
  refine lv_aload_n hx hb dX8_init_1011 rfl (lv_at hl 0 rfl) ?_
  refine lv_bipush (v := 12) hx hb dX8_init_1012 (by decide) ?_
  refine tq_newa (atype := .int) (ty := .int) (n := 12) (N' := 12) (a0 := (12, .inl (fun _ => 0))) hx hb (hT _ kw_2_13) rfl hK hP hD hS hA 0 (cA 0) rfl (fun _ => rfl) (by decide) (by decide) (by decide) (Nat.le_of_ble_eq_true rfl) (Nat.le_of_ble_eq_true rfl) dX8_init_1014 (fun q9 H hP hD hS => ?_)
  refine W.widen (k := 9) (n := 918) (Nat.le_of_ble_eq_true rfl) (Nat.le_of_ble_eq_true rfl) ?_
  obtain ⟨R9, eR9⟩ : ∃ z : va_W, z = R8 ++ [(q9, .inl (cA 0, 12, .inl (fun _ => 0)))] := ⟨_, rfl⟩
  have hP : va_P G vwCl ((h0, .inr (8, vs9)) :: (q1, .inl (cA 0, 700, .inl (fun _ => 0))) :: (q2, .inl (cA 0, 153, .inl (wfn 153))) :: R9) H := by rw [eR9]; exact hP
  have hD : va_D A ((h0, .inr (8, vs9)) :: (q1, .inl (cA 0, 700, .inl (fun _ => 0))) :: (q2, .inl (cA 0, 153, .inl (wfn 153))) :: R9) := by rw [eR9]; exact hD
  refine va_putF (D := G) (ci := 8) (v := .ref q9) (ty := (.array .int)) (C := RX8) (T := TX8) (N := 91) hx hb hT ku_8 tyX8 tyX8_ok nmX8 hown hK hP hD hS 0 rfl rfl 27 (by decide) (hT _ kw_9_19) (fun _ h9 => h9) rfl hin rfl (by decide +kernel) rfl rfl (by rw [hlen]; decide) dX8_init_1016 (fun H locs hP hD hS => ?_)
  obtain ⟨vs10, ev10⟩ : ∃ z : List Value, z = vs9.set 27 (.ref q9) := ⟨_, rfl⟩
  have hlen : vs10.length = 91 := by rw [ev10, List.length_set]; exact hlen
  have hP : va_P G vwCl ((h0, .inr (8, vs10)) :: (q1, .inl (cA 0, 700, .inl (fun _ => 0))) :: (q2, .inl (cA 0, 153, .inl (wfn 153))) :: R9) H := by rw [ev10]; exact hP
  have hD : va_D A ((h0, .inr (8, vs10)) :: (q1, .inl (cA 0, 700, .inl (fun _ => 0))) :: (q2, .inl (cA 0, 153, .inl (wfn 153))) :: R9) := by rw [ev10]; exact hD
  refine lv_aload_n hx hb dX8_init_1019 rfl (lv_at hl 0 rfl) ?_
  refine lv_bipush (v := 12) hx hb dX8_init_1020 (by decide) ?_
  refine tq_newa (atype := .int) (ty := .int) (n := 12) (N' := 12) (a0 := (12, .inl (fun _ => 0))) hx hb (hT _ kw_2_13) rfl hK hP hD hS hA 0 (cA 0) rfl (fun _ => rfl) (by decide) (by decide) (by decide) (Nat.le_of_ble_eq_true rfl) (Nat.le_of_ble_eq_true rfl) dX8_init_1022 (fun q10 H hP hD hS => ?_)
  refine W.widen (k := 10) (n := 930) (Nat.le_of_ble_eq_true rfl) (Nat.le_of_ble_eq_true rfl) ?_
  obtain ⟨R10, eR10⟩ : ∃ z : va_W, z = R9 ++ [(q10, .inl (cA 0, 12, .inl (fun _ => 0)))] := ⟨_, rfl⟩
  have hP : va_P G vwCl ((h0, .inr (8, vs10)) :: (q1, .inl (cA 0, 700, .inl (fun _ => 0))) :: (q2, .inl (cA 0, 153, .inl (wfn 153))) :: R10) H := by rw [eR10]; exact hP
  have hD : va_D A ((h0, .inr (8, vs10)) :: (q1, .inl (cA 0, 700, .inl (fun _ => 0))) :: (q2, .inl (cA 0, 153, .inl (wfn 153))) :: R10) := by rw [eR10]; exact hD
  refine va_putF (D := G) (ci := 8) (v := .ref q10) (ty := (.array .int)) (C := RX8) (T := TX8) (N := 91) hx hb hT ku_8 tyX8 tyX8_ok nmX8 hown hK hP hD hS 0 rfl rfl 28 (by decide) (hT _ kw_9_20) (fun _ h9 => h9) rfl hin rfl (by decide +kernel) rfl rfl (by rw [hlen]; decide) dX8_init_1024 (fun H locs hP hD hS => ?_)
  obtain ⟨vs11, ev11⟩ : ∃ z : List Value, z = vs10.set 28 (.ref q10) := ⟨_, rfl⟩
  have hlen : vs11.length = 91 := by rw [ev11, List.length_set]; exact hlen
  have hP : va_P G vwCl ((h0, .inr (8, vs11)) :: (q1, .inl (cA 0, 700, .inl (fun _ => 0))) :: (q2, .inl (cA 0, 153, .inl (wfn 153))) :: R10) H := by rw [ev11]; exact hP
  have hD : va_D A ((h0, .inr (8, vs11)) :: (q1, .inl (cA 0, 700, .inl (fun _ => 0))) :: (q2, .inl (cA 0, 153, .inl (wfn 153))) :: R10) := by rw [ev11]; exact hD
  refine lv_aload_n hx hb dX8_init_1027 rfl (lv_at hl 0 rfl) ?_
  refine lv_bipush (v := 20) hx hb dX8_init_1028 (by decide) ?_
  refine tq_newa (atype := .int) (ty := .int) (n := 20) (N' := 20) (a0 := (20, .inl (fun _ => 0))) hx hb (hT _ kw_2_13) rfl hK hP hD hS hA 0 (cA 0) rfl (fun _ => rfl) (by decide) (by decide) (by decide) (Nat.le_of_ble_eq_true rfl) (Nat.le_of_ble_eq_true rfl) dX8_init_1030 (fun q11 H hP hD hS => ?_)
  refine W.widen (k := 11) (n := 950) (Nat.le_of_ble_eq_true rfl) (Nat.le_of_ble_eq_true rfl) ?_
  obtain ⟨R11, eR11⟩ : ∃ z : va_W, z = R10 ++ [(q11, .inl (cA 0, 20, .inl (fun _ => 0)))] := ⟨_, rfl⟩
  have hP : va_P G vwCl ((h0, .inr (8, vs11)) :: (q1, .inl (cA 0, 700, .inl (fun _ => 0))) :: (q2, .inl (cA 0, 153, .inl (wfn 153))) :: R11) H := by rw [eR11]; exact hP
  have hD : va_D A ((h0, .inr (8, vs11)) :: (q1, .inl (cA 0, 700, .inl (fun _ => 0))) :: (q2, .inl (cA 0, 153, .inl (wfn 153))) :: R11) := by rw [eR11]; exact hD
  refine va_putF (D := G) (ci := 8) (v := .ref q11) (ty := (.array .int)) (C := RX8) (T := TX8) (N := 91) hx hb hT ku_8 tyX8 tyX8_ok nmX8 hown hK hP hD hS 0 rfl rfl 29 (by decide) (hT _ kw_9_21) (fun _ h9 => h9) rfl hin rfl (by decide +kernel) rfl rfl (by rw [hlen]; decide) dX8_init_1032 (fun H locs hP hD hS => ?_)
  obtain ⟨vs12, ev12⟩ : ∃ z : List Value, z = vs11.set 29 (.ref q11) := ⟨_, rfl⟩
  have hlen : vs12.length = 91 := by rw [ev12, List.length_set]; exact hlen
  have hP : va_P G vwCl ((h0, .inr (8, vs12)) :: (q1, .inl (cA 0, 700, .inl (fun _ => 0))) :: (q2, .inl (cA 0, 153, .inl (wfn 153))) :: R11) H := by rw [ev12]; exact hP
  have hD : va_D A ((h0, .inr (8, vs12)) :: (q1, .inl (cA 0, 700, .inl (fun _ => 0))) :: (q2, .inl (cA 0, 153, .inl (wfn 153))) :: R11) := by rw [ev12]; exact hD
  refine lv_aload_n hx hb dX8_init_1035 rfl (lv_at hl 0 rfl) ?_
  refine lv_bipush (v := 20) hx hb dX8_init_1036 (by decide) ?_
  refine tq_newa (atype := .int) (ty := .int) (n := 20) (N' := 20) (a0 := (20, .inl (fun _ => 0))) hx hb (hT _ kw_2_13) rfl hK hP hD hS hA 0 (cA 0) rfl (fun _ => rfl) (by decide) (by decide) (by decide) (Nat.le_of_ble_eq_true rfl) (Nat.le_of_ble_eq_true rfl) dX8_init_1038 (fun q12 H hP hD hS => ?_)
  refine W.widen (k := 12) (n := 970) (Nat.le_of_ble_eq_true rfl) (Nat.le_of_ble_eq_true rfl) ?_
  obtain ⟨R12, eR12⟩ : ∃ z : va_W, z = R11 ++ [(q12, .inl (cA 0, 20, .inl (fun _ => 0)))] := ⟨_, rfl⟩
  have hP : va_P G vwCl ((h0, .inr (8, vs12)) :: (q1, .inl (cA 0, 700, .inl (fun _ => 0))) :: (q2, .inl (cA 0, 153, .inl (wfn 153))) :: R12) H := by rw [eR12]; exact hP
  have hD : va_D A ((h0, .inr (8, vs12)) :: (q1, .inl (cA 0, 700, .inl (fun _ => 0))) :: (q2, .inl (cA 0, 153, .inl (wfn 153))) :: R12) := by rw [eR12]; exact hD
  refine va_putF (D := G) (ci := 8) (v := .ref q12) (ty := (.array .int)) (C := RX8) (T := TX8) (N := 91) hx hb hT ku_8 tyX8 tyX8_ok nmX8 hown hK hP hD hS 0 rfl rfl 30 (by decide) (hT _ kw_9_22) (fun _ h9 => h9) rfl hin rfl (by decide +kernel) rfl rfl (by rw [hlen]; decide) dX8_init_1040 (fun H locs hP hD hS => ?_)
  obtain ⟨vs13, ev13⟩ : ∃ z : List Value, z = vs12.set 30 (.ref q12) := ⟨_, rfl⟩
  have hlen : vs13.length = 91 := by rw [ev13, List.length_set]; exact hlen
  have hP : va_P G vwCl ((h0, .inr (8, vs13)) :: (q1, .inl (cA 0, 700, .inl (fun _ => 0))) :: (q2, .inl (cA 0, 153, .inl (wfn 153))) :: R12) H := by rw [ev13]; exact hP
  have hD : va_D A ((h0, .inr (8, vs13)) :: (q1, .inl (cA 0, 700, .inl (fun _ => 0))) :: (q2, .inl (cA 0, 153, .inl (wfn 153))) :: R12) := by rw [ev13]; exact hD
  refine lv_aload_n hx hb dX8_init_1043 rfl (lv_at hl 0 rfl) ?_
  refine lv_bipush (v := 20) hx hb dX8_init_1044 (by decide) ?_
  refine tq_newa (atype := .int) (ty := .int) (n := 20) (N' := 20) (a0 := (20, .inl (fun _ => 0))) hx hb (hT _ kw_2_13) rfl hK hP hD hS hA 0 (cA 0) rfl (fun _ => rfl) (by decide) (by decide) (by decide) (Nat.le_of_ble_eq_true rfl) (Nat.le_of_ble_eq_true rfl) dX8_init_1046 (fun q13 H hP hD hS => ?_)
  refine W.widen (k := 13) (n := 990) (Nat.le_of_ble_eq_true rfl) (Nat.le_of_ble_eq_true rfl) ?_
  obtain ⟨R13, eR13⟩ : ∃ z : va_W, z = R12 ++ [(q13, .inl (cA 0, 20, .inl (fun _ => 0)))] := ⟨_, rfl⟩
  have hP : va_P G vwCl ((h0, .inr (8, vs13)) :: (q1, .inl (cA 0, 700, .inl (fun _ => 0))) :: (q2, .inl (cA 0, 153, .inl (wfn 153))) :: R13) H := by rw [eR13]; exact hP
  have hD : va_D A ((h0, .inr (8, vs13)) :: (q1, .inl (cA 0, 700, .inl (fun _ => 0))) :: (q2, .inl (cA 0, 153, .inl (wfn 153))) :: R13) := by rw [eR13]; exact hD
  refine va_putF (D := G) (ci := 8) (v := .ref q13) (ty := (.array .int)) (C := RX8) (T := TX8) (N := 91) hx hb hT ku_8 tyX8 tyX8_ok nmX8 hown hK hP hD hS 0 rfl rfl 31 (by decide) (hT _ kw_9_23) (fun _ h9 => h9) rfl hin rfl (by decide +kernel) rfl rfl (by rw [hlen]; decide) dX8_init_1048 (fun H locs hP hD hS => ?_)
  obtain ⟨vs14, ev14⟩ : ∃ z : List Value, z = vs13.set 31 (.ref q13) := ⟨_, rfl⟩
  have hlen : vs14.length = 91 := by rw [ev14, List.length_set]; exact hlen
  have hP : va_P G vwCl ((h0, .inr (8, vs14)) :: (q1, .inl (cA 0, 700, .inl (fun _ => 0))) :: (q2, .inl (cA 0, 153, .inl (wfn 153))) :: R13) H := by rw [ev14]; exact hP
  have hD : va_D A ((h0, .inr (8, vs14)) :: (q1, .inl (cA 0, 700, .inl (fun _ => 0))) :: (q2, .inl (cA 0, 153, .inl (wfn 153))) :: R13) := by rw [ev14]; exact hD
  refine lv_aload_n hx hb dX8_init_1051 rfl (lv_at hl 0 rfl) ?_
  refine lv_bipush (v := 20) hx hb dX8_init_1052 (by decide) ?_
  refine tq_newa (atype := .int) (ty := .int) (n := 20) (N' := 20) (a0 := (20, .inl (fun _ => 0))) hx hb (hT _ kw_2_13) rfl hK hP hD hS hA 0 (cA 0) rfl (fun _ => rfl) (by decide) (by decide) (by decide) (Nat.le_of_ble_eq_true rfl) (Nat.le_of_ble_eq_true rfl) dX8_init_1054 (fun q14 H hP hD hS => ?_)
  refine W.widen (k := 14) (n := 1010) (Nat.le_of_ble_eq_true rfl) (Nat.le_of_ble_eq_true rfl) ?_
  obtain ⟨R14, eR14⟩ : ∃ z : va_W, z = R13 ++ [(q14, .inl (cA 0, 20, .inl (fun _ => 0)))] := ⟨_, rfl⟩
  have hP : va_P G vwCl ((h0, .inr (8, vs14)) :: (q1, .inl (cA 0, 700, .inl (fun _ => 0))) :: (q2, .inl (cA 0, 153, .inl (wfn 153))) :: R14) H := by rw [eR14]; exact hP
  have hD : va_D A ((h0, .inr (8, vs14)) :: (q1, .inl (cA 0, 700, .inl (fun _ => 0))) :: (q2, .inl (cA 0, 153, .inl (wfn 153))) :: R14) := by rw [eR14]; exact hD
  refine va_putF (D := G) (ci := 8) (v := .ref q14) (ty := (.array .int)) (C := RX8) (T := TX8) (N := 91) hx hb hT ku_8 tyX8 tyX8_ok nmX8 hown hK hP hD hS 0 rfl rfl 32 (by decide) (hT _ kw_10_0) (fun _ h9 => h9) rfl hin rfl (by decide +kernel) rfl rfl (by rw [hlen]; decide) dX8_init_1056 (fun H locs hP hD hS => ?_)
  obtain ⟨vs15, ev15⟩ : ∃ z : List Value, z = vs14.set 32 (.ref q14) := ⟨_, rfl⟩
  have hlen : vs15.length = 91 := by rw [ev15, List.length_set]; exact hlen
  have hP : va_P G vwCl ((h0, .inr (8, vs15)) :: (q1, .inl (cA 0, 700, .inl (fun _ => 0))) :: (q2, .inl (cA 0, 153, .inl (wfn 153))) :: R14) H := by rw [ev15]; exact hP
  have hD : va_D A ((h0, .inr (8, vs15)) :: (q1, .inl (cA 0, 700, .inl (fun _ => 0))) :: (q2, .inl (cA 0, 153, .inl (wfn 153))) :: R14) := by rw [ev15]; exact hD
  refine lv_aload_n hx hb dX8_init_1059 rfl (lv_at hl 0 rfl) ?_
  refine lv_bipush (v := 42) hx hb dX8_init_1060 (by decide) ?_
  refine tq_newa (atype := .int) (ty := .int) (n := 42) (N' := 42) (a0 := (42, .inl (fun _ => 0))) hx hb (hT _ kw_2_13) rfl hK hP hD hS hA 0 (cA 0) rfl (fun _ => rfl) (by decide) (by decide) (by decide) (Nat.le_of_ble_eq_true rfl) (Nat.le_of_ble_eq_true rfl) dX8_init_1062 (fun q15 H hP hD hS => ?_)
  refine W.widen (k := 15) (n := 1052) (Nat.le_of_ble_eq_true rfl) (Nat.le_of_ble_eq_true rfl) ?_
  obtain ⟨R15, eR15⟩ : ∃ z : va_W, z = R14 ++ [(q15, .inl (cA 0, 42, .inl (fun _ => 0)))] := ⟨_, rfl⟩
  have hP : va_P G vwCl ((h0, .inr (8, vs15)) :: (q1, .inl (cA 0, 700, .inl (fun _ => 0))) :: (q2, .inl (cA 0, 153, .inl (wfn 153))) :: R15) H := by rw [eR15]; exact hP
  have hD : va_D A ((h0, .inr (8, vs15)) :: (q1, .inl (cA 0, 700, .inl (fun _ => 0))) :: (q2, .inl (cA 0, 153, .inl (wfn 153))) :: R15) := by rw [eR15]; exact hD
  refine va_putF (D := G) (ci := 8) (v := .ref q15) (ty := (.array .int)) (C := RX8) (T := TX8) (N := 91) hx hb hT ku_8 tyX8 tyX8_ok nmX8 hown hK hP hD hS 0 rfl rfl 33 (by decide) (hT _ kw_10_1) (fun _ h9 => h9) rfl hin rfl (by decide +kernel) rfl rfl (by rw [hlen]; decide) dX8_init_1064 (fun H locs hP hD hS => ?_)
  obtain ⟨vs16, ev16⟩ : ∃ z : List Value, z = vs15.set 33 (.ref q15) := ⟨_, rfl⟩
  have hlen : vs16.length = 91 := by rw [ev16, List.length_set]; exact hlen
  have hP : va_P G vwCl ((h0, .inr (8, vs16)) :: (q1, .inl (cA 0, 700, .inl (fun _ => 0))) :: (q2, .inl (cA 0, 153, .inl (wfn 153))) :: R15) H := by rw [ev16]; exact hP
  have hD : va_D A ((h0, .inr (8, vs16)) :: (q1, .inl (cA 0, 700, .inl (fun _ => 0))) :: (q2, .inl (cA 0, 153, .inl (wfn 153))) :: R15) := by rw [ev16]; exact hD
  refine lv_aload_n hx hb dX8_init_1067 rfl (lv_at hl 0 rfl) ?_
  refine lv_bipush (v := 21) hx hb dX8_init_1068 (by decide) ?_
  refine tq_newa (atype := .boolean) (ty := .boolean) (n := 21) (N' := 21) (a0 := (21, .inl (fun _ => 0))) hx hb (hT _ kw_9_4) rfl hK hP hD hS hA 1 (cA 1) rfl (fun _ => rfl) (by decide) (by decide) (by decide) (Nat.le_of_ble_eq_true rfl) (Nat.le_of_ble_eq_true rfl) dX8_init_1070 (fun q16 H hP hD hS => ?_)
  refine W.widen (k := 16) (n := 1073) (Nat.le_of_ble_eq_true rfl) (Nat.le_of_ble_eq_true rfl) ?_
  obtain ⟨R16, eR16⟩ : ∃ z : va_W, z = R15 ++ [(q16, .inl (cA 1, 21, .inl (fun _ => 0)))] := ⟨_, rfl⟩
  have hP : va_P G vwCl ((h0, .inr (8, vs16)) :: (q1, .inl (cA 0, 700, .inl (fun _ => 0))) :: (q2, .inl (cA 0, 153, .inl (wfn 153))) :: R16) H := by rw [eR16]; exact hP
  have hD : va_D A ((h0, .inr (8, vs16)) :: (q1, .inl (cA 0, 700, .inl (fun _ => 0))) :: (q2, .inl (cA 0, 153, .inl (wfn 153))) :: R16) := by rw [eR16]; exact hD
  refine va_putF (D := G) (ci := 8) (v := .ref q16) (ty := (.array .boolean)) (C := RX8) (T := TX8) (N := 91) hx hb hT ku_8 tyX8 tyX8_ok nmX8 hown hK hP hD hS 0 rfl rfl 34 (by decide) (hT _ kw_10_2) (fun _ h9 => h9) rfl hin rfl (by decide +kernel) rfl rfl (by rw [hlen]; decide) dX8_init_1072 (fun H locs hP hD hS => ?_)
  obtain ⟨vs17, ev17⟩ : ∃ z : List Value, z = vs16.set 34 (.ref q16) := ⟨_, rfl⟩
  have hlen : vs17.length = 91 := by rw [ev17, List.length_set]; exact hlen
  have hP : va_P G vwCl ((h0, .inr (8, vs17)) :: (q1, .inl (cA 0, 700, .inl (fun _ => 0))) :: (q2, .inl (cA 0, 153, .inl (wfn 153))) :: R16) H := by rw [ev17]; exact hP
  have hD : va_D A ((h0, .inr (8, vs17)) :: (q1, .inl (cA 0, 700, .inl (fun _ => 0))) :: (q2, .inl (cA 0, 153, .inl (wfn 153))) :: R16) := by rw [ev17]; exact hD
  refine lv_aload_n hx hb dX8_init_1075 rfl (lv_at hl 0 rfl) ?_
  refine lv_bipush (v := 6) hx hb dX8_init_1076 (by decide) ?_
  refine tq_newa (atype := .boolean) (ty := .boolean) (n := 6) (N' := 6) (a0 := (6, .inl (fun _ => 0))) hx hb (hT _ kw_9_4) rfl hK hP hD hS hA 1 (cA 1) rfl (fun _ => rfl) (by decide) (by decide) (by decide) (Nat.le_of_ble_eq_true rfl) (Nat.le_of_ble_eq_true rfl) dX8_init_1078 (fun q17 H hP hD hS => ?_)
  refine W.widen (k := 17) (n := 1079) (Nat.le_of_ble_eq_true rfl) (Nat.le_of_ble_eq_true rfl) ?_
  obtain ⟨R17, eR17⟩ : ∃ z : va_W, z = R16 ++ [(q17, .inl (cA 1, 6, .inl (fun _ => 0)))] := ⟨_, rfl⟩
  have hP : va_P G vwCl ((h0, .inr (8, vs17)) :: (q1, .inl (cA 0, 700, .inl (fun _ => 0))) :: (q2, .inl (cA 0, 153, .inl (wfn 153))) :: R17) H := by rw [eR17]; exact hP
  have hD : va_D A ((h0, .inr (8, vs17)) :: (q1, .inl (cA 0, 700, .inl (fun _ => 0))) :: (q2, .inl (cA 0, 153, .inl (wfn 153))) :: R17) := by rw [eR17]; exact hD
  refine va_putF (D := G) (ci := 8) (v := .ref q17) (ty := (.array .boolean)) (C := RX8) (T := TX8) (N := 91) hx hb hT ku_8 tyX8 tyX8_ok nmX8 hown hK hP hD hS 0 rfl rfl 35 (by decide) (hT _ kw_10_3) (fun _ h9 => h9) rfl hin rfl (by decide +kernel) rfl rfl (by rw [hlen]; decide) dX8_init_1080 (fun H locs hP hD hS => ?_)
  obtain ⟨vs18, ev18⟩ : ∃ z : List Value, z = vs17.set 35 (.ref q17) := ⟨_, rfl⟩
  have hlen : vs18.length = 91 := by rw [ev18, List.length_set]; exact hlen
  have hP : va_P G vwCl ((h0, .inr (8, vs18)) :: (q1, .inl (cA 0, 700, .inl (fun _ => 0))) :: (q2, .inl (cA 0, 153, .inl (wfn 153))) :: R17) H := by rw [ev18]; exact hP
  have hD : va_D A ((h0, .inr (8, vs18)) :: (q1, .inl (cA 0, 700, .inl (fun _ => 0))) :: (q2, .inl (cA 0, 153, .inl (wfn 153))) :: R17) := by rw [ev18]; exact hD
  refine lv_aload_n hx hb dX8_init_1083 rfl (lv_at hl 0 rfl) ?_
  refine lv_bipush (v := 6) hx hb dX8_init_1084 (by decide) ?_
  refine tq_newa (atype := .int) (ty := .int) (n := 6) (N' := 6) (a0 := (6, .inl (fun _ => 0))) hx hb (hT _ kw_2_13) rfl hK hP hD hS hA 0 (cA 0) rfl (fun _ => rfl) (by decide) (by decide) (by decide) (Nat.le_of_ble_eq_true rfl) (Nat.le_of_ble_eq_true rfl) dX8_init_1086 (fun q18 H hP hD hS => ?_)
  refine W.widen (k := 18) (n := 1085) (Nat.le_of_ble_eq_true rfl) (Nat.le_of_ble_eq_true rfl) ?_
  obtain ⟨R18, eR18⟩ : ∃ z : va_W, z = R17 ++ [(q18, .inl (cA 0, 6, .inl (fun _ => 0)))] := ⟨_, rfl⟩
  have hP : va_P G vwCl ((h0, .inr (8, vs18)) :: (q1, .inl (cA 0, 700, .inl (fun _ => 0))) :: (q2, .inl (cA 0, 153, .inl (wfn 153))) :: R18) H := by rw [eR18]; exact hP
  have hD : va_D A ((h0, .inr (8, vs18)) :: (q1, .inl (cA 0, 700, .inl (fun _ => 0))) :: (q2, .inl (cA 0, 153, .inl (wfn 153))) :: R18) := by rw [eR18]; exact hD
  refine va_putF (D := G) (ci := 8) (v := .ref q18) (ty := (.array .int)) (C := RX8) (T := TX8) (N := 91) hx hb hT ku_8 tyX8 tyX8_ok nmX8 hown hK hP hD hS 0 rfl rfl 36 (by decide) (hT _ kw_10_4) (fun _ h9 => h9) rfl hin rfl (by decide +kernel) rfl rfl (by rw [hlen]; decide) dX8_init_1088 (fun H locs hP hD hS => ?_)
  obtain ⟨vs19, ev19⟩ : ∃ z : List Value, z = vs18.set 36 (.ref q18) := ⟨_, rfl⟩
  have hlen : vs19.length = 91 := by rw [ev19, List.length_set]; exact hlen
  have hP : va_P G vwCl ((h0, .inr (8, vs19)) :: (q1, .inl (cA 0, 700, .inl (fun _ => 0))) :: (q2, .inl (cA 0, 153, .inl (wfn 153))) :: R18) H := by rw [ev19]; exact hP
  have hD : va_D A ((h0, .inr (8, vs19)) :: (q1, .inl (cA 0, 700, .inl (fun _ => 0))) :: (q2, .inl (cA 0, 153, .inl (wfn 153))) :: R18) := by rw [ev19]; exact hD
  refine lv_aload_n hx hb dX8_init_1091 rfl (lv_at hl 0 rfl) ?_
  refine lv_bipush (v := 6) hx hb dX8_init_1092 (by decide) ?_
  refine tq_newa (atype := .int) (ty := .int) (n := 6) (N' := 6) (a0 := (6, .inl (fun _ => 0))) hx hb (hT _ kw_2_13) rfl hK hP hD hS hA 0 (cA 0) rfl (fun _ => rfl) (by decide) (by decide) (by decide) (Nat.le_of_ble_eq_true rfl) (Nat.le_of_ble_eq_true rfl) dX8_init_1094 (fun q19 H hP hD hS => ?_)
  refine W.widen (k := 19) (n := 1091) (Nat.le_of_ble_eq_true rfl) (Nat.le_of_ble_eq_true rfl) ?_
  obtain ⟨R19, eR19⟩ : ∃ z : va_W, z = R18 ++ [(q19, .inl (cA 0, 6, .inl (fun _ => 0)))] := ⟨_, rfl⟩
  have hP : va_P G vwCl ((h0, .inr (8, vs19)) :: (q1, .inl (cA 0, 700, .inl (fun _ => 0))) :: (q2, .inl (cA 0, 153, .inl (wfn 153))) :: R19) H := by rw [eR19]; exact hP
  have hD : va_D A ((h0, .inr (8, vs19)) :: (q1, .inl (cA 0, 700, .inl (fun _ => 0))) :: (q2, .inl (cA 0, 153, .inl (wfn 153))) :: R19) := by rw [eR19]; exact hD
  refine va_putF (D := G) (ci := 8) (v := .ref q19) (ty := (.array .int)) (C := RX8) (T := TX8) (N := 91) hx hb hT ku_8 tyX8 tyX8_ok nmX8 hown hK hP hD hS 0 rfl rfl 37 (by decide) (hT _ kw_10_5) (fun _ h9 => h9) rfl hin rfl (by decide +kernel) rfl rfl (by rw [hlen]; decide) dX8_init_1096 (fun H locs hP hD hS => ?_)
  obtain ⟨vs20, ev20⟩ : ∃ z : List Value, z = vs19.set 37 (.ref q19) := ⟨_, rfl⟩
  have hlen : vs20.length = 91 := by rw [ev20, List.length_set]; exact hlen
  have hP : va_P G vwCl ((h0, .inr (8, vs20)) :: (q1, .inl (cA 0, 700, .inl (fun _ => 0))) :: (q2, .inl (cA 0, 153, .inl (wfn 153))) :: R19) H := by rw [ev20]; exact hP
  have hD : va_D A ((h0, .inr (8, vs20)) :: (q1, .inl (cA 0, 700, .inl (fun _ => 0))) :: (q2, .inl (cA 0, 153, .inl (wfn 153))) :: R19) := by rw [ev20]; exact hD
  refine lv_aload_n hx hb dX8_init_1099 rfl (lv_at hl 0 rfl) ?_
  refine lv_sipush (v := 128) hx hb dX8_init_1100 (by decide) ?_
  refine tq_newa (atype := .int) (ty := .int) (n := 128) (N' := 128) (a0 := (128, .inl (fun _ => 0))) hx hb (hT _ kw_2_13) rfl hK hP hD hS hA 0 (cA 0) rfl (fun _ => rfl) (by decide) (by decide) (by decide) (Nat.le_of_ble_eq_true rfl) (Nat.le_of_ble_eq_true rfl) dX8_init_1103 (fun q20 H hP hD hS => ?_)
  refine W.widen (k := 20) (n := 1219) (Nat.le_of_ble_eq_true rfl) (Nat.le_of_ble_eq_true rfl) ?_
  obtain ⟨R20, eR20⟩ : ∃ z : va_W, z = R19 ++ [(q20, .inl (cA 0, 128, .inl (fun _ => 0)))] := ⟨_, rfl⟩
  have hP : va_P G vwCl ((h0, .inr (8, vs20)) :: (q1, .inl (cA 0, 700, .inl (fun _ => 0))) :: (q2, .inl (cA 0, 153, .inl (wfn 153))) :: R20) H := by rw [eR20]; exact hP
  have hD : va_D A ((h0, .inr (8, vs20)) :: (q1, .inl (cA 0, 700, .inl (fun _ => 0))) :: (q2, .inl (cA 0, 153, .inl (wfn 153))) :: R20) := by rw [eR20]; exact hD
  refine va_putF (D := G) (ci := 8) (v := .ref q20) (ty := (.array .int)) (C := RX8) (T := TX8) (N := 91) hx hb hT ku_8 tyX8 tyX8_ok nmX8 hown hK hP hD hS 0 rfl rfl 38 (by decide) (hT _ kw_10_6) (fun _ h9 => h9) rfl hin rfl (by decide +kernel) rfl rfl (by rw [hlen]; decide) dX8_init_1105 (fun H locs hP hD hS => ?_)
  obtain ⟨vs21, ev21⟩ : ∃ z : List Value, z = vs20.set 38 (.ref q20) := ⟨_, rfl⟩
  have hlen : vs21.length = 91 := by rw [ev21, List.length_set]; exact hlen
  have hP : va_P G vwCl ((h0, .inr (8, vs21)) :: (q1, .inl (cA 0, 700, .inl (fun _ => 0))) :: (q2, .inl (cA 0, 153, .inl (wfn 153))) :: R20) H := by rw [ev21]; exact hP
  have hD : va_D A ((h0, .inr (8, vs21)) :: (q1, .inl (cA 0, 700, .inl (fun _ => 0))) :: (q2, .inl (cA 0, 153, .inl (wfn 153))) :: R20) := by rw [ev21]; exact hD
  refine lv_aload_n hx hb dX8_init_1108 rfl (lv_at hl 0 rfl) ?_
  refine lv_sipush (v := 128) hx hb dX8_init_1109 (by decide) ?_
  refine tq_newa (atype := .int) (ty := .int) (n := 128) (N' := 128) (a0 := (128, .inl (fun _ => 0))) hx hb (hT _ kw_2_13) rfl hK hP hD hS hA 0 (cA 0) rfl (fun _ => rfl) (by decide) (by decide) (by decide) (Nat.le_of_ble_eq_true rfl) (Nat.le_of_ble_eq_true rfl) dX8_init_1112 (fun q21 H hP hD hS => ?_)
  refine W.widen (k := 21) (n := 1347) (Nat.le_of_ble_eq_true rfl) (Nat.le_of_ble_eq_true rfl) ?_
  obtain ⟨R21, eR21⟩ : ∃ z : va_W, z = R20 ++ [(q21, .inl (cA 0, 128, .inl (fun _ => 0)))] := ⟨_, rfl⟩
  have hP : va_P G vwCl ((h0, .inr (8, vs21)) :: (q1, .inl (cA 0, 700, .inl (fun _ => 0))) :: (q2, .inl (cA 0, 153, .inl (wfn 153))) :: R21) H := by rw [eR21]; exact hP
  have hD : va_D A ((h0, .inr (8, vs21)) :: (q1, .inl (cA 0, 700, .inl (fun _ => 0))) :: (q2, .inl (cA 0, 153, .inl (wfn 153))) :: R21) := by rw [eR21]; exact hD
  refine va_putF (D := G) (ci := 8) (v := .ref q21) (ty := (.array .int)) (C := RX8) (T := TX8) (N := 91) hx hb hT ku_8 tyX8 tyX8_ok nmX8 hown hK hP hD hS 0 rfl rfl 39 (by decide) (hT _ kw_10_7) (fun _ h9 => h9) rfl hin rfl (by decide +kernel) rfl rfl (by rw [hlen]; decide) dX8_init_1114 (fun H locs hP hD hS => ?_)
  obtain ⟨vs22, ev22⟩ : ∃ z : List Value, z = vs21.set 39 (.ref q21) := ⟨_, rfl⟩
  have hlen : vs22.length = 91 := by rw [ev22, List.length_set]; exact hlen
  have hP : va_P G vwCl ((h0, .inr (8, vs22)) :: (q1, .inl (cA 0, 700, .inl (fun _ => 0))) :: (q2, .inl (cA 0, 153, .inl (wfn 153))) :: R21) H := by rw [ev22]; exact hP
  have hD : va_D A ((h0, .inr (8, vs22)) :: (q1, .inl (cA 0, 700, .inl (fun _ => 0))) :: (q2, .inl (cA 0, 153, .inl (wfn 153))) :: R21) := by rw [ev22]; exact hD
  refine lv_aload_n hx hb dX8_init_1117 rfl (lv_at hl 0 rfl) ?_
  refine lv_sipush (v := 128) hx hb dX8_init_1118 (by decide) ?_
  refine tq_newa (atype := .int) (ty := .int) (n := 128) (N' := 128) (a0 := (128, .inl (fun _ => 0))) hx hb (hT _ kw_2_13) rfl hK hP hD hS hA 0 (cA 0) rfl (fun _ => rfl) (by decide) (by decide) (by decide) (Nat.le_of_ble_eq_true rfl) (Nat.le_of_ble_eq_true rfl) dX8_init_1121 (fun q22 H hP hD hS => ?_)
  refine W.widen (k := 22) (n := 1475) (Nat.le_of_ble_eq_true rfl) (Nat.le_of_ble_eq_true rfl) ?_
  obtain ⟨R22, eR22⟩ : ∃ z : va_W, z = R21 ++ [(q22, .inl (cA 0, 128, .inl (fun _ => 0)))] := ⟨_, rfl⟩
  have hP : va_P G vwCl ((h0, .inr (8, vs22)) :: (q1, .inl (cA 0, 700, .inl (fun _ => 0))) :: (q2, .inl (cA 0, 153, .inl (wfn 153))) :: R22) H := by rw [eR22]; exact hP
  have hD : va_D A ((h0, .inr (8, vs22)) :: (q1, .inl (cA 0, 700, .inl (fun _ => 0))) :: (q2, .inl (cA 0, 153, .inl (wfn 153))) :: R22) := by rw [eR22]; exact hD
  refine va_putF (D := G) (ci := 8) (v := .ref q22) (ty := (.array .int)) (C := RX8) (T := TX8) (N := 91) hx hb hT ku_8 tyX8 tyX8_ok nmX8 hown hK hP hD hS 0 rfl rfl 40 (by decide) (hT _ kw_10_8) (fun _ h9 => h9) rfl hin rfl (by decide +kernel) rfl rfl (by rw [hlen]; decide) dX8_init_1123 (fun H locs hP hD hS => ?_)
  obtain ⟨vs23, ev23⟩ : ∃ z : List Value, z = vs22.set 40 (.ref q22) := ⟨_, rfl⟩
  have hlen : vs23.length = 91 := by rw [ev23, List.length_set]; exact hlen
  have hP : va_P G vwCl ((h0, .inr (8, vs23)) :: (q1, .inl (cA 0, 700, .inl (fun _ => 0))) :: (q2, .inl (cA 0, 153, .inl (wfn 153))) :: R22) H := by rw [ev23]; exact hP
  have hD : va_D A ((h0, .inr (8, vs23)) :: (q1, .inl (cA 0, 700, .inl (fun _ => 0))) :: (q2, .inl (cA 0, 153, .inl (wfn 153))) :: R22) := by rw [ev23]; exact hD
  refine lv_aload_n hx hb dX8_init_1126 rfl (lv_at hl 0 rfl) ?_
  refine lv_bipush (v := 96) hx hb dX8_init_1127 (by decide) ?_
  refine tq_newa (atype := .int) (ty := .int) (n := 96) (N' := 96) (a0 := (96, .inl (fun _ => 0))) hx hb (hT _ kw_2_13) rfl hK hP hD hS hA 0 (cA 0) rfl (fun _ => rfl) (by decide) (by decide) (by decide) (Nat.le_of_ble_eq_true rfl) (Nat.le_of_ble_eq_true rfl) dX8_init_1129 (fun q23 H hP hD hS => ?_)
  refine W.widen (k := 23) (n := 1571) (Nat.le_of_ble_eq_true rfl) (Nat.le_of_ble_eq_true rfl) ?_
  obtain ⟨R23, eR23⟩ : ∃ z : va_W, z = R22 ++ [(q23, .inl (cA 0, 96, .inl (fun _ => 0)))] := ⟨_, rfl⟩
  have hP : va_P G vwCl ((h0, .inr (8, vs23)) :: (q1, .inl (cA 0, 700, .inl (fun _ => 0))) :: (q2, .inl (cA 0, 153, .inl (wfn 153))) :: R23) H := by rw [eR23]; exact hP
  have hD : va_D A ((h0, .inr (8, vs23)) :: (q1, .inl (cA 0, 700, .inl (fun _ => 0))) :: (q2, .inl (cA 0, 153, .inl (wfn 153))) :: R23) := by rw [eR23]; exact hD
  refine va_putF (D := G) (ci := 8) (v := .ref q23) (ty := (.array .int)) (C := RX8) (T := TX8) (N := 91) hx hb hT ku_8 tyX8 tyX8_ok nmX8 hown hK hP hD hS 0 rfl rfl 41 (by decide) (hT _ kw_10_9) (fun _ h9 => h9) rfl hin rfl (by decide +kernel) rfl rfl (by rw [hlen]; decide) dX8_init_1131 (fun H locs hP hD hS => ?_)
  obtain ⟨vs24, ev24⟩ : ∃ z : List Value, z = vs23.set 41 (.ref q23) := ⟨_, rfl⟩
  have hlen : vs24.length = 91 := by rw [ev24, List.length_set]; exact hlen
  have hP : va_P G vwCl ((h0, .inr (8, vs24)) :: (q1, .inl (cA 0, 700, .inl (fun _ => 0))) :: (q2, .inl (cA 0, 153, .inl (wfn 153))) :: R23) H := by rw [ev24]; exact hP
  have hD : va_D A ((h0, .inr (8, vs24)) :: (q1, .inl (cA 0, 700, .inl (fun _ => 0))) :: (q2, .inl (cA 0, 153, .inl (wfn 153))) :: R23) := by rw [ev24]; exact hD
  refine lv_aload_n hx hb dX8_init_1134 rfl (lv_at hl 0 rfl) ?_
  refine lv_bipush (v := 96) hx hb dX8_init_1135 (by decide) ?_
  refine tq_newa (atype := .int) (ty := .int) (n := 96) (N' := 96) (a0 := (96, .inl (fun _ => 0))) hx hb (hT _ kw_2_13) rfl hK hP hD hS hA 0 (cA 0) rfl (fun _ => rfl) (by decide) (by decide) (by decide) (Nat.le_of_ble_eq_true rfl) (Nat.le_of_ble_eq_true rfl) dX8_init_1137 (fun q24 H hP hD hS => ?_)
  refine W.widen (k := 24) (n := 1667) (Nat.le_of_ble_eq_true rfl) (Nat.le_of_ble_eq_true rfl) ?_
  obtain ⟨R24, eR24⟩ : ∃ z : va_W, z = R23 ++ [(q24, .inl (cA 0, 96, .inl (fun _ => 0)))] := ⟨_, rfl⟩
  have hP : va_P G vwCl ((h0, .inr (8, vs24)) :: (q1, .inl (cA 0, 700, .inl (fun _ => 0))) :: (q2, .inl (cA 0, 153, .inl (wfn 153))) :: R24) H := by rw [eR24]; exact hP
  have hD : va_D A ((h0, .inr (8, vs24)) :: (q1, .inl (cA 0, 700, .inl (fun _ => 0))) :: (q2, .inl (cA 0, 153, .inl (wfn 153))) :: R24) := by rw [eR24]; exact hD
  refine va_putF (D := G) (ci := 8) (v := .ref q24) (ty := (.array .int)) (C := RX8) (T := TX8) (N := 91) hx hb hT ku_8 tyX8 tyX8_ok nmX8 hown hK hP hD hS 0 rfl rfl 42 (by decide) (hT _ kw_10_10) (fun _ h9 => h9) rfl hin rfl (by decide +kernel) rfl rfl (by rw [hlen]; decide) dX8_init_1139 (fun H locs hP hD hS => ?_)
  obtain ⟨vs25, ev25⟩ : ∃ z : List Value, z = vs24.set 42 (.ref q24) := ⟨_, rfl⟩
  have hlen : vs25.length = 91 := by rw [ev25, List.length_set]; exact hlen
  have hP : va_P G vwCl ((h0, .inr (8, vs25)) :: (q1, .inl (cA 0, 700, .inl (fun _ => 0))) :: (q2, .inl (cA 0, 153, .inl (wfn 153))) :: R24) H := by rw [ev25]; exact hP
  have hD : va_D A ((h0, .inr (8, vs25)) :: (q1, .inl (cA 0, 700, .inl (fun _ => 0))) :: (q2, .inl (cA 0, 153, .inl (wfn 153))) :: R24) := by rw [ev25]; exact hD
  refine lv_aload_n hx hb dX8_init_1142 rfl (lv_at hl 0 rfl) ?_
  refine lv_bipush (v := 7) hx hb dX8_init_1143 (by decide) ?_
  refine tq_newa (atype := .long) (ty := .long) (n := 7) (N' := 7) (a0 := (7, .inr (.inl (fun _ => 0)))) hx hb (hT _ kw_1_6) rfl hK hP hD hS hA 2 (cA 2) rfl (fun _ => rfl) (by decide) (by decide) (by decide) (Nat.le_of_ble_eq_true rfl) (Nat.le_of_ble_eq_true rfl) dX8_init_1145 (fun q25 H hP hD hS => ?_)
  refine W.widen (k := 25) (n := 1674) (Nat.le_of_ble_eq_true rfl) (Nat.le_of_ble_eq_true rfl) ?_
  obtain ⟨R25, eR25⟩ : ∃ z : va_W, z = R24 ++ [(q25, .inl (cA 2, 7, .inr (.inl (fun _ => 0))))] := ⟨_, rfl⟩
  have hP : va_P G vwCl ((h0, .inr (8, vs25)) :: (q1, .inl (cA 0, 700, .inl (fun _ => 0))) :: (q2, .inl (cA 0, 153, .inl (wfn 153))) :: R25) H := by rw [eR25]; exact hP
  have hD : va_D A ((h0, .inr (8, vs25)) :: (q1, .inl (cA 0, 700, .inl (fun _ => 0))) :: (q2, .inl (cA 0, 153, .inl (wfn 153))) :: R25) := by rw [eR25]; exact hD
  refine va_putF (D := G) (ci := 8) (v := .ref q25) (ty := (.array .long)) (C := RX8) (T := TX8) (N := 91) hx hb hT ku_8 tyX8 tyX8_ok nmX8 hown hK hP hD hS 0 rfl rfl 49 (by decide) (hT _ kw_10_11) (fun _ h9 => h9) rfl hin rfl (by decide +kernel) rfl rfl (by rw [hlen]; decide) dX8_init_1147 (fun H locs hP hD hS => ?_)
  obtain ⟨vs26, ev26⟩ : ∃ z : List Value, z = vs25.set 49 (.ref q25) := ⟨_, rfl⟩
  have hlen : vs26.length = 91 := by rw [ev26, List.length_set]; exact hlen
  have hP : va_P G vwCl ((h0, .inr (8, vs26)) :: (q1, .inl (cA 0, 700, .inl (fun _ => 0))) :: (q2, .inl (cA 0, 153, .inl (wfn 153))) :: R25) H := by rw [ev26]; exact hP
  have hD : va_D A ((h0, .inr (8, vs26)) :: (q1, .inl (cA 0, 700, .inl (fun _ => 0))) :: (q2, .inl (cA 0, 153, .inl (wfn 153))) :: R25) := by rw [ev26]; exact hD
  refine lv_aload_n hx hb dX8_init_1150 rfl (lv_at hl 0 rfl) ?_
  refine lv_bipush (v := 64) hx hb dX8_init_1151 (by decide) ?_
  refine tq_newa (atype := .long) (ty := .long) (n := 64) (N' := 64) (a0 := (64, .inr (.inl (fun _ => 0)))) hx hb (hT _ kw_1_6) rfl hK hP hD hS hA 2 (cA 2) rfl (fun _ => rfl) (by decide) (by decide) (by decide) (Nat.le_of_ble_eq_true rfl) (Nat.le_of_ble_eq_true rfl) dX8_init_1153 (fun q26 H hP hD hS => ?_)
  refine W.widen (k := 26) (n := 1738) (Nat.le_of_ble_eq_true rfl) (Nat.le_of_ble_eq_true rfl) ?_
  obtain ⟨R26, eR26⟩ : ∃ z : va_W, z = R25 ++ [(q26, .inl (cA 2, 64, .inr (.inl (fun _ => 0))))] := ⟨_, rfl⟩
  have hP : va_P G vwCl ((h0, .inr (8, vs26)) :: (q1, .inl (cA 0, 700, .inl (fun _ => 0))) :: (q2, .inl (cA 0, 153, .inl (wfn 153))) :: R26) H := by rw [eR26]; exact hP
  have hD : va_D A ((h0, .inr (8, vs26)) :: (q1, .inl (cA 0, 700, .inl (fun _ => 0))) :: (q2, .inl (cA 0, 153, .inl (wfn 153))) :: R26) := by rw [eR26]; exact hD
  refine va_putF (D := G) (ci := 8) (v := .ref q26) (ty := (.array .long)) (C := RX8) (T := TX8) (N := 91) hx hb hT ku_8 tyX8 tyX8_ok nmX8 hown hK hP hD hS 0 rfl rfl 50 (by decide) (hT _ kw_10_12) (fun _ h9 => h9) rfl hin rfl (by decide +kernel) rfl rfl (by rw [hlen]; decide) dX8_init_1155 (fun H locs hP hD hS => ?_)
  obtain ⟨vs27, ev27⟩ : ∃ z : List Value, z = vs26.set 50 (.ref q26) := ⟨_, rfl⟩
  have hlen : vs27.length = 91 := by rw [ev27, List.length_set]; exact hlen
  have hP : va_P G vwCl ((h0, .inr (8, vs27)) :: (q1, .inl (cA 0, 700, .inl (fun _ => 0))) :: (q2, .inl (cA 0, 153, .inl (wfn 153))) :: R26) H := by rw [ev27]; exact hP
  have hD : va_D A ((h0, .inr (8, vs27)) :: (q1, .inl (cA 0, 700, .inl (fun _ => 0))) :: (q2, .inl (cA 0, 153, .inl (wfn 153))) :: R26) := by rw [ev27]; exact hD
  refine lv_aload_n hx hb dX8_init_1158 rfl (lv_at hl 0 rfl) ?_
  refine lv_bipush (v := 20) hx hb dX8_init_1159 (by decide) ?_
  refine tq_newa (atype := .int) (ty := .int) (n := 20) (N' := 20) (a0 := (20, .inl (fun _ => 0))) hx hb (hT _ kw_2_13) rfl hK hP hD hS hA 0 (cA 0) rfl (fun _ => rfl) (by decide) (by decide) (by decide) (Nat.le_of_ble_eq_true rfl) (Nat.le_of_ble_eq_true rfl) dX8_init_1161 (fun q27 H hP hD hS => ?_)
  refine W.widen (k := 27) (n := 1758) (Nat.le_of_ble_eq_true rfl) (Nat.le_of_ble_eq_true rfl) ?_
  obtain ⟨R27, eR27⟩ : ∃ z : va_W, z = R26 ++ [(q27, .inl (cA 0, 20, .inl (fun _ => 0)))] := ⟨_, rfl⟩
  have hP : va_P G vwCl ((h0, .inr (8, vs27)) :: (q1, .inl (cA 0, 700, .inl (fun _ => 0))) :: (q2, .inl (cA 0, 153, .inl (wfn 153))) :: R27) H := by rw [eR27]; exact hP
  have hD : va_D A ((h0, .inr (8, vs27)) :: (q1, .inl (cA 0, 700, .inl (fun _ => 0))) :: (q2, .inl (cA 0, 153, .inl (wfn 153))) :: R27) := by rw [eR27]; exact hD
  refine va_putF (D := G) (ci := 8) (v := .ref q27) (ty := (.array .int)) (C := RX8) (T := TX8) (N := 91) hx hb hT ku_8 tyX8 tyX8_ok nmX8 hown hK hP hD hS 0 rfl rfl 52 (by decide) (hT _ kw_10_13) (fun _ h9 => h9) rfl hin rfl (by decide +kernel) rfl rfl (by rw [hlen]; decide) dX8_init_1163 (fun H locs hP hD hS => ?_)
  obtain ⟨vs28, ev28⟩ : ∃ z : List Value, z = vs27.set 52 (.ref q27) := ⟨_, rfl⟩
  have hlen : vs28.length = 91 := by rw [ev28, List.length_set]; exact hlen
  have hP : va_P G vwCl ((h0, .inr (8, vs28)) :: (q1, .inl (cA 0, 700, .inl (fun _ => 0))) :: (q2, .inl (cA 0, 153, .inl (wfn 153))) :: R27) H := by rw [ev28]; exact hP
  have hD : va_D A ((h0, .inr (8, vs28)) :: (q1, .inl (cA 0, 700, .inl (fun _ => 0))) :: (q2, .inl (cA 0, 153, .inl (wfn 153))) :: R27) := by rw [ev28]; exact hD
  refine lv_aload_n hx hb dX8_init_1166 rfl (lv_at hl 0 rfl) ?_
  refine lv_bipush (v := 20) hx hb dX8_init_1167 (by decide) ?_
  refine tq_newa (atype := .int) (ty := .int) (n := 20) (N' := 20) (a0 := (20, .inl (fun _ => 0))) hx hb (hT _ kw_2_13) rfl hK hP hD hS hA 0 (cA 0) rfl (fun _ => rfl) (by decide) (by decide) (by decide) (Nat.le_of_ble_eq_true rfl) (Nat.le_of_ble_eq_true rfl) dX8_init_1169 (fun q28 H hP hD hS => ?_)
  refine W.widen (k := 28) (n := 1778) (Nat.le_of_ble_eq_true rfl) (Nat.le_of_ble_eq_true rfl) ?_
  obtain ⟨R28, eR28⟩ : ∃ z : va_W, z = R27 ++ [(q28, .inl (cA 0, 20, .inl (fun _ => 0)))] := ⟨_, rfl⟩
  have hP : va_P G vwCl ((h0, .inr (8, vs28)) :: (q1, .inl (cA 0, 700, .inl (fun _ => 0))) :: (q2, .inl (cA 0, 153, .inl (wfn 153))) :: R28) H := by rw [eR28]; exact hP
  have hD : va_D A ((h0, .inr (8, vs28)) :: (q1, .inl (cA 0, 700, .inl (fun _ => 0))) :: (q2, .inl (cA 0, 153, .inl (wfn 153))) :: R28) := by rw [eR28]; exact hD
  refine va_putF (D := G) (ci := 8) (v := .ref q28) (ty := (.array .int)) (C := RX8) (T := TX8) (N := 91) hx hb hT ku_8 tyX8 tyX8_ok nmX8 hown hK hP hD hS 0 rfl rfl 53 (by decide) (hT _ kw_10_14) (fun _ h9 => h9) rfl hin rfl (by decide +kernel) rfl rfl (by rw [hlen]; decide) dX8_init_1171 (fun H locs hP hD hS => ?_)
  obtain ⟨vs29, ev29⟩ : ∃ z : List Value, z = vs28.set 53 (.ref q28) := ⟨_, rfl⟩
  have hlen : vs29.length = 91 := by rw [ev29, List.length_set]; exact hlen
  have hP : va_P G vwCl ((h0, .inr (8, vs29)) :: (q1, .inl (cA 0, 700, .inl (fun _ => 0))) :: (q2, .inl (cA 0, 153, .inl (wfn 153))) :: R28) H := by rw [ev29]; exact hP
  have hD : va_D A ((h0, .inr (8, vs29)) :: (q1, .inl (cA 0, 700, .inl (fun _ => 0))) :: (q2, .inl (cA 0, 153, .inl (wfn 153))) :: R28) := by rw [ev29]; exact hD
  refine lv_aload_n hx hb dX8_init_1174 rfl (lv_at hl 0 rfl) ?_
  refine lv_bipush (v := 100) hx hb dX8_init_1175 (by decide) ?_
  refine tq_newa (atype := .int) (ty := .int) (n := 100) (N' := 100) (a0 := (100, .inl (fun _ => 0))) hx hb (hT _ kw_2_13) rfl hK hP hD hS hA 0 (cA 0) rfl (fun _ => rfl) (by decide) (by decide) (by decide) (Nat.le_of_ble_eq_true rfl) (Nat.le_of_ble_eq_true rfl) dX8_init_1177 (fun q29 H hP hD hS => ?_)
  refine W.widen (k := 29) (n := 1878) (Nat.le_of_ble_eq_true rfl) (Nat.le_of_ble_eq_true rfl) ?_
  obtain ⟨R29, eR29⟩ : ∃ z : va_W, z = R28 ++ [(q29, .inl (cA 0, 100, .inl (fun _ => 0)))] := ⟨_, rfl⟩
  have hP : va_P G vwCl ((h0, .inr (8, vs29)) :: (q1, .inl (cA 0, 700, .inl (fun _ => 0))) :: (q2, .inl (cA 0, 153, .inl (wfn 153))) :: R29) H := by rw [eR29]; exact hP
  have hD : va_D A ((h0, .inr (8, vs29)) :: (q1, .inl (cA 0, 700, .inl (fun _ => 0))) :: (q2, .inl (cA 0, 153, .inl (wfn 153))) :: R29) := by rw [eR29]; exact hD
  refine va_putF (D := G) (ci := 8) (v := .ref q29) (ty := (.array .int)) (C := RX8) (T := TX8) (N := 91) hx hb hT ku_8 tyX8 tyX8_ok nmX8 hown hK hP hD hS 0 rfl rfl 54 (by decide) (hT _ kw_10_15) (fun _ h9 => h9) rfl hin rfl (by decide +kernel) rfl rfl (by rw [hlen]; decide) dX8_init_1179 (fun H locs hP hD hS => ?_)
  obtain ⟨vs30, ev30⟩ : ∃ z : List Value, z = vs29.set 54 (.ref q29) := ⟨_, rfl⟩
  have hlen : vs30.length = 91 := by rw [ev30, List.length_set]; exact hlen
  have hP : va_P G vwCl ((h0, .inr (8, vs30)) :: (q1, .inl (cA 0, 700, .inl (fun _ => 0))) :: (q2, .inl (cA 0, 153, .inl (wfn 153))) :: R29) H := by rw [ev30]; exact hP
  have hD : va_D A ((h0, .inr (8, vs30)) :: (q1, .inl (cA 0, 700, .inl (fun _ => 0))) :: (q2, .inl (cA 0, 153, .inl (wfn 153))) :: R29) := by rw [ev30]; exact hD
  refine lv_aload_n hx hb dX8_init_1182 rfl (lv_at hl 0 rfl) ?_
  refine lv_bipush (v := 10) hx hb dX8_init_1183 (by decide) ?_
  refine tq_newa (atype := .int) (ty := .int) (n := 10) (N' := 10) (a0 := (10, .inl (fun _ => 0))) hx hb (hT _ kw_2_13) rfl hK hP hD hS hA 0 (cA 0) rfl (fun _ => rfl) (by decide) (by decide) (by decide) (Nat.le_of_ble_eq_true rfl) (Nat.le_of_ble_eq_true rfl) dX8_init_1185 (fun q30 H hP hD hS => ?_)
  refine W.widen (k := 30) (n := 1888) (Nat.le_of_ble_eq_true rfl) (Nat.le_of_ble_eq_true rfl) ?_
  obtain ⟨R30, eR30⟩ : ∃ z : va_W, z = R29 ++ [(q30, .inl (cA 0, 10, .inl (fun _ => 0)))] := ⟨_, rfl⟩
  have hP : va_P G vwCl ((h0, .inr (8, vs30)) :: (q1, .inl (cA 0, 700, .inl (fun _ => 0))) :: (q2, .inl (cA 0, 153, .inl (wfn 153))) :: R30) H := by rw [eR30]; exact hP
  have hD : va_D A ((h0, .inr (8, vs30)) :: (q1, .inl (cA 0, 700, .inl (fun _ => 0))) :: (q2, .inl (cA 0, 153, .inl (wfn 153))) :: R30) := by rw [eR30]; exact hD
  refine va_putF (D := G) (ci := 8) (v := .ref q30) (ty := (.array .int)) (C := RX8) (T := TX8) (N := 91) hx hb hT ku_8 tyX8 tyX8_ok nmX8 hown hK hP hD hS 0 rfl rfl 55 (by decide) (hT _ kw_10_16) (fun _ h9 => h9) rfl hin rfl (by decide +kernel) rfl rfl (by rw [hlen]; decide) dX8_init_1187 (fun H locs hP hD hS => ?_)
  obtain ⟨vs31, ev31⟩ : ∃ z : List Value, z = vs30.set 55 (.ref q30) := ⟨_, rfl⟩
  have hlen : vs31.length = 91 := by rw [ev31, List.length_set]; exact hlen
  have hP : va_P G vwCl ((h0, .inr (8, vs31)) :: (q1, .inl (cA 0, 700, .inl (fun _ => 0))) :: (q2, .inl (cA 0, 153, .inl (wfn 153))) :: R30) H := by rw [ev31]; exact hP
  have hD : va_D A ((h0, .inr (8, vs31)) :: (q1, .inl (cA 0, 700, .inl (fun _ => 0))) :: (q2, .inl (cA 0, 153, .inl (wfn 153))) :: R30) := by rw [ev31]; exact hD
  refine lv_aload_n hx hb dX8_init_1190 rfl (lv_at hl 0 rfl) ?_
  refine lv_bipush (v := 12) hx hb dX8_init_1191 (by decide) ?_
  refine tq_newa (atype := .int) (ty := .int) (n := 12) (N' := 12) (a0 := (12, .inl (fun _ => 0))) hx hb (hT _ kw_2_13) rfl hK hP hD hS hA 0 (cA 0) rfl (fun _ => rfl) (by decide) (by decide) (by decide) (Nat.le_of_ble_eq_true rfl) (Nat.le_of_ble_eq_true rfl) dX8_init_1193 (fun q31 H hP hD hS => ?_)
  refine W.widen (k := 31) (n := 1900) (Nat.le_of_ble_eq_true rfl) (Nat.le_of_ble_eq_true rfl) ?_
  obtain ⟨R31, eR31⟩ : ∃ z : va_W, z = R30 ++ [(q31, .inl (cA 0, 12, .inl (fun _ => 0)))] := ⟨_, rfl⟩
  have hP : va_P G vwCl ((h0, .inr (8, vs31)) :: (q1, .inl (cA 0, 700, .inl (fun _ => 0))) :: (q2, .inl (cA 0, 153, .inl (wfn 153))) :: R31) H := by rw [eR31]; exact hP
  have hD : va_D A ((h0, .inr (8, vs31)) :: (q1, .inl (cA 0, 700, .inl (fun _ => 0))) :: (q2, .inl (cA 0, 153, .inl (wfn 153))) :: R31) := by rw [eR31]; exact hD
  refine va_putF (D := G) (ci := 8) (v := .ref q31) (ty := (.array .int)) (C := RX8) (T := TX8) (N := 91) hx hb hT ku_8 tyX8 tyX8_ok nmX8 hown hK hP hD hS 0 rfl rfl 56 (by decide) (hT _ kw_10_17) (fun _ h9 => h9) rfl hin rfl (by decide +kernel) rfl rfl (by rw [hlen]; decide) dX8_init_1195 (fun H locs hP hD hS => ?_)
  obtain ⟨vs32, ev32⟩ : ∃ z : List Value, z = vs31.set 56 (.ref q31) := ⟨_, rfl⟩
  have hlen : vs32.length = 91 := by rw [ev32, List.length_set]; exact hlen
  have hP : va_P G vwCl ((h0, .inr (8, vs32)) :: (q1, .inl (cA 0, 700, .inl (fun _ => 0))) :: (q2, .inl (cA 0, 153, .inl (wfn 153))) :: R31) H := by rw [ev32]; exact hP
  have hD : va_D A ((h0, .inr (8, vs32)) :: (q1, .inl (cA 0, 700, .inl (fun _ => 0))) :: (q2, .inl (cA 0, 153, .inl (wfn 153))) :: R31) := by rw [ev32]; exact hD
  refine lv_aload_n hx hb dX8_init_1198 rfl (lv_at hl 0 rfl) ?_
  refine lv_bipush (v := 12) hx hb dX8_init_1199 (by decide) ?_
  refine tq_newa (atype := .int) (ty := .int) (n := 12) (N' := 12) (a0 := (12, .inl (fun _ => 0))) hx hb (hT _ kw_2_13) rfl hK hP hD hS hA 0 (cA 0) rfl (fun _ => rfl) (by decide) (by decide) (by decide) (Nat.le_of_ble_eq_true rfl) (Nat.le_of_ble_eq_true rfl) dX8_init_1201 (fun q32 H hP hD hS => ?_)
  refine W.widen (k := 32) (n := 1912) (Nat.le_of_ble_eq_true rfl) (Nat.le_of_ble_eq_true rfl) ?_
  obtain ⟨R32, eR32⟩ : ∃ z : va_W, z = R31 ++ [(q32, .inl (cA 0, 12, .inl (fun _ => 0)))] := ⟨_, rfl⟩
  have hP : va_P G vwCl ((h0, .inr (8, vs32)) :: (q1, .inl (cA 0, 700, .inl (fun _ => 0))) :: (q2, .inl (cA 0, 153, .inl (wfn 153))) :: R32) H := by rw [eR32]; exact hP
  have hD : va_D A ((h0, .inr (8, vs32)) :: (q1, .inl (cA 0, 700, .inl (fun _ => 0))) :: (q2, .inl (cA 0, 153, .inl (wfn 153))) :: R32) := by rw [eR32]; exact hD
  refine va_putF (D := G) (ci := 8) (v := .ref q32) (ty := (.array .int)) (C := RX8) (T := TX8) (N := 91) hx hb hT ku_8 tyX8 tyX8_ok nmX8 hown hK hP hD hS 0 rfl rfl 57 (by decide) (hT _ kw_10_18) (fun _ h9 => h9) rfl hin rfl (by decide +kernel) rfl rfl (by rw [hlen]; decide) dX8_init_1203 (fun H locs hP hD hS => ?_)
  obtain ⟨vs33, ev33⟩ : ∃ z : List Value, z = vs32.set 57 (.ref q32) := ⟨_, rfl⟩
  have hlen : vs33.length = 91 := by rw [ev33, List.length_set]; exact hlen
  have hP : va_P G vwCl ((h0, .inr (8, vs33)) :: (q1, .inl (cA 0, 700, .inl (fun _ => 0))) :: (q2, .inl (cA 0, 153, .inl (wfn 153))) :: R32) H := by rw [ev33]; exact hP
  have hD : va_D A ((h0, .inr (8, vs33)) :: (q1, .inl (cA 0, 700, .inl (fun _ => 0))) :: (q2, .inl (cA 0, 153, .inl (wfn 153))) :: R32) := by rw [ev33]; exact hD
  refine lv_aload_n hx hb dX8_init_1206 rfl (lv_at hl 0 rfl) ?_
  refine lv_bipush (v := 12) hx hb dX8_init_1207 (by decide) ?_
  refine tq_newa (atype := .int) (ty := .int) (n := 12) (N' := 12) (a0 := (12, .inl (fun _ => 0))) hx hb (hT _ kw_2_13) rfl hK hP hD hS hA 0 (cA 0) rfl (fun _ => rfl) (by decide) (by decide) (by decide) (Nat.le_of_ble_eq_true rfl) (Nat.le_of_ble_eq_true rfl) dX8_init_1209 (fun q33 H hP hD hS => ?_)
  refine W.widen (k := 33) (n := 1924) (Nat.le_of_ble_eq_true rfl) (Nat.le_of_ble_eq_true rfl) ?_
  obtain ⟨R33, eR33⟩ : ∃ z : va_W, z = R32 ++ [(q33, .inl (cA 0, 12, .inl (fun _ => 0)))] := ⟨_, rfl⟩
  have hP : va_P G vwCl ((h0, .inr (8, vs33)) :: (q1, .inl (cA 0, 700, .inl (fun _ => 0))) :: (q2, .inl (cA 0, 153, .inl (wfn 153))) :: R33) H := by rw [eR33]; exact hP
  have hD : va_D A ((h0, .inr (8, vs33)) :: (q1, .inl (cA 0, 700, .inl (fun _ => 0))) :: (q2, .inl (cA 0, 153, .inl (wfn 153))) :: R33) := by rw [eR33]; exact hD
  refine va_putF (D := G) (ci := 8) (v := .ref q33) (ty := (.array .int)) (C := RX8) (T := TX8) (N := 91) hx hb hT ku_8 tyX8 tyX8_ok nmX8 hown hK hP hD hS 0 rfl rfl 58 (by decide) (hT _ kw_10_19) (fun _ h9 => h9) rfl hin rfl (by decide +kernel) rfl rfl (by rw [hlen]; decide) dX8_init_1211 (fun H locs hP hD hS => ?_)
  obtain ⟨vs34, ev34⟩ : ∃ z : List Value, z = vs33.set 58 (.ref q33) := ⟨_, rfl⟩
  have hlen : vs34.length = 91 := by rw [ev34, List.length_set]; exact hlen
  have hP : va_P G vwCl ((h0, .inr (8, vs34)) :: (q1, .inl (cA 0, 700, .inl (fun _ => 0))) :: (q2, .inl (cA 0, 153, .inl (wfn 153))) :: R33) H := by rw [ev34]; exact hP
  have hD : va_D A ((h0, .inr (8, vs34)) :: (q1, .inl (cA 0, 700, .inl (fun _ => 0))) :: (q2, .inl (cA 0, 153, .inl (wfn 153))) :: R33) := by rw [ev34]; exact hD
  refine lv_aload_n hx hb dX8_init_1214 rfl (lv_at hl 0 rfl) ?_
  refine lv_bipush (v := 12) hx hb dX8_init_1215 (by decide) ?_
  refine tq_newa (atype := .int) (ty := .int) (n := 12) (N' := 12) (a0 := (12, .inl (fun _ => 0))) hx hb (hT _ kw_2_13) rfl hK hP hD hS hA 0 (cA 0) rfl (fun _ => rfl) (by decide) (by decide) (by decide) (Nat.le_of_ble_eq_true rfl) (Nat.le_of_ble_eq_true rfl) dX8_init_1217 (fun q34 H hP hD hS => ?_)
  refine W.widen (k := 34) (n := 1936) (Nat.le_of_ble_eq_true rfl) (Nat.le_of_ble_eq_true rfl) ?_
  obtain ⟨R34, eR34⟩ : ∃ z : va_W, z = R33 ++ [(q34, .inl (cA 0, 12, .inl (fun _ => 0)))] := ⟨_, rfl⟩
  have hP : va_P G vwCl ((h0, .inr (8, vs34)) :: (q1, .inl (cA 0, 700, .inl (fun _ => 0))) :: (q2, .inl (cA 0, 153, .inl (wfn 153))) :: R34) H := by rw [eR34]; exact hP
  have hD : va_D A ((h0, .inr (8, vs34)) :: (q1, .inl (cA 0, 700, .inl (fun _ => 0))) :: (q2, .inl (cA 0, 153, .inl (wfn 153))) :: R34) := by rw [eR34]; exact hD
  refine va_putF (D := G) (ci := 8) (v := .ref q34) (ty := (.array .int)) (C := RX8) (T := TX8) (N := 91) hx hb hT ku_8 tyX8 tyX8_ok nmX8 hown hK hP hD hS 0 rfl rfl 59 (by decide) (hT _ kw_10_20) (fun _ h9 => h9) rfl hin rfl (by decide +kernel) rfl rfl (by rw [hlen]; decide) dX8_init_1219 (fun H locs hP hD hS => ?_)
  obtain ⟨vs35, ev35⟩ : ∃ z : List Value, z = vs34.set 59 (.ref q34) := ⟨_, rfl⟩
  have hlen : vs35.length = 91 := by rw [ev35, List.length_set]; exact hlen
  have hP : va_P G vwCl ((h0, .inr (8, vs35)) :: (q1, .inl (cA 0, 700, .inl (fun _ => 0))) :: (q2, .inl (cA 0, 153, .inl (wfn 153))) :: R34) H := by rw [ev35]; exact hP
  have hD : va_D A ((h0, .inr (8, vs35)) :: (q1, .inl (cA 0, 700, .inl (fun _ => 0))) :: (q2, .inl (cA 0, 153, .inl (wfn 153))) :: R34) := by rw [ev35]; exact hD
  refine lv_aload_n hx hb dX8_init_1222 rfl (lv_at hl 0 rfl) ?_
  refine lv_iconst (v := 2) hx hb dX8_init_1223 (by decide) ?_
  refine tq_newa (atype := .int) (ty := .int) (n := 2) (N' := 2) (a0 := (2, .inl (fun _ => 0))) hx hb (hT _ kw_2_13) rfl hK hP hD hS hA 0 (cA 0) rfl (fun _ => rfl) (by decide) (by decide) (by decide) (Nat.le_of_ble_eq_true rfl) (Nat.le_of_ble_eq_true rfl) dX8_init_1224 (fun q35 H hP hD hS => ?_)
  refine W.widen (k := 35) (n := 1938) (Nat.le_of_ble_eq_true rfl) (Nat.le_of_ble_eq_true rfl) ?_
  obtain ⟨R35, eR35⟩ : ∃ z : va_W, z = R34 ++ [(q35, .inl (cA 0, 2, .inl (fun _ => 0)))] := ⟨_, rfl⟩
  have hP : va_P G vwCl ((h0, .inr (8, vs35)) :: (q1, .inl (cA 0, 700, .inl (fun _ => 0))) :: (q2, .inl (cA 0, 153, .inl (wfn 153))) :: R35) H := by rw [eR35]; exact hP
  have hD : va_D A ((h0, .inr (8, vs35)) :: (q1, .inl (cA 0, 700, .inl (fun _ => 0))) :: (q2, .inl (cA 0, 153, .inl (wfn 153))) :: R35) := by rw [eR35]; exact hD
  refine va_putF (D := G) (ci := 8) (v := .ref q35) (ty := (.array .int)) (C := RX8) (T := TX8) (N := 91) hx hb hT ku_8 tyX8 tyX8_ok nmX8 hown hK hP hD hS 0 rfl rfl 60 (by decide) (hT _ kw_10_21) (fun _ h9 => h9) rfl hin rfl (by decide +kernel) rfl rfl (by rw [hlen]; decide) dX8_init_1226 (fun H locs hP hD hS => ?_)
  obtain ⟨vs36, ev36⟩ : ∃ z : List Value, z = vs35.set 60 (.ref q35) := ⟨_, rfl⟩
  have hlen : vs36.length = 91 := by rw [ev36, List.length_set]; exact hlen
  have hP : va_P G vwCl ((h0, .inr (8, vs36)) :: (q1, .inl (cA 0, 700, .inl (fun _ => 0))) :: (q2, .inl (cA 0, 153, .inl (wfn 153))) :: R35) H := by rw [ev36]; exact hP
  have hD : va_D A ((h0, .inr (8, vs36)) :: (q1, .inl (cA 0, 700, .inl (fun _ => 0))) :: (q2, .inl (cA 0, 153, .inl (wfn 153))) :: R35) := by rw [ev36]; exact hD
  refine lv_aload_n hx hb dX8_init_1229 rfl (lv_at hl 0 rfl) ?_
  refine lv_iconst (v := 2) hx hb dX8_init_1230 (by decide) ?_
  refine tq_newa (atype := .int) (ty := .int) (n := 2) (N' := 2) (a0 := (2, .inl (fun _ => 0))) hx hb (hT _ kw_2_13) rfl hK hP hD hS hA 0 (cA 0) rfl (fun _ => rfl) (by decide) (by decide) (by decide) (Nat.le_of_ble_eq_true rfl) (Nat.le_of_ble_eq_true rfl) dX8_init_1231 (fun q36 H hP hD hS => ?_)
  refine W.widen (k := 36) (n := 1940) (Nat.le_of_ble_eq_true rfl) (Nat.le_of_ble_eq_true rfl) ?_
  obtain ⟨R36, eR36⟩ : ∃ z : va_W, z = R35 ++ [(q36, .inl (cA 0, 2, .inl (fun _ => 0)))] := ⟨_, rfl⟩
  have hP : va_P G vwCl ((h0, .inr (8, vs36)) :: (q1, .inl (cA 0, 700, .inl (fun _ => 0))) :: (q2, .inl (cA 0, 153, .inl (wfn 153))) :: R36) H := by rw [eR36]; exact hP
  have hD : va_D A ((h0, .inr (8, vs36)) :: (q1, .inl (cA 0, 700, .inl (fun _ => 0))) :: (q2, .inl (cA 0, 153, .inl (wfn 153))) :: R36) := by rw [eR36]; exact hD
  refine va_putF (D := G) (ci := 8) (v := .ref q36) (ty := (.array .int)) (C := RX8) (T := TX8) (N := 91) hx hb hT ku_8 tyX8 tyX8_ok nmX8 hown hK hP hD hS 0 rfl rfl 61 (by decide) (hT _ kw_10_22) (fun _ h9 => h9) rfl hin rfl (by decide +kernel) rfl rfl (by rw [hlen]; decide) dX8_init_1233 (fun H locs hP hD hS => ?_)
  obtain ⟨vs37, ev37⟩ : ∃ z : List Value, z = vs36.set 61 (.ref q36) := ⟨_, rfl⟩
  have hlen : vs37.length = 91 := by rw [ev37, List.length_set]; exact hlen
  have hP : va_P G vwCl ((h0, .inr (8, vs37)) :: (q1, .inl (cA 0, 700, .inl (fun _ => 0))) :: (q2, .inl (cA 0, 153, .inl (wfn 153))) :: R36) H := by rw [ev37]; exact hP
  have hD : va_D A ((h0, .inr (8, vs37)) :: (q1, .inl (cA 0, 700, .inl (fun _ => 0))) :: (q2, .inl (cA 0, 153, .inl (wfn 153))) :: R36) := by rw [ev37]; exact hD
  refine lv_aload_n hx hb dX8_init_1236 rfl (lv_at hl 0 rfl) ?_
  refine lv_iconst (v := 2) hx hb dX8_init_1237 (by decide) ?_
  refine tq_newa (atype := .int) (ty := .int) (n := 2) (N' := 2) (a0 := (2, .inl (fun _ => 0))) hx hb (hT _ kw_2_13) rfl hK hP hD hS hA 0 (cA 0) rfl (fun _ => rfl) (by decide) (by decide) (by decide) (Nat.le_of_ble_eq_true rfl) (Nat.le_of_ble_eq_true rfl) dX8_init_1238 (fun q37 H hP hD hS => ?_)
  refine W.widen (k := 37) (n := 1942) (Nat.le_of_ble_eq_true rfl) (Nat.le_of_ble_eq_true rfl) ?_
  obtain ⟨R37, eR37⟩ : ∃ z : va_W, z = R36 ++ [(q37, .inl (cA 0, 2, .inl (fun _ => 0)))] := ⟨_, rfl⟩
  have hP : va_P G vwCl ((h0, .inr (8, vs37)) :: (q1, .inl (cA 0, 700, .inl (fun _ => 0))) :: (q2, .inl (cA 0, 153, .inl (wfn 153))) :: R37) H := by rw [eR37]; exact hP
  have hD : va_D A ((h0, .inr (8, vs37)) :: (q1, .inl (cA 0, 700, .inl (fun _ => 0))) :: (q2, .inl (cA 0, 153, .inl (wfn 153))) :: R37) := by rw [eR37]; exact hD
  refine va_putF (D := G) (ci := 8) (v := .ref q37) (ty := (.array .int)) (C := RX8) (T := TX8) (N := 91) hx hb hT ku_8 tyX8 tyX8_ok nmX8 hown hK hP hD hS 0 rfl rfl 62 (by decide) (hT _ kw_10_23) (fun _ h9 => h9) rfl hin rfl (by decide +kernel) rfl rfl (by rw [hlen]; decide) dX8_init_1240 (fun H locs hP hD hS => ?_)
  obtain ⟨vs38, ev38⟩ : ∃ z : List Value, z = vs37.set 62 (.ref q37) := ⟨_, rfl⟩
  have hlen : vs38.length = 91 := by rw [ev38, List.length_set]; exact hlen
  have hP : va_P G vwCl ((h0, .inr (8, vs38)) :: (q1, .inl (cA 0, 700, .inl (fun _ => 0))) :: (q2, .inl (cA 0, 153, .inl (wfn 153))) :: R37) H := by rw [ev38]; exact hP
  have hD : va_D A ((h0, .inr (8, vs38)) :: (q1, .inl (cA 0, 700, .inl (fun _ => 0))) :: (q2, .inl (cA 0, 153, .inl (wfn 153))) :: R37) := by rw [ev38]; exact hD
  refine lv_aload_n hx hb dX8_init_1243 rfl (lv_at hl 0 rfl) ?_
  refine lv_bipush (v := 10) hx hb dX8_init_1244 (by decide) ?_
  refine tq_newa (atype := .int) (ty := .int) (n := 10) (N' := 10) (a0 := (10, .inl (fun _ => 0))) hx hb (hT _ kw_2_13) rfl hK hP hD hS hA 0 (cA 0) rfl (fun _ => rfl) (by decide) (by decide) (by decide) (Nat.le_of_ble_eq_true rfl) (Nat.le_of_ble_eq_true rfl) dX8_init_1246 (fun q38 H hP hD hS => ?_)
  refine W.widen (k := 38) (n := 1952) (Nat.le_of_ble_eq_true rfl) (Nat.le_of_ble_eq_true rfl) ?_
  obtain ⟨R38, eR38⟩ : ∃ z : va_W, z = R37 ++ [(q38, .inl (cA 0, 10, .inl (fun _ => 0)))] := ⟨_, rfl⟩
  have hP : va_P G vwCl ((h0, .inr (8, vs38)) :: (q1, .inl (cA 0, 700, .inl (fun _ => 0))) :: (q2, .inl (cA 0, 153, .inl (wfn 153))) :: R38) H := by rw [eR38]; exact hP
  have hD : va_D A ((h0, .inr (8, vs38)) :: (q1, .inl (cA 0, 700, .inl (fun _ => 0))) :: (q2, .inl (cA 0, 153, .inl (wfn 153))) :: R38) := by rw [eR38]; exact hD
  refine va_putF (D := G) (ci := 8) (v := .ref q38) (ty := (.array .int)) (C := RX8) (T := TX8) (N := 91) hx hb hT ku_8 tyX8 tyX8_ok nmX8 hown hK hP hD hS 0 rfl rfl 71 (by decide) (hT _ kw_11_0) (fun _ h9 => h9) rfl hin rfl (by decide +kernel) rfl rfl (by rw [hlen]; decide) dX8_init_1248 (fun H locs hP hD hS => ?_)
  obtain ⟨vs39, ev39⟩ : ∃ z : List Value, z = vs38.set 71 (.ref q38) := ⟨_, rfl⟩
  have hlen : vs39.length = 91 := by rw [ev39, List.length_set]; exact hlen
  have hP : va_P G vwCl ((h0, .inr (8, vs39)) :: (q1, .inl (cA 0, 700, .inl (fun _ => 0))) :: (q2, .inl (cA 0, 153, .inl (wfn 153))) :: R38) H := by rw [ev39]; exact hP
  have hD : va_D A ((h0, .inr (8, vs39)) :: (q1, .inl (cA 0, 700, .inl (fun _ => 0))) :: (q2, .inl (cA 0, 153, .inl (wfn 153))) :: R38) := by rw [ev39]; exact hD
  refine lv_aload_n hx hb dX8_init_1251 rfl (lv_at hl 0 rfl) ?_
  refine lv_bipush (v := 10) hx hb dX8_init_1252 (by decide) ?_
  refine tq_newa (atype := .int) (ty := .int) (n := 10) (N' := 10) (a0 := (10, .inl (fun _ => 0))) hx hb (hT _ kw_2_13) rfl hK hP hD hS hA 0 (cA 0) rfl (fun _ => rfl) (by decide) (by decide) (by decide) (Nat.le_of_ble_eq_true rfl) (Nat.le_of_ble_eq_true rfl) dX8_init_1254 (fun q39 H hP hD hS => ?_)
  refine W.widen (k := 39) (n := 1962) (Nat.le_of_ble_eq_true rfl) (Nat.le_of_ble_eq_true rfl) ?_
  obtain ⟨R39, eR39⟩ : ∃ z : va_W, z = R38 ++ [(q39, .inl (cA 0, 10, .inl (fun _ => 0)))] := ⟨_, rfl⟩
  have hP : va_P G vwCl ((h0, .inr (8, vs39)) :: (q1, .inl (cA 0, 700, .inl (fun _ => 0))) :: (q2, .inl (cA 0, 153, .inl (wfn 153))) :: R39) H := by rw [eR39]; exact hP
  have hD : va_D A ((h0, .inr (8, vs39)) :: (q1, .inl (cA 0, 700, .inl (fun _ => 0))) :: (q2, .inl (cA 0, 153, .inl (wfn 153))) :: R39) := by rw [eR39]; exact hD
  refine va_putF (D := G) (ci := 8) (v := .ref q39) (ty := (.array .int)) (C := RX8) (T := TX8) (N := 91) hx hb hT ku_8 tyX8 tyX8_ok nmX8 hown hK hP hD hS 0 rfl rfl 73 (by decide) (hT _ kw_11_1) (fun _ h9 => h9) rfl hin rfl (by decide +kernel) rfl rfl (by rw [hlen]; decide) dX8_init_1256 (fun H locs hP hD hS => ?_)
  obtain ⟨vs40, ev40⟩ : ∃ z : List Value, z = vs39.set 73 (.ref q39) := ⟨_, rfl⟩
  have hlen : vs40.length = 91 := by rw [ev40, List.length_set]; exact hlen
  have hP : va_P G vwCl ((h0, .inr (8, vs40)) :: (q1, .inl (cA 0, 700, .inl (fun _ => 0))) :: (q2, .inl (cA 0, 153, .inl (wfn 153))) :: R39) H := by rw [ev40]; exact hP
  have hD : va_D A ((h0, .inr (8, vs40)) :: (q1, .inl (cA 0, 700, .inl (fun _ => 0))) :: (q2, .inl (cA 0, 153, .inl (wfn 153))) :: R39) := by rw [ev40]; exact hD
  refine lv_aload_n hx hb dX8_init_1259 rfl (lv_at hl 0 rfl) ?_
  refine lv_iconst (v := 4) hx hb dX8_init_1260 (by decide) ?_
  refine tq_newa (atype := .int) (ty := .int) (n := 4) (N' := 4) (a0 := (4, .inl (fun _ => 0))) hx hb (hT _ kw_2_13) rfl hK hP hD hS hA 0 (cA 0) rfl (fun _ => rfl) (by decide) (by decide) (by decide) (Nat.le_of_ble_eq_true rfl) (Nat.le_of_ble_eq_true rfl) dX8_init_1261 (fun q40 H hP hD hS => ?_)
  refine W.widen (k := 40) (n := 1966) (Nat.le_of_ble_eq_true rfl) (Nat.le_of_ble_eq_true rfl) ?_
  obtain ⟨R40, eR40⟩ : ∃ z : va_W, z = R39 ++ [(q40, .inl (cA 0, 4, .inl (fun _ => 0)))] := ⟨_, rfl⟩
  have hP : va_P G vwCl ((h0, .inr (8, vs40)) :: (q1, .inl (cA 0, 700, .inl (fun _ => 0))) :: (q2, .inl (cA 0, 153, .inl (wfn 153))) :: R40) H := by rw [eR40]; exact hP
  have hD : va_D A ((h0, .inr (8, vs40)) :: (q1, .inl (cA 0, 700, .inl (fun _ => 0))) :: (q2, .inl (cA 0, 153, .inl (wfn 153))) :: R40) := by rw [eR40]; exact hD
  refine va_putF (D := G) (ci := 8) (v := .ref q40) (ty := (.array .int)) (C := RX8) (T := TX8) (N := 91) hx hb hT ku_8 tyX8 tyX8_ok nmX8 hown hK hP hD hS 0 rfl rfl 74 (by decide) (hT _ kw_11_2) (fun _ h9 => h9) rfl hin rfl (by decide +kernel) rfl rfl (by rw [hlen]; decide) dX8_init_1263 (fun H locs hP hD hS => ?_)
  obtain ⟨vs41, ev41⟩ : ∃ z : List Value, z = vs40.set 74 (.ref q40) := ⟨_, rfl⟩
  have hlen : vs41.length = 91 := by rw [ev41, List.length_set]; exact hlen
  have hP : va_P G vwCl ((h0, .inr (8, vs41)) :: (q1, .inl (cA 0, 700, .inl (fun _ => 0))) :: (q2, .inl (cA 0, 153, .inl (wfn 153))) :: R40) H := by rw [ev41]; exact hP
  have hD : va_D A ((h0, .inr (8, vs41)) :: (q1, .inl (cA 0, 700, .inl (fun _ => 0))) :: (q2, .inl (cA 0, 153, .inl (wfn 153))) :: R40) := by rw [ev41]; exact hD
  refine lv_aload_n hx hb dX8_init_1266 rfl (lv_at hl 0 rfl) ?_
  refine lv_iconst (v := 4) hx hb dX8_init_1267 (by decide) ?_
  refine tq_newa (atype := .int) (ty := .int) (n := 4) (N' := 4) (a0 := (4, .inl (fun _ => 0))) hx hb (hT _ kw_2_13) rfl hK hP hD hS hA 0 (cA 0) rfl (fun _ => rfl) (by decide) (by decide) (by decide) (Nat.le_of_ble_eq_true rfl) (Nat.le_of_ble_eq_true rfl) dX8_init_1268 (fun q41 H hP hD hS => ?_)
  refine W.widen (k := 41) (n := 1970) (Nat.le_of_ble_eq_true rfl) (Nat.le_of_ble_eq_true rfl) ?_
  obtain ⟨R41, eR41⟩ : ∃ z : va_W, z = R40 ++ [(q41, .inl (cA 0, 4, .inl (fun _ => 0)))] := ⟨_, rfl⟩
  have hP : va_P G vwCl ((h0, .inr (8, vs41)) :: (q1, .inl (cA 0, 700, .inl (fun _ => 0))) :: (q2, .inl (cA 0, 153, .inl (wfn 153))) :: R41) H := by rw [eR41]; exact hP
  have hD : va_D A ((h0, .inr (8, vs41)) :: (q1, .inl (cA 0, 700, .inl (fun _ => 0))) :: (q2, .inl (cA 0, 153, .inl (wfn 153))) :: R41) := by rw [eR41]; exact hD
  refine va_putF (D := G) (ci := 8) (v := .ref q41) (ty := (.array .int)) (C := RX8) (T := TX8) (N := 91) hx hb hT ku_8 tyX8 tyX8_ok nmX8 hown hK hP hD hS 0 rfl rfl 75 (by decide) (hT _ kw_11_3) (fun _ h9 => h9) rfl hin rfl (by decide +kernel) rfl rfl (by rw [hlen]; decide) dX8_init_1270 (fun H locs hP hD hS => ?_)
  obtain ⟨vs42, ev42⟩ : ∃ z : List Value, z = vs41.set 75 (.ref q41) := ⟨_, rfl⟩
  have hlen : vs42.length = 91 := by rw [ev42, List.length_set]; exact hlen
  have hP : va_P G vwCl ((h0, .inr (8, vs42)) :: (q1, .inl (cA 0, 700, .inl (fun _ => 0))) :: (q2, .inl (cA 0, 153, .inl (wfn 153))) :: R41) H := by rw [ev42]; exact hP
  have hD : va_D A ((h0, .inr (8, vs42)) :: (q1, .inl (cA 0, 700, .inl (fun _ => 0))) :: (q2, .inl (cA 0, 153, .inl (wfn 153))) :: R41) := by rw [ev42]; exact hD
  refine lv_aload_n hx hb dX8_init_1273 rfl (lv_at hl 0 rfl) ?_
  refine lv_bipush (v := 25) hx hb dX8_init_1274 (by decide) ?_
  refine tq_newa (atype := .int) (ty := .int) (n := 25) (N' := 25) (a0 := (25, .inl (fun _ => 0))) hx hb (hT _ kw_2_13) rfl hK hP hD hS hA 0 (cA 0) rfl (fun _ => rfl) (by decide) (by decide) (by decide) (Nat.le_of_ble_eq_true rfl) (Nat.le_of_ble_eq_true rfl) dX8_init_1276 (fun q42 H hP hD hS => ?_)
  refine W.widen (k := 42) (n := 1995) (Nat.le_of_ble_eq_true rfl) (Nat.le_of_ble_eq_true rfl) ?_
  obtain ⟨R42, eR42⟩ : ∃ z : va_W, z = R41 ++ [(q42, .inl (cA 0, 25, .inl (fun _ => 0)))] := ⟨_, rfl⟩
  have hP : va_P G vwCl ((h0, .inr (8, vs42)) :: (q1, .inl (cA 0, 700, .inl (fun _ => 0))) :: (q2, .inl (cA 0, 153, .inl (wfn 153))) :: R42) H := by rw [eR42]; exact hP
  have hD : va_D A ((h0, .inr (8, vs42)) :: (q1, .inl (cA 0, 700, .inl (fun _ => 0))) :: (q2, .inl (cA 0, 153, .inl (wfn 153))) :: R42) := by rw [eR42]; exact hD
  refine va_putF (D := G) (ci := 8) (v := .ref q42) (ty := (.array .int)) (C := RX8) (T := TX8) (N := 91) hx hb hT ku_8 tyX8 tyX8_ok nmX8 hown hK hP hD hS 0 rfl rfl 76 (by decide) (hT _ kw_11_4) (fun _ h9 => h9) rfl hin rfl (by decide +kernel) rfl rfl (by rw [hlen]; decide) dX8_init_1278 (fun H locs hP hD hS => ?_)
  obtain ⟨vs43, ev43⟩ : ∃ z : List Value, z = vs42.set 76 (.ref q42) := ⟨_, rfl⟩
  have hlen : vs43.length = 91 := by rw [ev43, List.length_set]; exact hlen
  have hP : va_P G vwCl ((h0, .inr (8, vs43)) :: (q1, .inl (cA 0, 700, .inl (fun _ => 0))) :: (q2, .inl (cA 0, 153, .inl (wfn 153))) :: R42) H := by rw [ev43]; exact hP
  have hD : va_D A ((h0, .inr (8, vs43)) :: (q1, .inl (cA 0, 700, .inl (fun _ => 0))) :: (q2, .inl (cA 0, 153, .inl (wfn 153))) :: R42) := by rw [ev43]; exact hD
  refine lv_aload_n hx hb dX8_init_1281 rfl (lv_at hl 0 rfl) ?_
  refine lv_bipush (v := 25) hx hb dX8_init_1282 (by decide) ?_
  refine tq_newa (atype := .int) (ty := .int) (n := 25) (N' := 25) (a0 := (25, .inl (fun _ => 0))) hx hb (hT _ kw_2_13) rfl hK hP hD hS hA 0 (cA 0) rfl (fun _ => rfl) (by decide) (by decide) (by decide) (Nat.le_of_ble_eq_true rfl) (Nat.le_of_ble_eq_true rfl) dX8_init_1284 (fun q43 H hP hD hS => ?_)
  refine W.widen (k := 43) (n := 2020) (Nat.le_of_ble_eq_true rfl) (Nat.le_of_ble_eq_true rfl) ?_
  obtain ⟨R43, eR43⟩ : ∃ z : va_W, z = R42 ++ [(q43, .inl (cA 0, 25, .inl (fun _ => 0)))] := ⟨_, rfl⟩
  have hP : va_P G vwCl ((h0, .inr (8, vs43)) :: (q1, .inl (cA 0, 700, .inl (fun _ => 0))) :: (q2, .inl (cA 0, 153, .inl (wfn 153))) :: R43) H := by rw [eR43]; exact hP
  have hD : va_D A ((h0, .inr (8, vs43)) :: (q1, .inl (cA 0, 700, .inl (fun _ => 0))) :: (q2, .inl (cA 0, 153, .inl (wfn 153))) :: R43) := by rw [eR43]; exact hD
  refine va_putF (D := G) (ci := 8) (v := .ref q43) (ty := (.array .int)) (C := RX8) (T := TX8) (N := 91) hx hb hT ku_8 tyX8 tyX8_ok nmX8 hown hK hP hD hS 0 rfl rfl 77 (by decide) (hT _ kw_11_5) (fun _ h9 => h9) rfl hin rfl (by decide +kernel) rfl rfl (by rw [hlen]; decide) dX8_init_1286 (fun H locs hP hD hS => ?_)
  obtain ⟨vs44, ev44⟩ : ∃ z : List Value, z = vs43.set 77 (.ref q43) := ⟨_, rfl⟩
  have hlen : vs44.length = 91 := by rw [ev44, List.length_set]; exact hlen
  have hP : va_P G vwCl ((h0, .inr (8, vs44)) :: (q1, .inl (cA 0, 700, .inl (fun _ => 0))) :: (q2, .inl (cA 0, 153, .inl (wfn 153))) :: R43) H := by rw [ev44]; exact hP
  have hD : va_D A ((h0, .inr (8, vs44)) :: (q1, .inl (cA 0, 700, .inl (fun _ => 0))) :: (q2, .inl (cA 0, 153, .inl (wfn 153))) :: R43) := by rw [ev44]; exact hD
  refine lv_aload_n hx hb dX8_init_1289 rfl (lv_at hl 0 rfl) ?_
  refine lv_iconst (v := (-1)) hx hb dX8_init_1290 (by decide) ?_
  refine va_put (D := G) (ci := 8) (v := .int (-1)) (ty := .int) (C := RX8) (T := TX8) (N := 91) hx hb hT ku_8 tyX8 tyX8_ok nmX8 hown hK hP hD hS 0 rfl rfl 79 (by decide) (hT _ kw_11_6) (fun _ h9 => h9) rfl (by decide +kernel) rfl rfl (by rw [hlen]; decide) dX8_init_1291 (fun H locs hP hD hS => ?_)
  obtain ⟨vs45, ev45⟩ : ∃ z : List Value, z = vs44.set 79 (.int (-1)) := ⟨_, rfl⟩
  have hlen : vs45.length = 91 := by rw [ev45, List.length_set]; exact hlen
  have hP : va_P G vwCl ((h0, .inr (8, vs45)) :: (q1, .inl (cA 0, 700, .inl (fun _ => 0))) :: (q2, .inl (cA 0, 153, .inl (wfn 153))) :: R43) H := by rw [ev45]; exact hP
  have hD : va_D A ((h0, .inr (8, vs45)) :: (q1, .inl (cA 0, 700, .inl (fun _ => 0))) :: (q2, .inl (cA 0, 153, .inl (wfn 153))) :: R43) := by rw [ev45]; exact hD
  refine lv_aload_n hx hb dX8_init_1294 rfl (lv_at hl 0 rfl) ?_
  refine lv_bipush (v := 96) hx hb dX8_init_1295 (by decide) ?_
  refine tq_newa (atype := .int) (ty := .int) (n := 96) (N' := 96) (a0 := (96, .inl (fun _ => 0))) hx hb (hT _ kw_2_13) rfl hK hP hD hS hA 0 (cA 0) rfl (fun _ => rfl) (by decide) (by decide) (by decide) (Nat.le_of_ble_eq_true rfl) (Nat.le_of_ble_eq_true rfl) dX8_init_1297 (fun q44 H hP hD hS => ?_)
  refine W.widen (k := 44) (n := 2116) (Nat.le_of_ble_eq_true rfl) (Nat.le_of_ble_eq_true rfl) ?_
  obtain ⟨R44, eR44⟩ : ∃ z : va_W, z = R43 ++ [(q44, .inl (cA 0, 96, .inl (fun _ => 0)))] := ⟨_, rfl⟩
  have hP : va_P G vwCl ((h0, .inr (8, vs45)) :: (q1, .inl (cA 0, 700, .inl (fun _ => 0))) :: (q2, .inl (cA 0, 153, .inl (wfn 153))) :: R44) H := by rw [eR44]; exact hP
  have hD : va_D A ((h0, .inr (8, vs45)) :: (q1, .inl (cA 0, 700, .inl (fun _ => 0))) :: (q2, .inl (cA 0, 153, .inl (wfn 153))) :: R44) := by rw [eR44]; exact hD
  refine va_putF (D := G) (ci := 8) (v := .ref q44) (ty := (.array .int)) (C := RX8) (T := TX8) (N := 91) hx hb hT ku_8 tyX8 tyX8_ok nmX8 hown hK hP hD hS 0 rfl rfl 80 (by decide) (hT _ kw_11_7) (fun _ h9 => h9) rfl hin rfl (by decide +kernel) rfl rfl (by rw [hlen]; decide) dX8_init_1299 (fun H locs hP hD hS => ?_)
  obtain ⟨vs46, ev46⟩ : ∃ z : List Value, z = vs45.set 80 (.ref q44) := ⟨_, rfl⟩
  have hlen : vs46.length = 91 := by rw [ev46, List.length_set]; exact hlen
  have hP : va_P G vwCl ((h0, .inr (8, vs46)) :: (q1, .inl (cA 0, 700, .inl (fun _ => 0))) :: (q2, .inl (cA 0, 153, .inl (wfn 153))) :: R44) H := by rw [ev46]; exact hP
  have hD : va_D A ((h0, .inr (8, vs46)) :: (q1, .inl (cA 0, 700, .inl (fun _ => 0))) :: (q2, .inl (cA 0, 153, .inl (wfn 153))) :: R44) := by rw [ev46]; exact hD
  refine lv_aload_n hx hb dX8_init_1302 rfl (lv_at hl 0 rfl) ?_
  refine lv_bipush (v := 24) hx hb dX8_init_1303 (by decide) ?_
  refine tq_newa (atype := .boolean) (ty := .boolean) (n := 24) (N' := 24) (a0 := (24, .inl (fun _ => 0))) hx hb (hT _ kw_9_4) rfl hK hP hD hS hA 1 (cA 1) rfl (fun _ => rfl) (by decide) (by decide) (by decide) (Nat.le_of_ble_eq_true rfl) (Nat.le_of_ble_eq_true rfl) dX8_init_1305 (fun q45 H hP hD hS => ?_)
  refine W.widen (k := 45) (n := 2140) (Nat.le_of_ble_eq_true rfl) (Nat.le_of_ble_eq_true rfl) ?_
  obtain ⟨R45, eR45⟩ : ∃ z : va_W, z = R44 ++ [(q45, .inl (cA 1, 24, .inl (fun _ => 0)))] := ⟨_, rfl⟩
  have hP : va_P G vwCl ((h0, .inr (8, vs46)) :: (q1, .inl (cA 0, 700, .inl (fun _ => 0))) :: (q2, .inl (cA 0, 153, .inl (wfn 153))) :: R45) H := by rw [eR45]; exact hP
  have hD : va_D A ((h0, .inr (8, vs46)) :: (q1, .inl (cA 0, 700, .inl (fun _ => 0))) :: (q2, .inl (cA 0, 153, .inl (wfn 153))) :: R45) := by rw [eR45]; exact hD
  refine va_putF (D := G) (ci := 8) (v := .ref q45) (ty := (.array .boolean)) (C := RX8) (T := TX8) (N := 91) hx hb hT ku_8 tyX8 tyX8_ok nmX8 hown hK hP hD hS 0 rfl rfl 81 (by decide) (hT _ kw_11_8) (fun _ h9 => h9) rfl hin rfl (by decide +kernel) rfl rfl (by rw [hlen]; decide) dX8_init_1307 (fun H locs hP hD hS => ?_)
  obtain ⟨vs47, ev47⟩ : ∃ z : List Value, z = vs46.set 81 (.ref q45) := ⟨_, rfl⟩
  have hlen : vs47.length = 91 := by rw [ev47, List.length_set]; exact hlen
  have hP : va_P G vwCl ((h0, .inr (8, vs47)) :: (q1, .inl (cA 0, 700, .inl (fun _ => 0))) :: (q2, .inl (cA 0, 153, .inl (wfn 153))) :: R45) H := by rw [ev47]; exact hP
  have hD : va_D A ((h0, .inr (8, vs47)) :: (q1, .inl (cA 0, 700, .inl (fun _ => 0))) :: (q2, .inl (cA 0, 153, .inl (wfn 153))) :: R45) := by rw [ev47]; exact hD
  refine lv_aload_n hx hb dX8_init_1310 rfl (lv_at hl 0 rfl) ?_
  refine lv_sipush (v := 1220) hx hb dX8_init_1311 (by decide) ?_
  refine tq_newa (atype := .int) (ty := .int) (n := 1220) (N' := 1220) (a0 := (1220, .inl (fun _ => 0))) hx hb (hT _ kw_2_13) rfl hK hP hD hS hA 0 (cA 0) rfl (fun _ => rfl) (by decide) (by decide) (by decide) (Nat.le_of_ble_eq_true rfl) (Nat.le_of_ble_eq_true rfl) dX8_init_1314 (fun q46 H hP hD hS => ?_)
  refine W.widen (k := 46) (n := 3360) (Nat.le_of_ble_eq_true rfl) (Nat.le_of_ble_eq_true rfl) ?_
  obtain ⟨R46, eR46⟩ : ∃ z : va_W, z = R45 ++ [(q46, .inl (cA 0, 1220, .inl (fun _ => 0)))] := ⟨_, rfl⟩
  have hP : va_P G vwCl ((h0, .inr (8, vs47)) :: (q1, .inl (cA 0, 700, .inl (fun _ => 0))) :: (q2, .inl (cA 0, 153, .inl (wfn 153))) :: R46) H := by rw [eR46]; exact hP
  have hD : va_D A ((h0, .inr (8, vs47)) :: (q1, .inl (cA 0, 700, .inl (fun _ => 0))) :: (q2, .inl (cA 0, 153, .inl (wfn 153))) :: R46) := by rw [eR46]; exact hD
  refine va_putF (D := G) (ci := 8) (v := .ref q46) (ty := (.array .int)) (C := RX8) (T := TX8) (N := 91) hx hb hT ku_8 tyX8 tyX8_ok nmX8 hown hK hP hD hS 0 rfl rfl 83 (by decide) (hT _ kw_11_9) (fun _ h9 => h9) rfl hin rfl (by decide +kernel) rfl rfl (by rw [hlen]; decide) dX8_init_1316 (fun H locs hP hD hS => ?_)
  obtain ⟨vs48, ev48⟩ : ∃ z : List Value, z = vs47.set 83 (.ref q46) := ⟨_, rfl⟩
  have hlen : vs48.length = 91 := by rw [ev48, List.length_set]; exact hlen
  have hP : va_P G vwCl ((h0, .inr (8, vs48)) :: (q1, .inl (cA 0, 700, .inl (fun _ => 0))) :: (q2, .inl (cA 0, 153, .inl (wfn 153))) :: R46) H := by rw [ev48]; exact hP
  have hD : va_D A ((h0, .inr (8, vs48)) :: (q1, .inl (cA 0, 700, .inl (fun _ => 0))) :: (q2, .inl (cA 0, 153, .inl (wfn 153))) :: R46) := by rw [ev48]; exact hD
  refine lv_aload_n hx hb dX8_init_1319 rfl (lv_at hl 0 rfl) ?_
  refine lv_bipush (v := 61) hx hb dX8_init_1320 (by decide) ?_
  refine tq_newa (atype := .int) (ty := .int) (n := 61) (N' := 61) (a0 := (61, .inl (fun _ => 0))) hx hb (hT _ kw_2_13) rfl hK hP hD hS hA 0 (cA 0) rfl (fun _ => rfl) (by decide) (by decide) (by decide) (Nat.le_of_ble_eq_true rfl) (Nat.le_of_ble_eq_true rfl) dX8_init_1322 (fun q47 H hP hD hS => ?_)
  refine W.widen (k := 47) (n := 3421) (Nat.le_of_ble_eq_true rfl) (Nat.le_of_ble_eq_true rfl) ?_
  obtain ⟨R47, eR47⟩ : ∃ z : va_W, z = R46 ++ [(q47, .inl (cA 0, 61, .inl (fun _ => 0)))] := ⟨_, rfl⟩
  have hP : va_P G vwCl ((h0, .inr (8, vs48)) :: (q1, .inl (cA 0, 700, .inl (fun _ => 0))) :: (q2, .inl (cA 0, 153, .inl (wfn 153))) :: R47) H := by rw [eR47]; exact hP
  have hD : va_D A ((h0, .inr (8, vs48)) :: (q1, .inl (cA 0, 700, .inl (fun _ => 0))) :: (q2, .inl (cA 0, 153, .inl (wfn 153))) :: R47) := by rw [eR47]; exact hD
  refine va_putF (D := G) (ci := 8) (v := .ref q47) (ty := (.array .int)) (C := RX8) (T := TX8) (N := 91) hx hb hT ku_8 tyX8 tyX8_ok nmX8 hown hK hP hD hS 0 rfl rfl 85 (by decide) (hT _ kw_11_10) (fun _ h9 => h9) rfl hin rfl (by decide +kernel) rfl rfl (by rw [hlen]; decide) dX8_init_1324 (fun H locs hP hD hS => ?_)
  obtain ⟨vs49, ev49⟩ : ∃ z : List Value, z = vs48.set 85 (.ref q47) := ⟨_, rfl⟩
  have hlen : vs49.length = 91 := by rw [ev49, List.length_set]; exact hlen
  have hP : va_P G vwCl ((h0, .inr (8, vs49)) :: (q1, .inl (cA 0, 700, .inl (fun _ => 0))) :: (q2, .inl (cA 0, 153, .inl (wfn 153))) :: R47) H := by rw [ev49]; exact hP
  have hD : va_D A ((h0, .inr (8, vs49)) :: (q1, .inl (cA 0, 700, .inl (fun _ => 0))) :: (q2, .inl (cA 0, 153, .inl (wfn 153))) :: R47) := by rw [ev49]; exact hD
  refine lv_aload_n hx hb dX8_init_1327 rfl (lv_at hl 0 rfl) ?_
  refine lv_bipush (v := 10) hx hb dX8_init_1328 (by decide) ?_
  refine tq_newa (atype := .int) (ty := .int) (n := 10) (N' := 10) (a0 := (10, .inl (fun _ => 0))) hx hb (hT _ kw_2_13) rfl hK hP hD hS hA 0 (cA 0) rfl (fun _ => rfl) (by decide) (by decide) (by decide) (Nat.le_of_ble_eq_true rfl) (Nat.le_of_ble_eq_true rfl) dX8_init_1330 (fun q48 H hP hD hS => ?_)
  refine W.widen (k := 48) (n := 3431) (Nat.le_of_ble_eq_true rfl) (Nat.le_of_ble_eq_true rfl) ?_
  obtain ⟨R48, eR48⟩ : ∃ z : va_W, z = R47 ++ [(q48, .inl (cA 0, 10, .inl (fun _ => 0)))] := ⟨_, rfl⟩
  have hP : va_P G vwCl ((h0, .inr (8, vs49)) :: (q1, .inl (cA 0, 700, .inl (fun _ => 0))) :: (q2, .inl (cA 0, 153, .inl (wfn 153))) :: R48) H := by rw [eR48]; exact hP
  have hD : va_D A ((h0, .inr (8, vs49)) :: (q1, .inl (cA 0, 700, .inl (fun _ => 0))) :: (q2, .inl (cA 0, 153, .inl (wfn 153))) :: R48) := by rw [eR48]; exact hD
  refine va_putF (D := G) (ci := 8) (v := .ref q48) (ty := (.array .int)) (C := RX8) (T := TX8) (N := 91) hx hb hT ku_8 tyX8 tyX8_ok nmX8 hown hK hP hD hS 0 rfl rfl 86 (by decide) (hT _ kw_11_11) (fun _ h9 => h9) rfl hin rfl (by decide +kernel) rfl rfl (by rw [hlen]; decide) dX8_init_1332 (fun H locs hP hD hS => ?_)
  obtain ⟨vs50, ev50⟩ : ∃ z : List Value, z = vs49.set 86 (.ref q48) := ⟨_, rfl⟩
  have hlen : vs50.length = 91 := by rw [ev50, List.length_set]; exact hlen
  have hP : va_P G vwCl ((h0, .inr (8, vs50)) :: (q1, .inl (cA 0, 700, .inl (fun _ => 0))) :: (q2, .inl (cA 0, 153, .inl (wfn 153))) :: R48) H := by rw [ev50]; exact hP
  have hD : va_D A ((h0, .inr (8, vs50)) :: (q1, .inl (cA 0, 700, .inl (fun _ => 0))) :: (q2, .inl (cA 0, 153, .inl (wfn 153))) :: R48) := by rw [ev50]; exact hD
  refine lv_aload_n hx hb dX8_init_1335 rfl (lv_at hl 0 rfl) ?_
  refine lv_bipush (v := 12) hx hb dX8_init_1336 (by decide) ?_
  refine tq_newa (atype := .int) (ty := .int) (n := 12) (N' := 12) (a0 := (12, .inl (fun _ => 0))) hx hb (hT _ kw_2_13) rfl hK hP hD hS hA 0 (cA 0) rfl (fun _ => rfl) (by decide) (by decide) (by decide) (Nat.le_of_ble_eq_true rfl) (Nat.le_of_ble_eq_true rfl) dX8_init_1338 (fun q49 H hP hD hS => ?_)
  refine W.widen (k := 49) (n := 3443) (Nat.le_of_ble_eq_true rfl) (Nat.le_of_ble_eq_true rfl) ?_
  obtain ⟨R49, eR49⟩ : ∃ z : va_W, z = R48 ++ [(q49, .inl (cA 0, 12, .inl (fun _ => 0)))] := ⟨_, rfl⟩
  have hP : va_P G vwCl ((h0, .inr (8, vs50)) :: (q1, .inl (cA 0, 700, .inl (fun _ => 0))) :: (q2, .inl (cA 0, 153, .inl (wfn 153))) :: R49) H := by rw [eR49]; exact hP
  have hD : va_D A ((h0, .inr (8, vs50)) :: (q1, .inl (cA 0, 700, .inl (fun _ => 0))) :: (q2, .inl (cA 0, 153, .inl (wfn 153))) :: R49) := by rw [eR49]; exact hD
  refine va_putF (D := G) (ci := 8) (v := .ref q49) (ty := (.array .int)) (C := RX8) (T := TX8) (N := 91) hx hb hT ku_8 tyX8 tyX8_ok nmX8 hown hK hP hD hS 0 rfl rfl 87 (by decide) (hT _ kw_11_12) (fun _ h9 => h9) rfl hin rfl (by decide +kernel) rfl rfl (by rw [hlen]; decide) dX8_init_1340 (fun H locs hP hD hS => ?_)
  obtain ⟨vs51, ev51⟩ : ∃ z : List Value, z = vs50.set 87 (.ref q49) := ⟨_, rfl⟩
  have hlen : vs51.length = 91 := by rw [ev51, List.length_set]; exact hlen
  have hP : va_P G vwCl ((h0, .inr (8, vs51)) :: (q1, .inl (cA 0, 700, .inl (fun _ => 0))) :: (q2, .inl (cA 0, 153, .inl (wfn 153))) :: R49) H := by rw [ev51]; exact hP
  have hD : va_D A ((h0, .inr (8, vs51)) :: (q1, .inl (cA 0, 700, .inl (fun _ => 0))) :: (q2, .inl (cA 0, 153, .inl (wfn 153))) :: R49) := by rw [ev51]; exact hD
  have eW := k8_w cA h0 q1 q2 q3 q4 q5 q6 q7 q8 q9 q10 q11 q12 q13 q14 q15 q16 q17 q18 q19 q20 q21 q22 q23 q24 q25 q26 q27 q28 q29 q30 q31 q32 q33 q34 q35 q36 q37 q38 q39 q40 q41 q42 q43 q44 q45 q46 q47 q48 q49
  rw [ev51, ev50, ev49, ev48, ev47, ev46, ev45, ev44, ev43, ev42, ev41, ev40, ev39, ev38, ev37, ev36, ev35, ev34, ev33, ev32, ev31, ev30, ev29, ev28, ev27, ev26, ev25, ev24, ev23, ev22, ev21, ev20, ev19, ev18, ev17, ev16, ev15, ev14, ev13, ev12, ev11, ev10, ev9, ev8, ev7, ev6, ev5, ev4, ev3, ev2, eR49, eR48, eR47, eR46, eR45, eR44, eR43, eR42, eR41, eR40, eR39, eR38, eR37, eR36, eR35, eR34, eR33, eR32, eR31, eR30, eR29, eR28, eR27, eR26, eR25, eR24, eR23, eR22, eR21, eR20, eR19, eR18, eR17, eR16, eR15, eR14, eR13, eR12, eR11, eR10, eR9, eR8, eR7, eR6, eR5, eR4, eR3, eR2, eW] at hP hD
  exact hk H locs (fun k => bif Nat.beq k 1 then q1 else bif Nat.beq k 4 then q2 else bif Nat.beq k 22 then q3 else bif Nat.beq k 23 then q4 else bif Nat.beq k 24 then q5 else bif Nat.beq k 25 then q6 else bif Nat.beq k 26 then q7 else bif Nat.beq k 27 then q8 else bif Nat.beq k 28 then q9 else bif Nat.beq k 29 then q10 else bif Nat.beq k 30 then q11 else bif Nat.beq k 31 then q12 else bif Nat.beq k 32 then q13 else bif Nat.beq k 33 then q14 else bif Nat.beq k 34 then q15 else bif Nat.beq k 35 then q16 else bif Nat.beq k 36 then q17 else bif Nat.beq k 37 then q18 else bif Nat.beq k 38 then q19 else bif Nat.beq k 39 then q20 else bif Nat.beq k 40 then q21 else bif Nat.beq k 41 then q22 else bif Nat.beq k 42 then q23 else bif Nat.beq k 43 then q24 else bif Nat.beq k 50 then q25 else bif Nat.beq k 51 then q26 else bif Nat.beq k 53 then q27 else bif Nat.beq k 54 then q28 else bif Nat.beq k 55 then q29 else bif Nat.beq k 56 then q30 else bif Nat.beq k 57 then q31 else bif Nat.beq k 58 then q32 else bif Nat.beq k 59 then q33 else bif Nat.beq k 60 then q34 else bif Nat.beq k 61 then q35 else bif Nat.beq k 62 then q36 else bif Nat.beq k 63 then q37 else bif Nat.beq k 72 then q38 else bif Nat.beq k 74 then q39 else bif Nat.beq k 75 then q40 else bif Nat.beq k 76 then q41 else bif Nat.beq k 77 then q42 else bif Nat.beq k 78 then q43 else bif Nat.beq k 81 then q44 else bif Nat.beq k 82 then q45 else bif Nat.beq k 84 then q46 else bif Nat.beq k 86 then q47 else bif Nat.beq k 87 then q48 else bif Nat.beq k 88 then q49 else h0) rfl hP hD hS
