set_option maxHeartbeats 8000000 in
set_option maxRecDepth 100000 in
theorem k8_a {p : Program} {l : Launch} {e : Env} {s : State} {m : MethodId} {below : List Frame} {meth : Method} {c : Code} {G : va_G} {cA : Nat → ClassId} {A : Nat → Prop} {h0 : Nat} (F : tF p s m ([.ref h0] : List Value).toArray meth c G cA A RX8 cX8_init 1 none) (hin : meth.name = "<init>") {H : Heap} {locs : List Loc} {ls : Array Slot} (hl : lv_has ls 1 [(0, .ref h0)]) (hP : va_P G vwCl [(h0, .inr (8, [.null, .int 0, .int 0, .null, .int 0, .int 0, .int 0, .int 0, .int 0, .int 0, .int 0, .int 0, .int 0, .int 0, .int 0, .int 0, .int 0, .int 0, .int 0, .int 0, .int 0, .null, .null, .null, .null, .null, .null, .null, .null, .null, .null, .null, .null, .null, .null, .null, .null, .null, .null, .null, .null, .null, .null, .int 0, .int 0, .int 0, .int 0, .int 0, .int 0, .null, .null, .int 0, .null, .null, .null, .null, .null, .null, .null, .null, .null, .null, .null, .long 0, .int 0, .int 0, .int 0, .int 0, .int 0, .int 0, .int 0, .null, .int 0, .null, .null, .null, .null, .null, .int 0, .int 0, .null, .null, .int 0, .null, .int 0, .null, .null, .null, .int 0, .int 0, .long 0]))] H) (hD : va_D A [(h0, .inr (8, [.null, .int 0, .int 0, .null, .int 0, .int 0, .int 0, .int 0, .int 0, .int 0, .int 0, .int 0, .int 0, .int 0, .int 0, .int 0, .int 0, .int 0, .int 0, .int 0, .int 0, .null, .null, .null, .null, .null, .null, .null, .null, .null, .null, .null, .null, .null, .null, .null, .null, .null, .null, .null, .null, .null, .null, .int 0, .int 0, .int 0, .int 0, .int 0, .int 0, .null, .null, .int 0, .null, .null, .null, .null, .null, .null, .null, .null, .null, .null, .null, .long 0, .int 0, .int 0, .int 0, .int 0, .int 0, .int 0, .int 0, .null, .int 0, .null, .null, .null, .null, .null, .int 0, .int 0, .null, .null, .int 0, .null, .int 0, .null, .null, .null, .int 0, .int 0, .long 0]))]) (hS : va_S A s.heap H locs) (hk : ∀ (H : Heap) (locs : List Loc) (q1 q2 : Nat) (vs2 : List Value), vs2 = (([.null, .int 0, .int 0, .null, .int 0, .int 0, .int 0, .int 0, .int 0, .int 0, .int 0, .int 0, .int 0, .int 0, .int 0, .int 0, .int 0, .int 0, .int 0, .int 0, .int 0, .null, .null, .null, .null, .null, .null, .null, .null, .null, .null, .null, .null, .null, .null, .null, .null, .null, .null, .null, .null, .null, .null, .int 0, .int 0, .int 0, .int 0, .int 0, .int 0, .null, .null, .int 0, .null, .null, .null, .null, .null, .null, .null, .null, .null, .null, .null, .long 0, .int 0, .int 0, .int 0, .int 0, .int 0, .int 0, .int 0, .null, .int 0, .null, .null, .null, .null, .null, .int 0, .int 0, .null, .null, .int 0, .null, .int 0, .null, .null, .null, .int 0, .int 0, .long 0] : List Value).set 0 (.ref q1)).set 3 (.ref q2) → vs2.length = 91 → va_P G vwCl ((h0, .inr (8, vs2)) :: (q1, .inl (cA 0, 700, .inl (fun _ => 0))) :: (q2, .inl (cA 0, 153, .inl (wfn 153))) :: []) H → va_D A ((h0, .inr (8, vs2)) :: (q1, .inl (cA 0, 700, .inl (fun _ => 0))) :: (q2, .inl (cA 0, 153, .inl (wfn 153))) :: []) → va_S A s.heap H locs → GI8 p l e s m below meth c G cA A h0 H locs 2 853 (F0 m 959 ls [])) : GI8 p l e s m below meth c G cA A h0 H locs 0 0 (F0 m 0 ls []) := by
  obtain ⟨hx, hb, hr, hml, hT, hown, hlocks, hK, hN, hA⟩ := id F
  obtain ⟨vs0, ev0⟩ : ∃ z : List Value, z = [.null, .int 0, .int 0, .null, .int 0, .int 0, .int 0, .int 0, .int 0, .int 0, .int 0, .int 0, .int 0, .int 0, .int 0, .int 0, .int 0, .int 0, .int 0, .int 0, .int 0, .null, .null, .null, .null, .null, .null, .null, .null, .null, .null, .null, .null, .null, .null, .null, .null, .null, .null, .null, .null, .null, .null, .int 0, .int 0, .int 0, .int 0, .int 0, .int 0, .null, .null, .int 0, .null, .null, .null, .null, .null, .null, .null, .null, .null, .null, .null, .long 0, .int 0, .int 0, .int 0, .int 0, .int 0, .int 0, .int 0, .null, .int 0, .null, .null, .null, .null, .null, .int 0, .int 0, .null, .null, .int 0, .null, .int 0, .null, .null, .null, .int 0, .int 0, .long 0] := ⟨_, rfl⟩
  have hlen : vs0.length = 91 := by rw [ev0]; rfl
  have hP : va_P G vwCl [(h0, .inr (8, vs0))] H := by rw [ev0]; exact hP
  have hD : va_D A [(h0, .inr (8, vs0))] := by rw [ev0]; exact hD
  refine lv_aload_n hx hb dX8_init_0 rfl (lv_at hl 0 rfl) ?_
  refine W.objInit hx hb hown (hT _ kw_9_9) (hT _ kw_1_11) (hT _ kw_1_12) rfl (by rw [hml]; exact hl.1) rfl dX8_init_1 (Nat.le_of_ble_eq_true rfl) (Nat.le_of_ble_eq_true rfl) ?_
  refine W.eq (g2 := F0 m 4 ls []) rfl ?_
  refine lv_aload_n hx hb dX8_init_4 rfl (lv_at hl 0 rfl) ?_
  refine lv_sipush (v := 700) hx hb dX8_init_5 (by decide) ?_
  refine tq_newa (atype := .int) (ty := .int) (n := 700) (N' := 700) (a0 := (700, .inl (fun _ => 0))) hx hb (hT _ kw_2_13) rfl hK hP hD hS hA 0 (cA 0) rfl (fun _ => rfl) (by decide) (by decide) (by decide) (Nat.le_of_ble_eq_true rfl) (Nat.le_of_ble_eq_true rfl) dX8_init_8 (fun q1 H hP hD hS => ?_)
  refine W.widen (k := 1) (n := 700) (Nat.le_of_ble_eq_true rfl) (Nat.le_of_ble_eq_true rfl) ?_
  have hP : va_P G vwCl ((h0, .inr (8, vs0)) :: (q1, .inl (cA 0, 700, .inl (fun _ => 0))) :: []) H := hP
  have hD : va_D A ((h0, .inr (8, vs0)) :: (q1, .inl (cA 0, 700, .inl (fun _ => 0))) :: []) := hD
  refine va_putF (D := G) (ci := 8) (v := .ref q1) (ty := (.array .int)) (C := RX8) (T := TX8) (N := 91) hx hb hT ku_8 tyX8 tyX8_ok nmX8 hown hK hP hD hS 0 rfl rfl 0 (by decide) (hT _ kw_9_10) (fun _ h9 => h9) rfl hin rfl (by decide +kernel) rfl rfl (by rw [hlen]; decide) dX8_init_10 (fun H locs hP hD hS => ?_)
  obtain ⟨vs1, ev1⟩ : ∃ z : List Value, z = vs0.set 0 (.ref q1) := ⟨_, rfl⟩
  have hlen : vs1.length = 91 := by rw [ev1, List.length_set]; exact hlen
  have hP : va_P G vwCl ((h0, .inr (8, vs1)) :: (q1, .inl (cA 0, 700, .inl (fun _ => 0))) :: []) H := by rw [ev1]; exact hP
  have hD : va_D A ((h0, .inr (8, vs1)) :: (q1, .inl (cA 0, 700, .inl (fun _ => 0))) :: []) := by rw [ev1]; exact hD
  refine lv_aload_n hx hb dX8_init_13 rfl (lv_at hl 0 rfl) ?_
  refine lv_sipush (v := 153) hx hb dX8_init_14 (by decide) ?_
  refine tq_newa (atype := .int) (ty := .int) (n := 153) (N' := 153) (a0 := (153, .inl (fun _ => 0))) hx hb (hT _ kw_2_13) rfl hK hP hD hS hA 0 (cA 0) rfl (fun _ => rfl) (by decide) (by decide) (by decide) (Nat.le_of_ble_eq_true rfl) (Nat.le_of_ble_eq_true rfl) dX8_init_17 (fun q2 H hP hD hS => ?_)
  refine W.widen (k := 2) (n := 853) (Nat.le_of_ble_eq_true rfl) (Nat.le_of_ble_eq_true rfl) ?_
  have hP : va_P G vwCl ((h0, .inr (8, vs1)) :: (q1, .inl (cA 0, 700, .inl (fun _ => 0))) :: (q2, .inl (cA 0, 153, .inl (wfn 0))) :: []) H := by rw [wfn_0]; exact hP
  have hD : va_D A ((h0, .inr (8, vs1)) :: (q1, .inl (cA 0, 700, .inl (fun _ => 0))) :: (q2, .inl (cA 0, 153, .inl (wfn 0))) :: []) := by rw [wfn_0]; exact hD
  refine lv_dup hx hb dX8_init_19 rfl ?_
  refine lv_iconst (v := 0) hx hb dX8_init_20 (by decide) ?_
  refine lv_bipush (v := 112) hx hb dX8_init_21 (by decide) ?_
  refine va_iast (i := 0) hx hb hK hP hD hS 2 0 rfl rfl (tq_in (by decide)) dX8_init_23 (fun H locs hP hD hS => ?_)
  have hP : va_P G vwCl ((h0, .inr (8, vs1)) :: (q1, .inl (cA 0, 700, .inl (fun _ => 0))) :: (q2, .inl (cA 0, 153, .inl (wfn 1))) :: []) H := by rw [← wfn_s (k := 0) (v := 112) rfl]; exact hP
  have hD : va_D A ((h0, .inr (8, vs1)) :: (q1, .inl (cA 0, 700, .inl (fun _ => 0))) :: (q2, .inl (cA 0, 153, .inl (wfn 1))) :: []) := by rw [← wfn_s (k := 0) (v := 112) rfl]; exact hD
  refine lv_dup hx hb dX8_init_24 rfl ?_
  refine lv_iconst (v := 1) hx hb dX8_init_25 (by decide) ?_
  refine lv_bipush (v := 108) hx hb dX8_init_26 (by decide) ?_
  refine va_iast (i := 1) hx hb hK hP hD hS 2 0 rfl rfl (tq_in (by decide)) dX8_init_28 (fun H locs hP hD hS => ?_)
  have hP : va_P G vwCl ((h0, .inr (8, vs1)) :: (q1, .inl (cA 0, 700, .inl (fun _ => 0))) :: (q2, .inl (cA 0, 153, .inl (wfn 2))) :: []) H := by rw [← wfn_s (k := 1) (v := 108) rfl]; exact hP
  have hD : va_D A ((h0, .inr (8, vs1)) :: (q1, .inl (cA 0, 700, .inl (fun _ => 0))) :: (q2, .inl (cA 0, 153, .inl (wfn 2))) :: []) := by rw [← wfn_s (k := 1) (v := 108) rfl]; exact hD
  refine lv_dup hx hb dX8_init_29 rfl ?_
  refine lv_iconst (v := 2) hx hb dX8_init_30 (by decide) ?_
  refine lv_bipush (v := 97) hx hb dX8_init_31 (by decide) ?_
  refine va_iast (i := 2) hx hb hK hP hD hS 2 0 rfl rfl (tq_in (by decide)) dX8_init_33 (fun H locs hP hD hS => ?_)
  have hP : va_P G vwCl ((h0, .inr (8, vs1)) :: (q1, .inl (cA 0, 700, .inl (fun _ => 0))) :: (q2, .inl (cA 0, 153, .inl (wfn 3))) :: []) H := by rw [← wfn_s (k := 2) (v := 97) rfl]; exact hP
  have hD : va_D A ((h0, .inr (8, vs1)) :: (q1, .inl (cA 0, 700, .inl (fun _ => 0))) :: (q2, .inl (cA 0, 153, .inl (wfn 3))) :: []) := by rw [← wfn_s (k := 2) (v := 97) rfl]; exact hD
  refine lv_dup hx hb dX8_init_34 rfl ?_
  refine lv_iconst (v := 3) hx hb dX8_init_35 (by decide) ?_
  refine lv_bipush (v := 99) hx hb dX8_init_36 (by decide) ?_
  refine va_iast (i := 3) hx hb hK hP hD hS 2 0 rfl rfl (tq_in (by decide)) dX8_init_38 (fun H locs hP hD hS => ?_)
  have hP : va_P G vwCl ((h0, .inr (8, vs1)) :: (q1, .inl (cA 0, 700, .inl (fun _ => 0))) :: (q2, .inl (cA 0, 153, .inl (wfn 4))) :: []) H := by rw [← wfn_s (k := 3) (v := 99) rfl]; exact hP
  have hD : va_D A ((h0, .inr (8, vs1)) :: (q1, .inl (cA 0, 700, .inl (fun _ => 0))) :: (q2, .inl (cA 0, 153, .inl (wfn 4))) :: []) := by rw [← wfn_s (k := 3) (v := 99) rfl]; exact hD
  refine lv_dup hx hb dX8_init_39 rfl ?_
  refine lv_iconst (v := 4) hx hb dX8_init_40 (by decide) ?_
  refine lv_bipush (v := 101) hx hb dX8_init_41 (by decide) ?_
  refine va_iast (i := 4) hx hb hK hP hD hS 2 0 rfl rfl (tq_in (by decide)) dX8_init_43 (fun H locs hP hD hS => ?_)
  have hP : va_P G vwCl ((h0, .inr (8, vs1)) :: (q1, .inl (cA 0, 700, .inl (fun _ => 0))) :: (q2, .inl (cA 0, 153, .inl (wfn 5))) :: []) H := by rw [← wfn_s (k := 4) (v := 101) rfl]; exact hP
  have hD : va_D A ((h0, .inr (8, vs1)) :: (q1, .inl (cA 0, 700, .inl (fun _ => 0))) :: (q2, .inl (cA 0, 153, .inl (wfn 5))) :: []) := by rw [← wfn_s (k := 4) (v := 101) rfl]; exact hD
  refine lv_dup hx hb dX8_init_44 rfl ?_
  refine lv_iconst (v := 5) hx hb dX8_init_45 (by decide) ?_
  refine lv_bipush (v := 32) hx hb dX8_init_46 (by decide) ?_
  refine va_iast (i := 5) hx hb hK hP hD hS 2 0 rfl rfl (tq_in (by decide)) dX8_init_48 (fun H locs hP hD hS => ?_)
  have hP : va_P G vwCl ((h0, .inr (8, vs1)) :: (q1, .inl (cA 0, 700, .inl (fun _ => 0))) :: (q2, .inl (cA 0, 153, .inl (wfn 6))) :: []) H := by rw [← wfn_s (k := 5) (v := 32) rfl]; exact hP
  have hD : va_D A ((h0, .inr (8, vs1)) :: (q1, .inl (cA 0, 700, .inl (fun _ => 0))) :: (q2, .inl (cA 0, 153, .inl (wfn 6))) :: []) := by rw [← wfn_s (k := 5) (v := 32) rfl]; exact hD
  refine lv_dup hx hb dX8_init_49 rfl ?_
  refine lv_bipush (v := 6) hx hb dX8_init_50 (by decide) ?_
  refine lv_bipush (v := 112) hx hb dX8_init_52 (by decide) ?_
  refine va_iast (i := 6) hx hb hK hP hD hS 2 0 rfl rfl (tq_in (by decide)) dX8_init_54 (fun H locs hP hD hS => ?_)
  have hP : va_P G vwCl ((h0, .inr (8, vs1)) :: (q1, .inl (cA 0, 700, .inl (fun _ => 0))) :: (q2, .inl (cA 0, 153, .inl (wfn 7))) :: []) H := by rw [← wfn_s (k := 6) (v := 112) rfl]; exact hP
  have hD : va_D A ((h0, .inr (8, vs1)) :: (q1, .inl (cA 0, 700, .inl (fun _ => 0))) :: (q2, .inl (cA 0, 153, .inl (wfn 7))) :: []) := by rw [← wfn_s (k := 6) (v := 112) rfl]; exact hD
  refine lv_dup hx hb dX8_init_55 rfl ?_
  refine lv_bipush (v := 7) hx hb dX8_init_56 (by decide) ?_
  refine lv_bipush (v := 101) hx hb dX8_init_58 (by decide) ?_
  refine va_iast (i := 7) hx hb hK hP hD hS 2 0 rfl rfl (tq_in (by decide)) dX8_init_60 (fun H locs hP hD hS => ?_)
  have hP : va_P G vwCl ((h0, .inr (8, vs1)) :: (q1, .inl (cA 0, 700, .inl (fun _ => 0))) :: (q2, .inl (cA 0, 153, .inl (wfn 8))) :: []) H := by rw [← wfn_s (k := 7) (v := 101) rfl]; exact hP
  have hD : va_D A ((h0, .inr (8, vs1)) :: (q1, .inl (cA 0, 700, .inl (fun _ => 0))) :: (q2, .inl (cA 0, 153, .inl (wfn 8))) :: []) := by rw [← wfn_s (k := 7) (v := 101) rfl]; exact hD
  refine lv_dup hx hb dX8_init_61 rfl ?_
  refine lv_bipush (v := 8) hx hb dX8_init_62 (by decide) ?_
  refine lv_bipush (v := 114) hx hb dX8_init_64 (by decide) ?_
  refine va_iast (i := 8) hx hb hK hP hD hS 2 0 rfl rfl (tq_in (by decide)) dX8_init_66 (fun H locs hP hD hS => ?_)
  have hP : va_P G vwCl ((h0, .inr (8, vs1)) :: (q1, .inl (cA 0, 700, .inl (fun _ => 0))) :: (q2, .inl (cA 0, 153, .inl (wfn 9))) :: []) H := by rw [← wfn_s (k := 8) (v := 114) rfl]; exact hP
  have hD : va_D A ((h0, .inr (8, vs1)) :: (q1, .inl (cA 0, 700, .inl (fun _ => 0))) :: (q2, .inl (cA 0, 153, .inl (wfn 9))) :: []) := by rw [← wfn_s (k := 8) (v := 114) rfl]; exact hD
  refine lv_dup hx hb dX8_init_67 rfl ?_
  refine lv_bipush (v := 9) hx hb dX8_init_68 (by decide) ?_
  refine lv_bipush (v := 115) hx hb dX8_init_70 (by decide) ?_
  refine va_iast (i := 9) hx hb hK hP hD hS 2 0 rfl rfl (tq_in (by decide)) dX8_init_72 (fun H locs hP hD hS => ?_)
  have hP : va_P G vwCl ((h0, .inr (8, vs1)) :: (q1, .inl (cA 0, 700, .inl (fun _ => 0))) :: (q2, .inl (cA 0, 153, .inl (wfn 10))) :: []) H := by rw [← wfn_s (k := 9) (v := 115) rfl]; exact hP
  have hD : va_D A ((h0, .inr (8, vs1)) :: (q1, .inl (cA 0, 700, .inl (fun _ => 0))) :: (q2, .inl (cA 0, 153, .inl (wfn 10))) :: []) := by rw [← wfn_s (k := 9) (v := 115) rfl]; exact hD
  refine lv_dup hx hb dX8_init_73 rfl ?_
  refine lv_bipush (v := 10) hx hb dX8_init_74 (by decide) ?_
  refine lv_bipush (v := 111) hx hb dX8_init_76 (by decide) ?_
  refine va_iast (i := 10) hx hb hK hP hD hS 2 0 rfl rfl (tq_in (by decide)) dX8_init_78 (fun H locs hP hD hS => ?_)
  have hP : va_P G vwCl ((h0, .inr (8, vs1)) :: (q1, .inl (cA 0, 700, .inl (fun _ => 0))) :: (q2, .inl (cA 0, 153, .inl (wfn 11))) :: []) H := by rw [← wfn_s (k := 10) (v := 111) rfl]; exact hP
  have hD : va_D A ((h0, .inr (8, vs1)) :: (q1, .inl (cA 0, 700, .inl (fun _ => 0))) :: (q2, .inl (cA 0, 153, .inl (wfn 11))) :: []) := by rw [← wfn_s (k := 10) (v := 111) rfl]; exact hD
  refine lv_dup hx hb dX8_init_79 rfl ?_
  refine lv_bipush (v := 11) hx hb dX8_init_80 (by decide) ?_
  refine lv_bipush (v := 110) hx hb dX8_init_82 (by decide) ?_
  refine va_iast (i := 11) hx hb hK hP hD hS 2 0 rfl rfl (tq_in (by decide)) dX8_init_84 (fun H locs hP hD hS => ?_)
  have hP : va_P G vwCl ((h0, .inr (8, vs1)) :: (q1, .inl (cA 0, 700, .inl (fun _ => 0))) :: (q2, .inl (cA 0, 153, .inl (wfn 12))) :: []) H := by rw [← wfn_s (k := 11) (v := 110) rfl]; exact hP
  have hD : va_D A ((h0, .inr (8, vs1)) :: (q1, .inl (cA 0, 700, .inl (fun _ => 0))) :: (q2, .inl (cA 0, 153, .inl (wfn 12))) :: []) := by rw [← wfn_s (k := 11) (v := 110) rfl]; exact hD
  refine lv_dup hx hb dX8_init_85 rfl ?_
  refine lv_bipush (v := 12) hx hb dX8_init_86 (by decide) ?_
  refine lv_bipush (v := 32) hx hb dX8_init_88 (by decide) ?_
  refine va_iast (i := 12) hx hb hK hP hD hS 2 0 rfl rfl (tq_in (by decide)) dX8_init_90 (fun H locs hP hD hS => ?_)
  have hP : va_P G vwCl ((h0, .inr (8, vs1)) :: (q1, .inl (cA 0, 700, .inl (fun _ => 0))) :: (q2, .inl (cA 0, 153, .inl (wfn 13))) :: []) H := by rw [← wfn_s (k := 12) (v := 32) rfl]; exact hP
  have hD : va_D A ((h0, .inr (8, vs1)) :: (q1, .inl (cA 0, 700, .inl (fun _ => 0))) :: (q2, .inl (cA 0, 153, .inl (wfn 13))) :: []) := by rw [← wfn_s (k := 12) (v := 32) rfl]; exact hD
  refine lv_dup hx hb dX8_init_91 rfl ?_
  refine lv_bipush (v := 13) hx hb dX8_init_92 (by decide) ?_
  refine lv_bipush (v := 112) hx hb dX8_init_94 (by decide) ?_
  refine va_iast (i := 13) hx hb hK hP hD hS 2 0 rfl rfl (tq_in (by decide)) dX8_init_96 (fun H locs hP hD hS => ?_)
  have hP : va_P G vwCl ((h0, .inr (8, vs1)) :: (q1, .inl (cA 0, 700, .inl (fun _ => 0))) :: (q2, .inl (cA 0, 153, .inl (wfn 14))) :: []) H := by rw [← wfn_s (k := 13) (v := 112) rfl]; exact hP
  have hD : va_D A ((h0, .inr (8, vs1)) :: (q1, .inl (cA 0, 700, .inl (fun _ => 0))) :: (q2, .inl (cA 0, 153, .inl (wfn 14))) :: []) := by rw [← wfn_s (k := 13) (v := 112) rfl]; exact hD
  refine lv_dup hx hb dX8_init_97 rfl ?_
  refine lv_bipush (v := 14) hx hb dX8_init_98 (by decide) ?_
  refine lv_bipush (v := 105) hx hb dX8_init_100 (by decide) ?_
  refine va_iast (i := 14) hx hb hK hP hD hS 2 0 rfl rfl (tq_in (by decide)) dX8_init_102 (fun H locs hP hD hS => ?_)
  have hP : va_P G vwCl ((h0, .inr (8, vs1)) :: (q1, .inl (cA 0, 700, .inl (fun _ => 0))) :: (q2, .inl (cA 0, 153, .inl (wfn 15))) :: []) H := by rw [← wfn_s (k := 14) (v := 105) rfl]; exact hP
  have hD : va_D A ((h0, .inr (8, vs1)) :: (q1, .inl (cA 0, 700, .inl (fun _ => 0))) :: (q2, .inl (cA 0, 153, .inl (wfn 15))) :: []) := by rw [← wfn_s (k := 14) (v := 105) rfl]; exact hD
  refine lv_dup hx hb dX8_init_103 rfl ?_
  refine lv_bipush (v := 15) hx hb dX8_init_104 (by decide) ?_
  refine lv_bipush (v := 101) hx hb dX8_init_106 (by decide) ?_
  refine va_iast (i := 15) hx hb hK hP hD hS 2 0 rfl rfl (tq_in (by decide)) dX8_init_108 (fun H locs hP hD hS => ?_)
  have hP : va_P G vwCl ((h0, .inr (8, vs1)) :: (q1, .inl (cA 0, 700, .inl (fun _ => 0))) :: (q2, .inl (cA 0, 153, .inl (wfn 16))) :: []) H := by rw [← wfn_s (k := 15) (v := 101) rfl]; exact hP
  have hD : va_D A ((h0, .inr (8, vs1)) :: (q1, .inl (cA 0, 700, .inl (fun _ => 0))) :: (q2, .inl (cA 0, 153, .inl (wfn 16))) :: []) := by rw [← wfn_s (k := 15) (v := 101) rfl]; exact hD
  refine lv_dup hx hb dX8_init_109 rfl ?_
  refine lv_bipush (v := 16) hx hb dX8_init_110 (by decide) ?_
  refine lv_bipush (v := 99) hx hb dX8_init_112 (by decide) ?_
  refine va_iast (i := 16) hx hb hK hP hD hS 2 0 rfl rfl (tq_in (by decide)) dX8_init_114 (fun H locs hP hD hS => ?_)
  have hP : va_P G vwCl ((h0, .inr (8, vs1)) :: (q1, .inl (cA 0, 700, .inl (fun _ => 0))) :: (q2, .inl (cA 0, 153, .inl (wfn 17))) :: []) H := by rw [← wfn_s (k := 16) (v := 99) rfl]; exact hP
  have hD : va_D A ((h0, .inr (8, vs1)) :: (q1, .inl (cA 0, 700, .inl (fun _ => 0))) :: (q2, .inl (cA 0, 153, .inl (wfn 17))) :: []) := by rw [← wfn_s (k := 16) (v := 99) rfl]; exact hD
  refine lv_dup hx hb dX8_init_115 rfl ?_
  refine lv_bipush (v := 17) hx hb dX8_init_116 (by decide) ?_
  refine lv_bipush (v := 101) hx hb dX8_init_118 (by decide) ?_
  refine va_iast (i := 17) hx hb hK hP hD hS 2 0 rfl rfl (tq_in (by decide)) dX8_init_120 (fun H locs hP hD hS => ?_)
  have hP : va_P G vwCl ((h0, .inr (8, vs1)) :: (q1, .inl (cA 0, 700, .inl (fun _ => 0))) :: (q2, .inl (cA 0, 153, .inl (wfn 18))) :: []) H := by rw [← wfn_s (k := 17) (v := 101) rfl]; exact hP
  have hD : va_D A ((h0, .inr (8, vs1)) :: (q1, .inl (cA 0, 700, .inl (fun _ => 0))) :: (q2, .inl (cA 0, 153, .inl (wfn 18))) :: []) := by rw [← wfn_s (k := 17) (v := 101) rfl]; exact hD
  refine lv_dup hx hb dX8_init_121 rfl ?_
  refine lv_bipush (v := 18) hx hb dX8_init_122 (by decide) ?_
  refine lv_bipush (v := 32) hx hb dX8_init_124 (by decide) ?_
  refine va_iast (i := 18) hx hb hK hP hD hS 2 0 rfl rfl (tq_in (by decide)) dX8_init_126 (fun H locs hP hD hS => ?_)
  have hP : va_P G vwCl ((h0, .inr (8, vs1)) :: (q1, .inl (cA 0, 700, .inl (fun _ => 0))) :: (q2, .inl (cA 0, 153, .inl (wfn 19))) :: []) H := by rw [← wfn_s (k := 18) (v := 32) rfl]; exact hP
  have hD : va_D A ((h0, .inr (8, vs1)) :: (q1, .inl (cA 0, 700, .inl (fun _ => 0))) :: (q2, .inl (cA 0, 153, .inl (wfn 19))) :: []) := by rw [← wfn_s (k := 18) (v := 32) rfl]; exact hD
  refine lv_dup hx hb dX8_init_127 rfl ?_
  refine lv_bipush (v := 19) hx hb dX8_init_128 (by decide) ?_
  refine lv_bipush (v := 119) hx hb dX8_init_130 (by decide) ?_
  refine va_iast (i := 19) hx hb hK hP hD hS 2 0 rfl rfl (tq_in (by decide)) dX8_init_132 (fun H locs hP hD hS => ?_)
  have hP : va_P G vwCl ((h0, .inr (8, vs1)) :: (q1, .inl (cA 0, 700, .inl (fun _ => 0))) :: (q2, .inl (cA 0, 153, .inl (wfn 20))) :: []) H := by rw [← wfn_s (k := 19) (v := 119) rfl]; exact hP
  have hD : va_D A ((h0, .inr (8, vs1)) :: (q1, .inl (cA 0, 700, .inl (fun _ => 0))) :: (q2, .inl (cA 0, 153, .inl (wfn 20))) :: []) := by rw [← wfn_s (k := 19) (v := 119) rfl]; exact hD
  refine lv_dup hx hb dX8_init_133 rfl ?_
  refine lv_bipush (v := 20) hx hb dX8_init_134 (by decide) ?_
  refine lv_bipush (v := 97) hx hb dX8_init_136 (by decide) ?_
  refine va_iast (i := 20) hx hb hK hP hD hS 2 0 rfl rfl (tq_in (by decide)) dX8_init_138 (fun H locs hP hD hS => ?_)
  have hP : va_P G vwCl ((h0, .inr (8, vs1)) :: (q1, .inl (cA 0, 700, .inl (fun _ => 0))) :: (q2, .inl (cA 0, 153, .inl (wfn 21))) :: []) H := by rw [← wfn_s (k := 20) (v := 97) rfl]; exact hP
  have hD : va_D A ((h0, .inr (8, vs1)) :: (q1, .inl (cA 0, 700, .inl (fun _ => 0))) :: (q2, .inl (cA 0, 153, .inl (wfn 21))) :: []) := by rw [← wfn_s (k := 20) (v := 97) rfl]; exact hD
  refine lv_dup hx hb dX8_init_139 rfl ?_
  refine lv_bipush (v := 21) hx hb dX8_init_140 (by decide) ?_
  refine lv_bipush (v := 105) hx hb dX8_init_142 (by decide) ?_
  refine va_iast (i := 21) hx hb hK hP hD hS 2 0 rfl rfl (tq_in (by decide)) dX8_init_144 (fun H locs hP hD hS => ?_)
  have hP : va_P G vwCl ((h0, .inr (8, vs1)) :: (q1, .inl (cA 0, 700, .inl (fun _ => 0))) :: (q2, .inl (cA 0, 153, .inl (wfn 22))) :: []) H := by rw [← wfn_s (k := 21) (v := 105) rfl]; exact hP
  have hD : va_D A ((h0, .inr (8, vs1)) :: (q1, .inl (cA 0, 700, .inl (fun _ => 0))) :: (q2, .inl (cA 0, 153, .inl (wfn 22))) :: []) := by rw [← wfn_s (k := 21) (v := 105) rfl]; exact hD
  refine lv_dup hx hb dX8_init_145 rfl ?_
  refine lv_bipush (v := 22) hx hb dX8_init_146 (by decide) ?_
  refine lv_bipush (v := 116) hx hb dX8_init_148 (by decide) ?_
  refine va_iast (i := 22) hx hb hK hP hD hS 2 0 rfl rfl (tq_in (by decide)) dX8_init_150 (fun H locs hP hD hS => ?_)
  have hP : va_P G vwCl ((h0, .inr (8, vs1)) :: (q1, .inl (cA 0, 700, .inl (fun _ => 0))) :: (q2, .inl (cA 0, 153, .inl (wfn 23))) :: []) H := by rw [← wfn_s (k := 22) (v := 116) rfl]; exact hP
  have hD : va_D A ((h0, .inr (8, vs1)) :: (q1, .inl (cA 0, 700, .inl (fun _ => 0))) :: (q2, .inl (cA 0, 153, .inl (wfn 23))) :: []) := by rw [← wfn_s (k := 22) (v := 116) rfl]; exact hD
  refine lv_dup hx hb dX8_init_151 rfl ?_
  refine lv_bipush (v := 23) hx hb dX8_init_152 (by decide) ?_
  refine lv_bipush (v := 32) hx hb dX8_init_154 (by decide) ?_
  refine va_iast (i := 23) hx hb hK hP hD hS 2 0 rfl rfl (tq_in (by decide)) dX8_init_156 (fun H locs hP hD hS => ?_)
  have hP : va_P G vwCl ((h0, .inr (8, vs1)) :: (q1, .inl (cA 0, 700, .inl (fun _ => 0))) :: (q2, .inl (cA 0, 153, .inl (wfn 24))) :: []) H := by rw [← wfn_s (k := 23) (v := 32) rfl]; exact hP
  have hD : va_D A ((h0, .inr (8, vs1)) :: (q1, .inl (cA 0, 700, .inl (fun _ => 0))) :: (q2, .inl (cA 0, 153, .inl (wfn 24))) :: []) := by rw [← wfn_s (k := 23) (v := 32) rfl]; exact hD
  refine lv_dup hx hb dX8_init_157 rfl ?_
  refine lv_bipush (v := 24) hx hb dX8_init_158 (by decide) ?_
  refine lv_bipush (v := 114) hx hb dX8_init_160 (by decide) ?_
  refine va_iast (i := 24) hx hb hK hP hD hS 2 0 rfl rfl (tq_in (by decide)) dX8_init_162 (fun H locs hP hD hS => ?_)
  have hP : va_P G vwCl ((h0, .inr (8, vs1)) :: (q1, .inl (cA 0, 700, .inl (fun _ => 0))) :: (q2, .inl (cA 0, 153, .inl (wfn 25))) :: []) H := by rw [← wfn_s (k := 24) (v := 114) rfl]; exact hP
  have hD : va_D A ((h0, .inr (8, vs1)) :: (q1, .inl (cA 0, 700, .inl (fun _ => 0))) :: (q2, .inl (cA 0, 153, .inl (wfn 25))) :: []) := by rw [← wfn_s (k := 24) (v := 114) rfl]; exact hD
  refine lv_dup hx hb dX8_init_163 rfl ?_
  refine lv_bipush (v := 25) hx hb dX8_init_164 (by decide) ?_
  refine lv_bipush (v := 117) hx hb dX8_init_166 (by decide) ?_
  refine va_iast (i := 25) hx hb hK hP hD hS 2 0 rfl rfl (tq_in (by decide)) dX8_init_168 (fun H locs hP hD hS => ?_)
  have hP : va_P G vwCl ((h0, .inr (8, vs1)) :: (q1, .inl (cA 0, 700, .inl (fun _ => 0))) :: (q2, .inl (cA 0, 153, .inl (wfn 26))) :: []) H := by rw [← wfn_s (k := 25) (v := 117) rfl]; exact hP
  have hD : va_D A ((h0, .inr (8, vs1)) :: (q1, .inl (cA 0, 700, .inl (fun _ => 0))) :: (q2, .inl (cA 0, 153, .inl (wfn 26))) :: []) := by rw [← wfn_s (k := 25) (v := 117) rfl]; exact hD
  refine lv_dup hx hb dX8_init_169 rfl ?_
  refine lv_bipush (v := 26) hx hb dX8_init_170 (by decide) ?_
  refine lv_bipush (v := 108) hx hb dX8_init_172 (by decide) ?_
  refine va_iast (i := 26) hx hb hK hP hD hS 2 0 rfl rfl (tq_in (by decide)) dX8_init_174 (fun H locs hP hD hS => ?_)
  have hP : va_P G vwCl ((h0, .inr (8, vs1)) :: (q1, .inl (cA 0, 700, .inl (fun _ => 0))) :: (q2, .inl (cA 0, 153, .inl (wfn 27))) :: []) H := by rw [← wfn_s (k := 26) (v := 108) rfl]; exact hP
  have hD : va_D A ((h0, .inr (8, vs1)) :: (q1, .inl (cA 0, 700, .inl (fun _ => 0))) :: (q2, .inl (cA 0, 153, .inl (wfn 27))) :: []) := by rw [← wfn_s (k := 26) (v := 108) rfl]; exact hD
  refine lv_dup hx hb dX8_init_175 rfl ?_
  refine lv_bipush (v := 27) hx hb dX8_init_176 (by decide) ?_
  refine lv_bipush (v := 101) hx hb dX8_init_178 (by decide) ?_
  refine va_iast (i := 27) hx hb hK hP hD hS 2 0 rfl rfl (tq_in (by decide)) dX8_init_180 (fun H locs hP hD hS => ?_)
  have hP : va_P G vwCl ((h0, .inr (8, vs1)) :: (q1, .inl (cA 0, 700, .inl (fun _ => 0))) :: (q2, .inl (cA 0, 153, .inl (wfn 28))) :: []) H := by rw [← wfn_s (k := 27) (v := 101) rfl]; exact hP
  have hD : va_D A ((h0, .inr (8, vs1)) :: (q1, .inl (cA 0, 700, .inl (fun _ => 0))) :: (q2, .inl (cA 0, 153, .inl (wfn 28))) :: []) := by rw [← wfn_s (k := 27) (v := 101) rfl]; exact hD
  refine lv_dup hx hb dX8_init_181 rfl ?_
  refine lv_bipush (v := 28) hx hb dX8_init_182 (by decide) ?_
  refine lv_bipush (v := 32) hx hb dX8_init_184 (by decide) ?_
  refine va_iast (i := 28) hx hb hK hP hD hS 2 0 rfl rfl (tq_in (by decide)) dX8_init_186 (fun H locs hP hD hS => ?_)
  have hP : va_P G vwCl ((h0, .inr (8, vs1)) :: (q1, .inl (cA 0, 700, .inl (fun _ => 0))) :: (q2, .inl (cA 0, 153, .inl (wfn 29))) :: []) H := by rw [← wfn_s (k := 28) (v := 32) rfl]; exact hP
  have hD : va_D A ((h0, .inr (8, vs1)) :: (q1, .inl (cA 0, 700, .inl (fun _ => 0))) :: (q2, .inl (cA 0, 153, .inl (wfn 29))) :: []) := by rw [← wfn_s (k := 28) (v := 32) rfl]; exact hD
  refine lv_dup hx hb dX8_init_187 rfl ?_
  refine lv_bipush (v := 29) hx hb dX8_init_188 (by decide) ?_
  refine lv_bipush (v := 99) hx hb dX8_init_190 (by decide) ?_
  refine va_iast (i := 29) hx hb hK hP hD hS 2 0 rfl rfl (tq_in (by decide)) dX8_init_192 (fun H locs hP hD hS => ?_)
  have hP : va_P G vwCl ((h0, .inr (8, vs1)) :: (q1, .inl (cA 0, 700, .inl (fun _ => 0))) :: (q2, .inl (cA 0, 153, .inl (wfn 30))) :: []) H := by rw [← wfn_s (k := 29) (v := 99) rfl]; exact hP
  have hD : va_D A ((h0, .inr (8, vs1)) :: (q1, .inl (cA 0, 700, .inl (fun _ => 0))) :: (q2, .inl (cA 0, 153, .inl (wfn 30))) :: []) := by rw [← wfn_s (k := 29) (v := 99) rfl]; exact hD
  refine lv_dup hx hb dX8_init_193 rfl ?_
  refine lv_bipush (v := 30) hx hb dX8_init_194 (by decide) ?_
  refine lv_bipush (v := 117) hx hb dX8_init_196 (by decide) ?_
  refine va_iast (i := 30) hx hb hK hP hD hS 2 0 rfl rfl (tq_in (by decide)) dX8_init_198 (fun H locs hP hD hS => ?_)
  have hP : va_P G vwCl ((h0, .inr (8, vs1)) :: (q1, .inl (cA 0, 700, .inl (fun _ => 0))) :: (q2, .inl (cA 0, 153, .inl (wfn 31))) :: []) H := by rw [← wfn_s (k := 30) (v := 117) rfl]; exact hP
  have hD : va_D A ((h0, .inr (8, vs1)) :: (q1, .inl (cA 0, 700, .inl (fun _ => 0))) :: (q2, .inl (cA 0, 153, .inl (wfn 31))) :: []) := by rw [← wfn_s (k := 30) (v := 117) rfl]; exact hD
  refine lv_dup hx hb dX8_init_199 rfl ?_
  refine lv_bipush (v := 31) hx hb dX8_init_200 (by decide) ?_
  refine lv_bipush (v := 114) hx hb dX8_init_202 (by decide) ?_
  refine va_iast (i := 31) hx hb hK hP hD hS 2 0 rfl rfl (tq_in (by decide)) dX8_init_204 (fun H locs hP hD hS => ?_)
  have hP : va_P G vwCl ((h0, .inr (8, vs1)) :: (q1, .inl (cA 0, 700, .inl (fun _ => 0))) :: (q2, .inl (cA 0, 153, .inl (wfn 32))) :: []) H := by rw [← wfn_s (k := 31) (v := 114) rfl]; exact hP
  have hD : va_D A ((h0, .inr (8, vs1)) :: (q1, .inl (cA 0, 700, .inl (fun _ => 0))) :: (q2, .inl (cA 0, 153, .inl (wfn 32))) :: []) := by rw [← wfn_s (k := 31) (v := 114) rfl]; exact hD
  refine lv_dup hx hb dX8_init_205 rfl ?_
  refine lv_bipush (v := 32) hx hb dX8_init_206 (by decide) ?_
  refine lv_bipush (v := 118) hx hb dX8_init_208 (by decide) ?_
  refine va_iast (i := 32) hx hb hK hP hD hS 2 0 rfl rfl (tq_in (by decide)) dX8_init_210 (fun H locs hP hD hS => ?_)
  have hP : va_P G vwCl ((h0, .inr (8, vs1)) :: (q1, .inl (cA 0, 700, .inl (fun _ => 0))) :: (q2, .inl (cA 0, 153, .inl (wfn 33))) :: []) H := by rw [← wfn_s (k := 32) (v := 118) rfl]; exact hP
  have hD : va_D A ((h0, .inr (8, vs1)) :: (q1, .inl (cA 0, 700, .inl (fun _ => 0))) :: (q2, .inl (cA 0, 153, .inl (wfn 33))) :: []) := by rw [← wfn_s (k := 32) (v := 118) rfl]; exact hD
  refine lv_dup hx hb dX8_init_211 rfl ?_
  refine lv_bipush (v := 33) hx hb dX8_init_212 (by decide) ?_
  refine lv_bipush (v := 101) hx hb dX8_init_214 (by decide) ?_
  refine va_iast (i := 33) hx hb hK hP hD hS 2 0 rfl rfl (tq_in (by decide)) dX8_init_216 (fun H locs hP hD hS => ?_)
  have hP : va_P G vwCl ((h0, .inr (8, vs1)) :: (q1, .inl (cA 0, 700, .inl (fun _ => 0))) :: (q2, .inl (cA 0, 153, .inl (wfn 34))) :: []) H := by rw [← wfn_s (k := 33) (v := 101) rfl]; exact hP
  have hD : va_D A ((h0, .inr (8, vs1)) :: (q1, .inl (cA 0, 700, .inl (fun _ => 0))) :: (q2, .inl (cA 0, 153, .inl (wfn 34))) :: []) := by rw [← wfn_s (k := 33) (v := 101) rfl]; exact hD
  refine lv_dup hx hb dX8_init_217 rfl ?_
  refine lv_bipush (v := 34) hx hb dX8_init_218 (by decide) ?_
  refine lv_bipush (v := 32) hx hb dX8_init_220 (by decide) ?_
  refine va_iast (i := 34) hx hb hK hP hD hS 2 0 rfl rfl (tq_in (by decide)) dX8_init_222 (fun H locs hP hD hS => ?_)
  have hP : va_P G vwCl ((h0, .inr (8, vs1)) :: (q1, .inl (cA 0, 700, .inl (fun _ => 0))) :: (q2, .inl (cA 0, 153, .inl (wfn 35))) :: []) H := by rw [← wfn_s (k := 34) (v := 32) rfl]; exact hP
  have hD : va_D A ((h0, .inr (8, vs1)) :: (q1, .inl (cA 0, 700, .inl (fun _ => 0))) :: (q2, .inl (cA 0, 153, .inl (wfn 35))) :: []) := by rw [← wfn_s (k := 34) (v := 32) rfl]; exact hD
  refine lv_dup hx hb dX8_init_223 rfl ?_
  refine lv_bipush (v := 35) hx hb dX8_init_224 (by decide) ?_
  refine lv_bipush (v := 115) hx hb dX8_init_226 (by decide) ?_
  refine va_iast (i := 35) hx hb hK hP hD hS 2 0 rfl rfl (tq_in (by decide)) dX8_init_228 (fun H locs hP hD hS => ?_)
  have hP : va_P G vwCl ((h0, .inr (8, vs1)) :: (q1, .inl (cA 0, 700, .inl (fun _ => 0))) :: (q2, .inl (cA 0, 153, .inl (wfn 36))) :: []) H := by rw [← wfn_s (k := 35) (v := 115) rfl]; exact hP
  have hD : va_D A ((h0, .inr (8, vs1)) :: (q1, .inl (cA 0, 700, .inl (fun _ => 0))) :: (q2, .inl (cA 0, 153, .inl (wfn 36))) :: []) := by rw [← wfn_s (k := 35) (v := 115) rfl]; exact hD
  refine lv_dup hx hb dX8_init_229 rfl ?_
  refine lv_bipush (v := 36) hx hb dX8_init_230 (by decide) ?_
  refine lv_bipush (v := 101) hx hb dX8_init_232 (by decide) ?_
  refine va_iast (i := 36) hx hb hK hP hD hS 2 0 rfl rfl (tq_in (by decide)) dX8_init_234 (fun H locs hP hD hS => ?_)
  have hP : va_P G vwCl ((h0, .inr (8, vs1)) :: (q1, .inl (cA 0, 700, .inl (fun _ => 0))) :: (q2, .inl (cA 0, 153, .inl (wfn 37))) :: []) H := by rw [← wfn_s (k := 36) (v := 101) rfl]; exact hP
  have hD : va_D A ((h0, .inr (8, vs1)) :: (q1, .inl (cA 0, 700, .inl (fun _ => 0))) :: (q2, .inl (cA 0, 153, .inl (wfn 37))) :: []) := by rw [← wfn_s (k := 36) (v := 101) rfl]; exact hD
  refine lv_dup hx hb dX8_init_235 rfl ?_
  refine lv_bipush (v := 37) hx hb dX8_init_236 (by decide) ?_
  refine lv_bipush (v := 101) hx hb dX8_init_238 (by decide) ?_
  refine va_iast (i := 37) hx hb hK hP hD hS 2 0 rfl rfl (tq_in (by decide)) dX8_init_240 (fun H locs hP hD hS => ?_)
  have hP : va_P G vwCl ((h0, .inr (8, vs1)) :: (q1, .inl (cA 0, 700, .inl (fun _ => 0))) :: (q2, .inl (cA 0, 153, .inl (wfn 38))) :: []) H := by rw [← wfn_s (k := 37) (v := 101) rfl]; exact hP
  have hD : va_D A ((h0, .inr (8, vs1)) :: (q1, .inl (cA 0, 700, .inl (fun _ => 0))) :: (q2, .inl (cA 0, 153, .inl (wfn 38))) :: []) := by rw [← wfn_s (k := 37) (v := 101) rfl]; exact hD
  refine lv_dup hx hb dX8_init_241 rfl ?_
  refine lv_bipush (v := 38) hx hb dX8_init_242 (by decide) ?_
  refine lv_bipush (v := 100) hx hb dX8_init_244 (by decide) ?_
  refine va_iast (i := 38) hx hb hK hP hD hS 2 0 rfl rfl (tq_in (by decide)) dX8_init_246 (fun H locs hP hD hS => ?_)
  have hP : va_P G vwCl ((h0, .inr (8, vs1)) :: (q1, .inl (cA 0, 700, .inl (fun _ => 0))) :: (q2, .inl (cA 0, 153, .inl (wfn 39))) :: []) H := by rw [← wfn_s (k := 38) (v := 100) rfl]; exact hP
  have hD : va_D A ((h0, .inr (8, vs1)) :: (q1, .inl (cA 0, 700, .inl (fun _ => 0))) :: (q2, .inl (cA 0, 153, .inl (wfn 39))) :: []) := by rw [← wfn_s (k := 38) (v := 100) rfl]; exact hD
  refine lv_dup hx hb dX8_init_247 rfl ?_
  refine lv_bipush (v := 39) hx hb dX8_init_248 (by decide) ?_
  refine lv_bipush (v := 32) hx hb dX8_init_250 (by decide) ?_
  refine va_iast (i := 39) hx hb hK hP hD hS 2 0 rfl rfl (tq_in (by decide)) dX8_init_252 (fun H locs hP hD hS => ?_)
  have hP : va_P G vwCl ((h0, .inr (8, vs1)) :: (q1, .inl (cA 0, 700, .inl (fun _ => 0))) :: (q2, .inl (cA 0, 153, .inl (wfn 40))) :: []) H := by rw [← wfn_s (k := 39) (v := 32) rfl]; exact hP
  have hD : va_D A ((h0, .inr (8, vs1)) :: (q1, .inl (cA 0, 700, .inl (fun _ => 0))) :: (q2, .inl (cA 0, 153, .inl (wfn 40))) :: []) := by rw [← wfn_s (k := 39) (v := 32) rfl]; exact hD
  refine lv_dup hx hb dX8_init_253 rfl ?_
  refine lv_bipush (v := 40) hx hb dX8_init_254 (by decide) ?_
  refine lv_bipush (v := 108) hx hb dX8_init_256 (by decide) ?_
  refine va_iast (i := 40) hx hb hK hP hD hS 2 0 rfl rfl (tq_in (by decide)) dX8_init_258 (fun H locs hP hD hS => ?_)
  have hP : va_P G vwCl ((h0, .inr (8, vs1)) :: (q1, .inl (cA 0, 700, .inl (fun _ => 0))) :: (q2, .inl (cA 0, 153, .inl (wfn 41))) :: []) H := by rw [← wfn_s (k := 40) (v := 108) rfl]; exact hP
  have hD : va_D A ((h0, .inr (8, vs1)) :: (q1, .inl (cA 0, 700, .inl (fun _ => 0))) :: (q2, .inl (cA 0, 153, .inl (wfn 41))) :: []) := by rw [← wfn_s (k := 40) (v := 108) rfl]; exact hD
  refine lv_dup hx hb dX8_init_259 rfl ?_
  refine lv_bipush (v := 41) hx hb dX8_init_260 (by decide) ?_
  refine lv_bipush (v := 97) hx hb dX8_init_262 (by decide) ?_
  refine va_iast (i := 41) hx hb hK hP hD hS 2 0 rfl rfl (tq_in (by decide)) dX8_init_264 (fun H locs hP hD hS => ?_)
  have hP : va_P G vwCl ((h0, .inr (8, vs1)) :: (q1, .inl (cA 0, 700, .inl (fun _ => 0))) :: (q2, .inl (cA 0, 153, .inl (wfn 42))) :: []) H := by rw [← wfn_s (k := 41) (v := 97) rfl]; exact hP
  have hD : va_D A ((h0, .inr (8, vs1)) :: (q1, .inl (cA 0, 700, .inl (fun _ => 0))) :: (q2, .inl (cA 0, 153, .inl (wfn 42))) :: []) := by rw [← wfn_s (k := 41) (v := 97) rfl]; exact hD
  refine lv_dup hx hb dX8_init_265 rfl ?_
  refine lv_bipush (v := 42) hx hb dX8_init_266 (by decide) ?_
  refine lv_bipush (v := 119) hx hb dX8_init_268 (by decide) ?_
  refine va_iast (i := 42) hx hb hK hP hD hS 2 0 rfl rfl (tq_in (by decide)) dX8_init_270 (fun H locs hP hD hS => ?_)
  have hP : va_P G vwCl ((h0, .inr (8, vs1)) :: (q1, .inl (cA 0, 700, .inl (fun _ => 0))) :: (q2, .inl (cA 0, 153, .inl (wfn 43))) :: []) H := by rw [← wfn_s (k := 42) (v := 119) rfl]; exact hP
  have hD : va_D A ((h0, .inr (8, vs1)) :: (q1, .inl (cA 0, 700, .inl (fun _ => 0))) :: (q2, .inl (cA 0, 153, .inl (wfn 43))) :: []) := by rw [← wfn_s (k := 42) (v := 119) rfl]; exact hD
  refine lv_dup hx hb dX8_init_271 rfl ?_
  refine lv_bipush (v := 43) hx hb dX8_init_272 (by decide) ?_
  refine lv_bipush (v := 32) hx hb dX8_init_274 (by decide) ?_
  refine va_iast (i := 43) hx hb hK hP hD hS 2 0 rfl rfl (tq_in (by decide)) dX8_init_276 (fun H locs hP hD hS => ?_)
  have hP : va_P G vwCl ((h0, .inr (8, vs1)) :: (q1, .inl (cA 0, 700, .inl (fun _ => 0))) :: (q2, .inl (cA 0, 153, .inl (wfn 44))) :: []) H := by rw [← wfn_s (k := 43) (v := 32) rfl]; exact hP
  have hD : va_D A ((h0, .inr (8, vs1)) :: (q1, .inl (cA 0, 700, .inl (fun _ => 0))) :: (q2, .inl (cA 0, 153, .inl (wfn 44))) :: []) := by rw [← wfn_s (k := 43) (v := 32) rfl]; exact hD
  refine lv_dup hx hb dX8_init_277 rfl ?_
  refine lv_bipush (v := 44) hx hb dX8_init_278 (by decide) ?_
  refine lv_bipush (v := 110) hx hb dX8_init_280 (by decide) ?_
  refine va_iast (i := 44) hx hb hK hP hD hS 2 0 rfl rfl (tq_in (by decide)) dX8_init_282 (fun H locs hP hD hS => ?_)
  have hP : va_P G vwCl ((h0, .inr (8, vs1)) :: (q1, .inl (cA 0, 700, .inl (fun _ => 0))) :: (q2, .inl (cA 0, 153, .inl (wfn 45))) :: []) H := by rw [← wfn_s (k := 44) (v := 110) rfl]; exact hP
  have hD : va_D A ((h0, .inr (8, vs1)) :: (q1, .inl (cA 0, 700, .inl (fun _ => 0))) :: (q2, .inl (cA 0, 153, .inl (wfn 45))) :: []) := by rw [← wfn_s (k := 44) (v := 110) rfl]; exact hD
  refine lv_dup hx hb dX8_init_283 rfl ?_
  refine lv_bipush (v := 45) hx hb dX8_init_284 (by decide) ?_
  refine lv_bipush (v := 101) hx hb dX8_init_286 (by decide) ?_
  refine va_iast (i := 45) hx hb hK hP hD hS 2 0 rfl rfl (tq_in (by decide)) dX8_init_288 (fun H locs hP hD hS => ?_)
  have hP : va_P G vwCl ((h0, .inr (8, vs1)) :: (q1, .inl (cA 0, 700, .inl (fun _ => 0))) :: (q2, .inl (cA 0, 153, .inl (wfn 46))) :: []) H := by rw [← wfn_s (k := 45) (v := 101) rfl]; exact hP
  have hD : va_D A ((h0, .inr (8, vs1)) :: (q1, .inl (cA 0, 700, .inl (fun _ => 0))) :: (q2, .inl (cA 0, 153, .inl (wfn 46))) :: []) := by rw [← wfn_s (k := 45) (v := 101) rfl]; exact hD
  refine lv_dup hx hb dX8_init_289 rfl ?_
  refine lv_bipush (v := 46) hx hb dX8_init_290 (by decide) ?_
  refine lv_bipush (v := 116) hx hb dX8_init_292 (by decide) ?_
  refine va_iast (i := 46) hx hb hK hP hD hS 2 0 rfl rfl (tq_in (by decide)) dX8_init_294 (fun H locs hP hD hS => ?_)
  have hP : va_P G vwCl ((h0, .inr (8, vs1)) :: (q1, .inl (cA 0, 700, .inl (fun _ => 0))) :: (q2, .inl (cA 0, 153, .inl (wfn 47))) :: []) H := by rw [← wfn_s (k := 46) (v := 116) rfl]; exact hP
  have hD : va_D A ((h0, .inr (8, vs1)) :: (q1, .inl (cA 0, 700, .inl (fun _ => 0))) :: (q2, .inl (cA 0, 153, .inl (wfn 47))) :: []) := by rw [← wfn_s (k := 46) (v := 116) rfl]; exact hD
  refine lv_dup hx hb dX8_init_295 rfl ?_
  refine lv_bipush (v := 47) hx hb dX8_init_296 (by decide) ?_
  refine lv_bipush (v := 32) hx hb dX8_init_298 (by decide) ?_
  refine va_iast (i := 47) hx hb hK hP hD hS 2 0 rfl rfl (tq_in (by decide)) dX8_init_300 (fun H locs hP hD hS => ?_)
  have hP : va_P G vwCl ((h0, .inr (8, vs1)) :: (q1, .inl (cA 0, 700, .inl (fun _ => 0))) :: (q2, .inl (cA 0, 153, .inl (wfn 48))) :: []) H := by rw [← wfn_s (k := 47) (v := 32) rfl]; exact hP
  have hD : va_D A ((h0, .inr (8, vs1)) :: (q1, .inl (cA 0, 700, .inl (fun _ => 0))) :: (q2, .inl (cA 0, 153, .inl (wfn 48))) :: []) := by rw [← wfn_s (k := 47) (v := 32) rfl]; exact hD
  refine lv_dup hx hb dX8_init_301 rfl ?_
  refine lv_bipush (v := 48) hx hb dX8_init_302 (by decide) ?_
  refine lv_bipush (v := 115) hx hb dX8_init_304 (by decide) ?_
  refine va_iast (i := 48) hx hb hK hP hD hS 2 0 rfl rfl (tq_in (by decide)) dX8_init_306 (fun H locs hP hD hS => ?_)
  have hP : va_P G vwCl ((h0, .inr (8, vs1)) :: (q1, .inl (cA 0, 700, .inl (fun _ => 0))) :: (q2, .inl (cA 0, 153, .inl (wfn 49))) :: []) H := by rw [← wfn_s (k := 48) (v := 115) rfl]; exact hP
  have hD : va_D A ((h0, .inr (8, vs1)) :: (q1, .inl (cA 0, 700, .inl (fun _ => 0))) :: (q2, .inl (cA 0, 153, .inl (wfn 49))) :: []) := by rw [← wfn_s (k := 48) (v := 115) rfl]; exact hD
  refine lv_dup hx hb dX8_init_307 rfl ?_
  refine lv_bipush (v := 49) hx hb dX8_init_308 (by decide) ?_
  refine lv_bipush (v := 104) hx hb dX8_init_310 (by decide) ?_
  refine va_iast (i := 49) hx hb hK hP hD hS 2 0 rfl rfl (tq_in (by decide)) dX8_init_312 (fun H locs hP hD hS => ?_)
  have hP : va_P G vwCl ((h0, .inr (8, vs1)) :: (q1, .inl (cA 0, 700, .inl (fun _ => 0))) :: (q2, .inl (cA 0, 153, .inl (wfn 50))) :: []) H := by rw [← wfn_s (k := 49) (v := 104) rfl]; exact hP
  have hD : va_D A ((h0, .inr (8, vs1)) :: (q1, .inl (cA 0, 700, .inl (fun _ => 0))) :: (q2, .inl (cA 0, 153, .inl (wfn 50))) :: []) := by rw [← wfn_s (k := 49) (v := 104) rfl]; exact hD
  refine lv_dup hx hb dX8_init_313 rfl ?_
  refine lv_bipush (v := 50) hx hb dX8_init_314 (by decide) ?_
  refine lv_bipush (v := 101) hx hb dX8_init_316 (by decide) ?_
  refine va_iast (i := 50) hx hb hK hP hD hS 2 0 rfl rfl (tq_in (by decide)) dX8_init_318 (fun H locs hP hD hS => ?_)
  have hP : va_P G vwCl ((h0, .inr (8, vs1)) :: (q1, .inl (cA 0, 700, .inl (fun _ => 0))) :: (q2, .inl (cA 0, 153, .inl (wfn 51))) :: []) H := by rw [← wfn_s (k := 50) (v := 101) rfl]; exact hP
  have hD : va_D A ((h0, .inr (8, vs1)) :: (q1, .inl (cA 0, 700, .inl (fun _ => 0))) :: (q2, .inl (cA 0, 153, .inl (wfn 51))) :: []) := by rw [← wfn_s (k := 50) (v := 101) rfl]; exact hD
  refine lv_dup hx hb dX8_init_319 rfl ?_
  refine lv_bipush (v := 51) hx hb dX8_init_320 (by decide) ?_
  refine lv_bipush (v := 108) hx hb dX8_init_322 (by decide) ?_
  refine va_iast (i := 51) hx hb hK hP hD hS 2 0 rfl rfl (tq_in (by decide)) dX8_init_324 (fun H locs hP hD hS => ?_)
  have hP : va_P G vwCl ((h0, .inr (8, vs1)) :: (q1, .inl (cA 0, 700, .inl (fun _ => 0))) :: (q2, .inl (cA 0, 153, .inl (wfn 52))) :: []) H := by rw [← wfn_s (k := 51) (v := 108) rfl]; exact hP
  have hD : va_D A ((h0, .inr (8, vs1)) :: (q1, .inl (cA 0, 700, .inl (fun _ => 0))) :: (q2, .inl (cA 0, 153, .inl (wfn 52))) :: []) := by rw [← wfn_s (k := 51) (v := 108) rfl]; exact hD
  refine lv_dup hx hb dX8_init_325 rfl ?_
  refine lv_bipush (v := 52) hx hb dX8_init_326 (by decide) ?_
  refine lv_bipush (v := 102) hx hb dX8_init_328 (by decide) ?_
  refine va_iast (i := 52) hx hb hK hP hD hS 2 0 rfl rfl (tq_in (by decide)) dX8_init_330 (fun H locs hP hD hS => ?_)
  have hP : va_P G vwCl ((h0, .inr (8, vs1)) :: (q1, .inl (cA 0, 700, .inl (fun _ => 0))) :: (q2, .inl (cA 0, 153, .inl (wfn 53))) :: []) H := by rw [← wfn_s (k := 52) (v := 102) rfl]; exact hP
  have hD : va_D A ((h0, .inr (8, vs1)) :: (q1, .inl (cA 0, 700, .inl (fun _ => 0))) :: (q2, .inl (cA 0, 153, .inl (wfn 53))) :: []) := by rw [← wfn_s (k := 52) (v := 102) rfl]; exact hD
  refine lv_dup hx hb dX8_init_331 rfl ?_
  refine lv_bipush (v := 53) hx hb dX8_init_332 (by decide) ?_
  refine lv_bipush (v := 32) hx hb dX8_init_334 (by decide) ?_
  refine va_iast (i := 53) hx hb hK hP hD hS 2 0 rfl rfl (tq_in (by decide)) dX8_init_336 (fun H locs hP hD hS => ?_)
  have hP : va_P G vwCl ((h0, .inr (8, vs1)) :: (q1, .inl (cA 0, 700, .inl (fun _ => 0))) :: (q2, .inl (cA 0, 153, .inl (wfn 54))) :: []) H := by rw [← wfn_s (k := 53) (v := 32) rfl]; exact hP
  have hD : va_D A ((h0, .inr (8, vs1)) :: (q1, .inl (cA 0, 700, .inl (fun _ => 0))) :: (q2, .inl (cA 0, 153, .inl (wfn 54))) :: []) := by rw [← wfn_s (k := 53) (v := 32) rfl]; exact hD
  refine lv_dup hx hb dX8_init_337 rfl ?_
  refine lv_bipush (v := 54) hx hb dX8_init_338 (by decide) ?_
  refine lv_bipush (v := 102) hx hb dX8_init_340 (by decide) ?_
  refine va_iast (i := 54) hx hb hK hP hD hS 2 0 rfl rfl (tq_in (by decide)) dX8_init_342 (fun H locs hP hD hS => ?_)
  have hP : va_P G vwCl ((h0, .inr (8, vs1)) :: (q1, .inl (cA 0, 700, .inl (fun _ => 0))) :: (q2, .inl (cA 0, 153, .inl (wfn 55))) :: []) H := by rw [← wfn_s (k := 54) (v := 102) rfl]; exact hP
  have hD : va_D A ((h0, .inr (8, vs1)) :: (q1, .inl (cA 0, 700, .inl (fun _ => 0))) :: (q2, .inl (cA 0, 153, .inl (wfn 55))) :: []) := by rw [← wfn_s (k := 54) (v := 102) rfl]; exact hD
  refine lv_dup hx hb dX8_init_343 rfl ?_
  refine lv_bipush (v := 55) hx hb dX8_init_344 (by decide) ?_
  refine lv_bipush (v := 108) hx hb dX8_init_346 (by decide) ?_
  refine va_iast (i := 55) hx hb hK hP hD hS 2 0 rfl rfl (tq_in (by decide)) dX8_init_348 (fun H locs hP hD hS => ?_)
  have hP : va_P G vwCl ((h0, .inr (8, vs1)) :: (q1, .inl (cA 0, 700, .inl (fun _ => 0))) :: (q2, .inl (cA 0, 153, .inl (wfn 56))) :: []) H := by rw [← wfn_s (k := 55) (v := 108) rfl]; exact hP
  have hD : va_D A ((h0, .inr (8, vs1)) :: (q1, .inl (cA 0, 700, .inl (fun _ => 0))) :: (q2, .inl (cA 0, 153, .inl (wfn 56))) :: []) := by rw [← wfn_s (k := 55) (v := 108) rfl]; exact hD
  refine lv_dup hx hb dX8_init_349 rfl ?_
  refine lv_bipush (v := 56) hx hb dX8_init_350 (by decide) ?_
  refine lv_bipush (v := 111) hx hb dX8_init_352 (by decide) ?_
  refine va_iast (i := 56) hx hb hK hP hD hS 2 0 rfl rfl (tq_in (by decide)) dX8_init_354 (fun H locs hP hD hS => ?_)
  have hP : va_P G vwCl ((h0, .inr (8, vs1)) :: (q1, .inl (cA 0, 700, .inl (fun _ => 0))) :: (q2, .inl (cA 0, 153, .inl (wfn 57))) :: []) H := by rw [← wfn_s (k := 56) (v := 111) rfl]; exact hP
  have hD : va_D A ((h0, .inr (8, vs1)) :: (q1, .inl (cA 0, 700, .inl (fun _ => 0))) :: (q2, .inl (cA 0, 153, .inl (wfn 57))) :: []) := by rw [← wfn_s (k := 56) (v := 111) rfl]; exact hD
  refine lv_dup hx hb dX8_init_355 rfl ?_
  refine lv_bipush (v := 57) hx hb dX8_init_356 (by decide) ?_
  refine lv_bipush (v := 111) hx hb dX8_init_358 (by decide) ?_
  refine va_iast (i := 57) hx hb hK hP hD hS 2 0 rfl rfl (tq_in (by decide)) dX8_init_360 (fun H locs hP hD hS => ?_)
  have hP : va_P G vwCl ((h0, .inr (8, vs1)) :: (q1, .inl (cA 0, 700, .inl (fun _ => 0))) :: (q2, .inl (cA 0, 153, .inl (wfn 58))) :: []) H := by rw [← wfn_s (k := 57) (v := 111) rfl]; exact hP
  have hD : va_D A ((h0, .inr (8, vs1)) :: (q1, .inl (cA 0, 700, .inl (fun _ => 0))) :: (q2, .inl (cA 0, 153, .inl (wfn 58))) :: []) := by rw [← wfn_s (k := 57) (v := 111) rfl]; exact hD
  refine lv_dup hx hb dX8_init_361 rfl ?_
  refine lv_bipush (v := 58) hx hb dX8_init_362 (by decide) ?_
  refine lv_bipush (v := 114) hx hb dX8_init_364 (by decide) ?_
  refine va_iast (i := 58) hx hb hK hP hD hS 2 0 rfl rfl (tq_in (by decide)) dX8_init_366 (fun H locs hP hD hS => ?_)
  have hP : va_P G vwCl ((h0, .inr (8, vs1)) :: (q1, .inl (cA 0, 700, .inl (fun _ => 0))) :: (q2, .inl (cA 0, 153, .inl (wfn 59))) :: []) H := by rw [← wfn_s (k := 58) (v := 114) rfl]; exact hP
  have hD : va_D A ((h0, .inr (8, vs1)) :: (q1, .inl (cA 0, 700, .inl (fun _ => 0))) :: (q2, .inl (cA 0, 153, .inl (wfn 59))) :: []) := by rw [← wfn_s (k := 58) (v := 114) rfl]; exact hD
  refine lv_dup hx hb dX8_init_367 rfl ?_
  refine lv_bipush (v := 59) hx hb dX8_init_368 (by decide) ?_
  refine lv_bipush (v := 32) hx hb dX8_init_370 (by decide) ?_
  refine va_iast (i := 59) hx hb hK hP hD hS 2 0 rfl rfl (tq_in (by decide)) dX8_init_372 (fun H locs hP hD hS => ?_)
  have hP : va_P G vwCl ((h0, .inr (8, vs1)) :: (q1, .inl (cA 0, 700, .inl (fun _ => 0))) :: (q2, .inl (cA 0, 153, .inl (wfn 60))) :: []) H := by rw [← wfn_s (k := 59) (v := 32) rfl]; exact hP
  have hD : va_D A ((h0, .inr (8, vs1)) :: (q1, .inl (cA 0, 700, .inl (fun _ => 0))) :: (q2, .inl (cA 0, 153, .inl (wfn 60))) :: []) := by rw [← wfn_s (k := 59) (v := 32) rfl]; exact hD
  refine lv_dup hx hb dX8_init_373 rfl ?_
  refine lv_bipush (v := 60) hx hb dX8_init_374 (by decide) ?_
  refine lv_bipush (v := 115) hx hb dX8_init_376 (by decide) ?_
  refine va_iast (i := 60) hx hb hK hP hD hS 2 0 rfl rfl (tq_in (by decide)) dX8_init_378 (fun H locs hP hD hS => ?_)
  have hP : va_P G vwCl ((h0, .inr (8, vs1)) :: (q1, .inl (cA 0, 700, .inl (fun _ => 0))) :: (q2, .inl (cA 0, 153, .inl (wfn 61))) :: []) H := by rw [← wfn_s (k := 60) (v := 115) rfl]; exact hP
  have hD : va_D A ((h0, .inr (8, vs1)) :: (q1, .inl (cA 0, 700, .inl (fun _ => 0))) :: (q2, .inl (cA 0, 153, .inl (wfn 61))) :: []) := by rw [← wfn_s (k := 60) (v := 115) rfl]; exact hD
  refine lv_dup hx hb dX8_init_379 rfl ?_
  refine lv_bipush (v := 61) hx hb dX8_init_380 (by decide) ?_
  refine lv_bipush (v := 101) hx hb dX8_init_382 (by decide) ?_
  refine va_iast (i := 61) hx hb hK hP hD hS 2 0 rfl rfl (tq_in (by decide)) dX8_init_384 (fun H locs hP hD hS => ?_)
  have hP : va_P G vwCl ((h0, .inr (8, vs1)) :: (q1, .inl (cA 0, 700, .inl (fun _ => 0))) :: (q2, .inl (cA 0, 153, .inl (wfn 62))) :: []) H := by rw [← wfn_s (k := 61) (v := 101) rfl]; exact hP
  have hD : va_D A ((h0, .inr (8, vs1)) :: (q1, .inl (cA 0, 700, .inl (fun _ => 0))) :: (q2, .inl (cA 0, 153, .inl (wfn 62))) :: []) := by rw [← wfn_s (k := 61) (v := 101) rfl]; exact hD
  refine lv_dup hx hb dX8_init_385 rfl ?_
  refine lv_bipush (v := 62) hx hb dX8_init_386 (by decide) ?_
  refine lv_bipush (v := 97) hx hb dX8_init_388 (by decide) ?_
  refine va_iast (i := 62) hx hb hK hP hD hS 2 0 rfl rfl (tq_in (by decide)) dX8_init_390 (fun H locs hP hD hS => ?_)
  have hP : va_P G vwCl ((h0, .inr (8, vs1)) :: (q1, .inl (cA 0, 700, .inl (fun _ => 0))) :: (q2, .inl (cA 0, 153, .inl (wfn 63))) :: []) H := by rw [← wfn_s (k := 62) (v := 97) rfl]; exact hP
  have hD : va_D A ((h0, .inr (8, vs1)) :: (q1, .inl (cA 0, 700, .inl (fun _ => 0))) :: (q2, .inl (cA 0, 153, .inl (wfn 63))) :: []) := by rw [← wfn_s (k := 62) (v := 97) rfl]; exact hD
  refine lv_dup hx hb dX8_init_391 rfl ?_
  refine lv_bipush (v := 63) hx hb dX8_init_392 (by decide) ?_
  refine lv_bipush (v := 116) hx hb dX8_init_394 (by decide) ?_
  refine va_iast (i := 63) hx hb hK hP hD hS 2 0 rfl rfl (tq_in (by decide)) dX8_init_396 (fun H locs hP hD hS => ?_)
  have hP : va_P G vwCl ((h0, .inr (8, vs1)) :: (q1, .inl (cA 0, 700, .inl (fun _ => 0))) :: (q2, .inl (cA 0, 153, .inl (wfn 64))) :: []) H := by rw [← wfn_s (k := 63) (v := 116) rfl]; exact hP
  have hD : va_D A ((h0, .inr (8, vs1)) :: (q1, .inl (cA 0, 700, .inl (fun _ => 0))) :: (q2, .inl (cA 0, 153, .inl (wfn 64))) :: []) := by rw [← wfn_s (k := 63) (v := 116) rfl]; exact hD
  refine lv_dup hx hb dX8_init_397 rfl ?_
  refine lv_bipush (v := 64) hx hb dX8_init_398 (by decide) ?_
  refine lv_bipush (v := 32) hx hb dX8_init_400 (by decide) ?_
  refine va_iast (i := 64) hx hb hK hP hD hS 2 0 rfl rfl (tq_in (by decide)) dX8_init_402 (fun H locs hP hD hS => ?_)
  have hP : va_P G vwCl ((h0, .inr (8, vs1)) :: (q1, .inl (cA 0, 700, .inl (fun _ => 0))) :: (q2, .inl (cA 0, 153, .inl (wfn 65))) :: []) H := by rw [← wfn_s (k := 64) (v := 32) rfl]; exact hP
  have hD : va_D A ((h0, .inr (8, vs1)) :: (q1, .inl (cA 0, 700, .inl (fun _ => 0))) :: (q2, .inl (cA 0, 153, .inl (wfn 65))) :: []) := by rw [← wfn_s (k := 64) (v := 32) rfl]; exact hD
  refine lv_dup hx hb dX8_init_403 rfl ?_
  refine lv_bipush (v := 65) hx hb dX8_init_404 (by decide) ?_
  refine lv_bipush (v := 104) hx hb dX8_init_406 (by decide) ?_
  refine va_iast (i := 65) hx hb hK hP hD hS 2 0 rfl rfl (tq_in (by decide)) dX8_init_408 (fun H locs hP hD hS => ?_)
  have hP : va_P G vwCl ((h0, .inr (8, vs1)) :: (q1, .inl (cA 0, 700, .inl (fun _ => 0))) :: (q2, .inl (cA 0, 153, .inl (wfn 66))) :: []) H := by rw [← wfn_s (k := 65) (v := 104) rfl]; exact hP
  have hD : va_D A ((h0, .inr (8, vs1)) :: (q1, .inl (cA 0, 700, .inl (fun _ => 0))) :: (q2, .inl (cA 0, 153, .inl (wfn 66))) :: []) := by rw [← wfn_s (k := 65) (v := 104) rfl]; exact hD
  refine lv_dup hx hb dX8_init_409 rfl ?_
  refine lv_bipush (v := 66) hx hb dX8_init_410 (by decide) ?_
  refine lv_bipush (v := 97) hx hb dX8_init_412 (by decide) ?_
  refine va_iast (i := 66) hx hb hK hP hD hS 2 0 rfl rfl (tq_in (by decide)) dX8_init_414 (fun H locs hP hD hS => ?_)
  have hP : va_P G vwCl ((h0, .inr (8, vs1)) :: (q1, .inl (cA 0, 700, .inl (fun _ => 0))) :: (q2, .inl (cA 0, 153, .inl (wfn 67))) :: []) H := by rw [← wfn_s (k := 66) (v := 97) rfl]; exact hP
  have hD : va_D A ((h0, .inr (8, vs1)) :: (q1, .inl (cA 0, 700, .inl (fun _ => 0))) :: (q2, .inl (cA 0, 153, .inl (wfn 67))) :: []) := by rw [← wfn_s (k := 66) (v := 97) rfl]; exact hD
  refine lv_dup hx hb dX8_init_415 rfl ?_
  refine lv_bipush (v := 67) hx hb dX8_init_416 (by decide) ?_
  refine lv_bipush (v := 108) hx hb dX8_init_418 (by decide) ?_
  refine va_iast (i := 67) hx hb hK hP hD hS 2 0 rfl rfl (tq_in (by decide)) dX8_init_420 (fun H locs hP hD hS => ?_)
  have hP : va_P G vwCl ((h0, .inr (8, vs1)) :: (q1, .inl (cA 0, 700, .inl (fun _ => 0))) :: (q2, .inl (cA 0, 153, .inl (wfn 68))) :: []) H := by rw [← wfn_s (k := 67) (v := 108) rfl]; exact hP
  have hD : va_D A ((h0, .inr (8, vs1)) :: (q1, .inl (cA 0, 700, .inl (fun _ => 0))) :: (q2, .inl (cA 0, 153, .inl (wfn 68))) :: []) := by rw [← wfn_s (k := 67) (v := 108) rfl]; exact hD
  refine lv_dup hx hb dX8_init_421 rfl ?_
  refine lv_bipush (v := 68) hx hb dX8_init_422 (by decide) ?_
  refine lv_bipush (v := 108) hx hb dX8_init_424 (by decide) ?_
  refine va_iast (i := 68) hx hb hK hP hD hS 2 0 rfl rfl (tq_in (by decide)) dX8_init_426 (fun H locs hP hD hS => ?_)
  have hP : va_P G vwCl ((h0, .inr (8, vs1)) :: (q1, .inl (cA 0, 700, .inl (fun _ => 0))) :: (q2, .inl (cA 0, 153, .inl (wfn 69))) :: []) H := by rw [← wfn_s (k := 68) (v := 108) rfl]; exact hP
  have hD : va_D A ((h0, .inr (8, vs1)) :: (q1, .inl (cA 0, 700, .inl (fun _ => 0))) :: (q2, .inl (cA 0, 153, .inl (wfn 69))) :: []) := by rw [← wfn_s (k := 68) (v := 108) rfl]; exact hD
  refine lv_dup hx hb dX8_init_427 rfl ?_
  refine lv_bipush (v := 69) hx hb dX8_init_428 (by decide) ?_
  refine lv_bipush (v := 32) hx hb dX8_init_430 (by decide) ?_
  refine va_iast (i := 69) hx hb hK hP hD hS 2 0 rfl rfl (tq_in (by decide)) dX8_init_432 (fun H locs hP hD hS => ?_)
  have hP : va_P G vwCl ((h0, .inr (8, vs1)) :: (q1, .inl (cA 0, 700, .inl (fun _ => 0))) :: (q2, .inl (cA 0, 153, .inl (wfn 70))) :: []) H := by rw [← wfn_s (k := 69) (v := 32) rfl]; exact hP
  have hD : va_D A ((h0, .inr (8, vs1)) :: (q1, .inl (cA 0, 700, .inl (fun _ => 0))) :: (q2, .inl (cA 0, 153, .inl (wfn 70))) :: []) := by rw [← wfn_s (k := 69) (v := 32) rfl]; exact hD
  refine lv_dup hx hb dX8_init_433 rfl ?_
  refine lv_bipush (v := 70) hx hb dX8_init_434 (by decide) ?_
  refine lv_bipush (v := 102) hx hb dX8_init_436 (by decide) ?_
  refine va_iast (i := 70) hx hb hK hP hD hS 2 0 rfl rfl (tq_in (by decide)) dX8_init_438 (fun H locs hP hD hS => ?_)
  have hP : va_P G vwCl ((h0, .inr (8, vs1)) :: (q1, .inl (cA 0, 700, .inl (fun _ => 0))) :: (q2, .inl (cA 0, 153, .inl (wfn 71))) :: []) H := by rw [← wfn_s (k := 70) (v := 102) rfl]; exact hP
  have hD : va_D A ((h0, .inr (8, vs1)) :: (q1, .inl (cA 0, 700, .inl (fun _ => 0))) :: (q2, .inl (cA 0, 153, .inl (wfn 71))) :: []) := by rw [← wfn_s (k := 70) (v := 102) rfl]; exact hD
  refine lv_dup hx hb dX8_init_439 rfl ?_
  refine lv_bipush (v := 71) hx hb dX8_init_440 (by decide) ?_
  refine lv_bipush (v := 105) hx hb dX8_init_442 (by decide) ?_
  refine va_iast (i := 71) hx hb hK hP hD hS 2 0 rfl rfl (tq_in (by decide)) dX8_init_444 (fun H locs hP hD hS => ?_)
  have hP : va_P G vwCl ((h0, .inr (8, vs1)) :: (q1, .inl (cA 0, 700, .inl (fun _ => 0))) :: (q2, .inl (cA 0, 153, .inl (wfn 72))) :: []) H := by rw [← wfn_s (k := 71) (v := 105) rfl]; exact hP
  have hD : va_D A ((h0, .inr (8, vs1)) :: (q1, .inl (cA 0, 700, .inl (fun _ => 0))) :: (q2, .inl (cA 0, 153, .inl (wfn 72))) :: []) := by rw [← wfn_s (k := 71) (v := 105) rfl]; exact hD
  refine lv_dup hx hb dX8_init_445 rfl ?_
  refine lv_bipush (v := 72) hx hb dX8_init_446 (by decide) ?_
  refine lv_bipush (v := 114) hx hb dX8_init_448 (by decide) ?_
  refine va_iast (i := 72) hx hb hK hP hD hS 2 0 rfl rfl (tq_in (by decide)) dX8_init_450 (fun H locs hP hD hS => ?_)
  have hP : va_P G vwCl ((h0, .inr (8, vs1)) :: (q1, .inl (cA 0, 700, .inl (fun _ => 0))) :: (q2, .inl (cA 0, 153, .inl (wfn 73))) :: []) H := by rw [← wfn_s (k := 72) (v := 114) rfl]; exact hP
  have hD : va_D A ((h0, .inr (8, vs1)) :: (q1, .inl (cA 0, 700, .inl (fun _ => 0))) :: (q2, .inl (cA 0, 153, .inl (wfn 73))) :: []) := by rw [← wfn_s (k := 72) (v := 114) rfl]; exact hD
  refine lv_dup hx hb dX8_init_451 rfl ?_
  refine lv_bipush (v := 73) hx hb dX8_init_452 (by decide) ?_
  refine lv_bipush (v := 115) hx hb dX8_init_454 (by decide) ?_
  refine va_iast (i := 73) hx hb hK hP hD hS 2 0 rfl rfl (tq_in (by decide)) dX8_init_456 (fun H locs hP hD hS => ?_)
  have hP : va_P G vwCl ((h0, .inr (8, vs1)) :: (q1, .inl (cA 0, 700, .inl (fun _ => 0))) :: (q2, .inl (cA 0, 153, .inl (wfn 74))) :: []) H := by rw [← wfn_s (k := 73) (v := 115) rfl]; exact hP
  have hD : va_D A ((h0, .inr (8, vs1)) :: (q1, .inl (cA 0, 700, .inl (fun _ => 0))) :: (q2, .inl (cA 0, 153, .inl (wfn 74))) :: []) := by rw [← wfn_s (k := 73) (v := 115) rfl]; exact hD
  refine lv_dup hx hb dX8_init_457 rfl ?_
  refine lv_bipush (v := 74) hx hb dX8_init_458 (by decide) ?_
  refine lv_bipush (v := 116) hx hb dX8_init_460 (by decide) ?_
  refine va_iast (i := 74) hx hb hK hP hD hS 2 0 rfl rfl (tq_in (by decide)) dX8_init_462 (fun H locs hP hD hS => ?_)
  have hP : va_P G vwCl ((h0, .inr (8, vs1)) :: (q1, .inl (cA 0, 700, .inl (fun _ => 0))) :: (q2, .inl (cA 0, 153, .inl (wfn 75))) :: []) H := by rw [← wfn_s (k := 74) (v := 116) rfl]; exact hP
  have hD : va_D A ((h0, .inr (8, vs1)) :: (q1, .inl (cA 0, 700, .inl (fun _ => 0))) :: (q2, .inl (cA 0, 153, .inl (wfn 75))) :: []) := by rw [← wfn_s (k := 74) (v := 116) rfl]; exact hD
  refine lv_dup hx hb dX8_init_463 rfl ?_
  refine lv_bipush (v := 75) hx hb dX8_init_464 (by decide) ?_
  refine lv_bipush (v := 32) hx hb dX8_init_466 (by decide) ?_
  refine va_iast (i := 75) hx hb hK hP hD hS 2 0 rfl rfl (tq_in (by decide)) dX8_init_468 (fun H locs hP hD hS => ?_)
  have hP : va_P G vwCl ((h0, .inr (8, vs1)) :: (q1, .inl (cA 0, 700, .inl (fun _ => 0))) :: (q2, .inl (cA 0, 153, .inl (wfn 76))) :: []) H := by rw [← wfn_s (k := 75) (v := 32) rfl]; exact hP
  have hD : va_D A ((h0, .inr (8, vs1)) :: (q1, .inl (cA 0, 700, .inl (fun _ => 0))) :: (q2, .inl (cA 0, 153, .inl (wfn 76))) :: []) := by rw [← wfn_s (k := 75) (v := 32) rfl]; exact hD
  refine lv_dup hx hb dX8_init_469 rfl ?_
  refine lv_bipush (v := 76) hx hb dX8_init_470 (by decide) ?_
  refine lv_bipush (v := 108) hx hb dX8_init_472 (by decide) ?_
  refine va_iast (i := 76) hx hb hK hP hD hS 2 0 rfl rfl (tq_in (by decide)) dX8_init_474 (fun H locs hP hD hS => ?_)
  have hP : va_P G vwCl ((h0, .inr (8, vs1)) :: (q1, .inl (cA 0, 700, .inl (fun _ => 0))) :: (q2, .inl (cA 0, 153, .inl (wfn 77))) :: []) H := by rw [← wfn_s (k := 76) (v := 108) rfl]; exact hP
  have hD : va_D A ((h0, .inr (8, vs1)) :: (q1, .inl (cA 0, 700, .inl (fun _ => 0))) :: (q2, .inl (cA 0, 153, .inl (wfn 77))) :: []) := by rw [← wfn_s (k := 76) (v := 108) rfl]; exact hD
  refine lv_dup hx hb dX8_init_475 rfl ?_
  refine lv_bipush (v := 77) hx hb dX8_init_476 (by decide) ?_
  refine lv_bipush (v := 105) hx hb dX8_init_478 (by decide) ?_
  refine va_iast (i := 77) hx hb hK hP hD hS 2 0 rfl rfl (tq_in (by decide)) dX8_init_480 (fun H locs hP hD hS => ?_)
  have hP : va_P G vwCl ((h0, .inr (8, vs1)) :: (q1, .inl (cA 0, 700, .inl (fun _ => 0))) :: (q2, .inl (cA 0, 153, .inl (wfn 78))) :: []) H := by rw [← wfn_s (k := 77) (v := 105) rfl]; exact hP
  have hD : va_D A ((h0, .inr (8, vs1)) :: (q1, .inl (cA 0, 700, .inl (fun _ => 0))) :: (q2, .inl (cA 0, 153, .inl (wfn 78))) :: []) := by rw [← wfn_s (k := 77) (v := 105) rfl]; exact hD
  refine lv_dup hx hb dX8_init_481 rfl ?_
  refine lv_bipush (v := 78) hx hb dX8_init_482 (by decide) ?_
  refine lv_bipush (v := 103) hx hb dX8_init_484 (by decide) ?_
  refine va_iast (i := 78) hx hb hK hP hD hS 2 0 rfl rfl (tq_in (by decide)) dX8_init_486 (fun H locs hP hD hS => ?_)
  have hP : va_P G vwCl ((h0, .inr (8, vs1)) :: (q1, .inl (cA 0, 700, .inl (fun _ => 0))) :: (q2, .inl (cA 0, 153, .inl (wfn 79))) :: []) H := by rw [← wfn_s (k := 78) (v := 103) rfl]; exact hP
  have hD : va_D A ((h0, .inr (8, vs1)) :: (q1, .inl (cA 0, 700, .inl (fun _ => 0))) :: (q2, .inl (cA 0, 153, .inl (wfn 79))) :: []) := by rw [← wfn_s (k := 78) (v := 103) rfl]; exact hD
  refine lv_dup hx hb dX8_init_487 rfl ?_
  refine lv_bipush (v := 79) hx hb dX8_init_488 (by decide) ?_
  refine lv_bipush (v := 104) hx hb dX8_init_490 (by decide) ?_
  refine va_iast (i := 79) hx hb hK hP hD hS 2 0 rfl rfl (tq_in (by decide)) dX8_init_492 (fun H locs hP hD hS => ?_)
  have hP : va_P G vwCl ((h0, .inr (8, vs1)) :: (q1, .inl (cA 0, 700, .inl (fun _ => 0))) :: (q2, .inl (cA 0, 153, .inl (wfn 80))) :: []) H := by rw [← wfn_s (k := 79) (v := 104) rfl]; exact hP
  have hD : va_D A ((h0, .inr (8, vs1)) :: (q1, .inl (cA 0, 700, .inl (fun _ => 0))) :: (q2, .inl (cA 0, 153, .inl (wfn 80))) :: []) := by rw [← wfn_s (k := 79) (v := 104) rfl]; exact hD
  refine lv_dup hx hb dX8_init_493 rfl ?_
  refine lv_bipush (v := 80) hx hb dX8_init_494 (by decide) ?_
  refine lv_bipush (v := 116) hx hb dX8_init_496 (by decide) ?_
  refine va_iast (i := 80) hx hb hK hP hD hS 2 0 rfl rfl (tq_in (by decide)) dX8_init_498 (fun H locs hP hD hS => ?_)
  have hP : va_P G vwCl ((h0, .inr (8, vs1)) :: (q1, .inl (cA 0, 700, .inl (fun _ => 0))) :: (q2, .inl (cA 0, 153, .inl (wfn 81))) :: []) H := by rw [← wfn_s (k := 80) (v := 116) rfl]; exact hP
  have hD : va_D A ((h0, .inr (8, vs1)) :: (q1, .inl (cA 0, 700, .inl (fun _ => 0))) :: (q2, .inl (cA 0, 153, .inl (wfn 81))) :: []) := by rw [← wfn_s (k := 80) (v := 116) rfl]; exact hD
  refine lv_dup hx hb dX8_init_499 rfl ?_
  refine lv_bipush (v := 81) hx hb dX8_init_500 (by decide) ?_
  refine lv_bipush (v := 32) hx hb dX8_init_502 (by decide) ?_
  refine va_iast (i := 81) hx hb hK hP hD hS 2 0 rfl rfl (tq_in (by decide)) dX8_init_504 (fun H locs hP hD hS => ?_)
  have hP : va_P G vwCl ((h0, .inr (8, vs1)) :: (q1, .inl (cA 0, 700, .inl (fun _ => 0))) :: (q2, .inl (cA 0, 153, .inl (wfn 82))) :: []) H := by rw [← wfn_s (k := 81) (v := 32) rfl]; exact hP
  have hD : va_D A ((h0, .inr (8, vs1)) :: (q1, .inl (cA 0, 700, .inl (fun _ => 0))) :: (q2, .inl (cA 0, 153, .inl (wfn 82))) :: []) := by rw [← wfn_s (k := 81) (v := 32) rfl]; exact hD
  refine lv_dup hx hb dX8_init_505 rfl ?_
  refine lv_bipush (v := 82) hx hb dX8_init_506 (by decide) ?_
  refine lv_bipush (v := 108) hx hb dX8_init_508 (by decide) ?_
  refine va_iast (i := 82) hx hb hK hP hD hS 2 0 rfl rfl (tq_in (by decide)) dX8_init_510 (fun H locs hP hD hS => ?_)
  have hP : va_P G vwCl ((h0, .inr (8, vs1)) :: (q1, .inl (cA 0, 700, .inl (fun _ => 0))) :: (q2, .inl (cA 0, 153, .inl (wfn 83))) :: []) H := by rw [← wfn_s (k := 82) (v := 108) rfl]; exact hP
  have hD : va_D A ((h0, .inr (8, vs1)) :: (q1, .inl (cA 0, 700, .inl (fun _ => 0))) :: (q2, .inl (cA 0, 153, .inl (wfn 83))) :: []) := by rw [← wfn_s (k := 82) (v := 108) rfl]; exact hD
  refine lv_dup hx hb dX8_init_511 rfl ?_
  refine lv_bipush (v := 83) hx hb dX8_init_512 (by decide) ?_
  refine lv_bipush (v := 97) hx hb dX8_init_514 (by decide) ?_
  refine va_iast (i := 83) hx hb hK hP hD hS 2 0 rfl rfl (tq_in (by decide)) dX8_init_516 (fun H locs hP hD hS => ?_)
  have hP : va_P G vwCl ((h0, .inr (8, vs1)) :: (q1, .inl (cA 0, 700, .inl (fun _ => 0))) :: (q2, .inl (cA 0, 153, .inl (wfn 84))) :: []) H := by rw [← wfn_s (k := 83) (v := 97) rfl]; exact hP
  have hD : va_D A ((h0, .inr (8, vs1)) :: (q1, .inl (cA 0, 700, .inl (fun _ => 0))) :: (q2, .inl (cA 0, 153, .inl (wfn 84))) :: []) := by rw [← wfn_s (k := 83) (v := 97) rfl]; exact hD
  refine lv_dup hx hb dX8_init_517 rfl ?_
  refine lv_bipush (v := 84) hx hb dX8_init_518 (by decide) ?_
  refine lv_bipush (v := 115) hx hb dX8_init_520 (by decide) ?_
  refine va_iast (i := 84) hx hb hK hP hD hS 2 0 rfl rfl (tq_in (by decide)) dX8_init_522 (fun H locs hP hD hS => ?_)
  have hP : va_P G vwCl ((h0, .inr (8, vs1)) :: (q1, .inl (cA 0, 700, .inl (fun _ => 0))) :: (q2, .inl (cA 0, 153, .inl (wfn 85))) :: []) H := by rw [← wfn_s (k := 84) (v := 115) rfl]; exact hP
  have hD : va_D A ((h0, .inr (8, vs1)) :: (q1, .inl (cA 0, 700, .inl (fun _ => 0))) :: (q2, .inl (cA 0, 153, .inl (wfn 85))) :: []) := by rw [← wfn_s (k := 84) (v := 115) rfl]; exact hD
  refine lv_dup hx hb dX8_init_523 rfl ?_
  refine lv_bipush (v := 85) hx hb dX8_init_524 (by decide) ?_
  refine lv_bipush (v := 116) hx hb dX8_init_526 (by decide) ?_
  refine va_iast (i := 85) hx hb hK hP hD hS 2 0 rfl rfl (tq_in (by decide)) dX8_init_528 (fun H locs hP hD hS => ?_)
  have hP : va_P G vwCl ((h0, .inr (8, vs1)) :: (q1, .inl (cA 0, 700, .inl (fun _ => 0))) :: (q2, .inl (cA 0, 153, .inl (wfn 86))) :: []) H := by rw [← wfn_s (k := 85) (v := 116) rfl]; exact hP
  have hD : va_D A ((h0, .inr (8, vs1)) :: (q1, .inl (cA 0, 700, .inl (fun _ => 0))) :: (q2, .inl (cA 0, 153, .inl (wfn 86))) :: []) := by rw [← wfn_s (k := 85) (v := 116) rfl]; exact hD
  refine lv_dup hx hb dX8_init_529 rfl ?_
  refine lv_bipush (v := 86) hx hb dX8_init_530 (by decide) ?_
  refine lv_bipush (v := 32) hx hb dX8_init_532 (by decide) ?_
  refine va_iast (i := 86) hx hb hK hP hD hS 2 0 rfl rfl (tq_in (by decide)) dX8_init_534 (fun H locs hP hD hS => ?_)
  have hP : va_P G vwCl ((h0, .inr (8, vs1)) :: (q1, .inl (cA 0, 700, .inl (fun _ => 0))) :: (q2, .inl (cA 0, 153, .inl (wfn 87))) :: []) H := by rw [← wfn_s (k := 86) (v := 32) rfl]; exact hP
  have hD : va_D A ((h0, .inr (8, vs1)) :: (q1, .inl (cA 0, 700, .inl (fun _ => 0))) :: (q2, .inl (cA 0, 153, .inl (wfn 87))) :: []) := by rw [← wfn_s (k := 86) (v := 32) rfl]; exact hD
  refine lv_dup hx hb dX8_init_535 rfl ?_
  refine lv_bipush (v := 87) hx hb dX8_init_536 (by decide) ?_
  refine lv_bipush (v := 108) hx hb dX8_init_538 (by decide) ?_
  refine va_iast (i := 87) hx hb hK hP hD hS 2 0 rfl rfl (tq_in (by decide)) dX8_init_540 (fun H locs hP hD hS => ?_)
  have hP : va_P G vwCl ((h0, .inr (8, vs1)) :: (q1, .inl (cA 0, 700, .inl (fun _ => 0))) :: (q2, .inl (cA 0, 153, .inl (wfn 88))) :: []) H := by rw [← wfn_s (k := 87) (v := 108) rfl]; exact hP
  have hD : va_D A ((h0, .inr (8, vs1)) :: (q1, .inl (cA 0, 700, .inl (fun _ => 0))) :: (q2, .inl (cA 0, 153, .inl (wfn 88))) :: []) := by rw [← wfn_s (k := 87) (v := 108) rfl]; exact hD
  refine lv_dup hx hb dX8_init_541 rfl ?_
  refine lv_bipush (v := 88) hx hb dX8_init_542 (by decide) ?_
  refine lv_bipush (v := 105) hx hb dX8_init_544 (by decide) ?_
  refine va_iast (i := 88) hx hb hK hP hD hS 2 0 rfl rfl (tq_in (by decide)) dX8_init_546 (fun H locs hP hD hS => ?_)
  have hP : va_P G vwCl ((h0, .inr (8, vs1)) :: (q1, .inl (cA 0, 700, .inl (fun _ => 0))) :: (q2, .inl (cA 0, 153, .inl (wfn 89))) :: []) H := by rw [← wfn_s (k := 88) (v := 105) rfl]; exact hP
  have hD : va_D A ((h0, .inr (8, vs1)) :: (q1, .inl (cA 0, 700, .inl (fun _ => 0))) :: (q2, .inl (cA 0, 153, .inl (wfn 89))) :: []) := by rw [← wfn_s (k := 88) (v := 105) rfl]; exact hD
  refine lv_dup hx hb dX8_init_547 rfl ?_
  refine lv_bipush (v := 89) hx hb dX8_init_548 (by decide) ?_
  refine lv_bipush (v := 102) hx hb dX8_init_550 (by decide) ?_
  refine va_iast (i := 89) hx hb hK hP hD hS 2 0 rfl rfl (tq_in (by decide)) dX8_init_552 (fun H locs hP hD hS => ?_)
  have hP : va_P G vwCl ((h0, .inr (8, vs1)) :: (q1, .inl (cA 0, 700, .inl (fun _ => 0))) :: (q2, .inl (cA 0, 153, .inl (wfn 90))) :: []) H := by rw [← wfn_s (k := 89) (v := 102) rfl]; exact hP
  have hD : va_D A ((h0, .inr (8, vs1)) :: (q1, .inl (cA 0, 700, .inl (fun _ => 0))) :: (q2, .inl (cA 0, 153, .inl (wfn 90))) :: []) := by rw [← wfn_s (k := 89) (v := 102) rfl]; exact hD
  refine lv_dup hx hb dX8_init_553 rfl ?_
  refine lv_bipush (v := 90) hx hb dX8_init_554 (by decide) ?_
  refine lv_bipush (v := 116) hx hb dX8_init_556 (by decide) ?_
  refine va_iast (i := 90) hx hb hK hP hD hS 2 0 rfl rfl (tq_in (by decide)) dX8_init_558 (fun H locs hP hD hS => ?_)
  have hP : va_P G vwCl ((h0, .inr (8, vs1)) :: (q1, .inl (cA 0, 700, .inl (fun _ => 0))) :: (q2, .inl (cA 0, 153, .inl (wfn 91))) :: []) H := by rw [← wfn_s (k := 90) (v := 116) rfl]; exact hP
  have hD : va_D A ((h0, .inr (8, vs1)) :: (q1, .inl (cA 0, 700, .inl (fun _ => 0))) :: (q2, .inl (cA 0, 153, .inl (wfn 91))) :: []) := by rw [← wfn_s (k := 90) (v := 116) rfl]; exact hD
  refine lv_dup hx hb dX8_init_559 rfl ?_
  refine lv_bipush (v := 91) hx hb dX8_init_560 (by decide) ?_
  refine lv_bipush (v := 32) hx hb dX8_init_562 (by decide) ?_
  refine va_iast (i := 91) hx hb hK hP hD hS 2 0 rfl rfl (tq_in (by decide)) dX8_init_564 (fun H locs hP hD hS => ?_)
  have hP : va_P G vwCl ((h0, .inr (8, vs1)) :: (q1, .inl (cA 0, 700, .inl (fun _ => 0))) :: (q2, .inl (cA 0, 153, .inl (wfn 92))) :: []) H := by rw [← wfn_s (k := 91) (v := 32) rfl]; exact hP
  have hD : va_D A ((h0, .inr (8, vs1)) :: (q1, .inl (cA 0, 700, .inl (fun _ => 0))) :: (q2, .inl (cA 0, 153, .inl (wfn 92))) :: []) := by rw [← wfn_s (k := 91) (v := 32) rfl]; exact hD
  refine lv_dup hx hb dX8_init_565 rfl ?_
  refine lv_bipush (v := 92) hx hb dX8_init_566 (by decide) ?_
  refine lv_bipush (v := 102) hx hb dX8_init_568 (by decide) ?_
  refine va_iast (i := 92) hx hb hK hP hD hS 2 0 rfl rfl (tq_in (by decide)) dX8_init_570 (fun H locs hP hD hS => ?_)
  have hP : va_P G vwCl ((h0, .inr (8, vs1)) :: (q1, .inl (cA 0, 700, .inl (fun _ => 0))) :: (q2, .inl (cA 0, 153, .inl (wfn 93))) :: []) H := by rw [← wfn_s (k := 92) (v := 102) rfl]; exact hP
  have hD : va_D A ((h0, .inr (8, vs1)) :: (q1, .inl (cA 0, 700, .inl (fun _ => 0))) :: (q2, .inl (cA 0, 153, .inl (wfn 93))) :: []) := by rw [← wfn_s (k := 92) (v := 102) rfl]; exact hD
  refine lv_dup hx hb dX8_init_571 rfl ?_
  refine lv_bipush (v := 93) hx hb dX8_init_572 (by decide) ?_
  refine lv_bipush (v := 97) hx hb dX8_init_574 (by decide) ?_
  refine va_iast (i := 93) hx hb hK hP hD hS 2 0 rfl rfl (tq_in (by decide)) dX8_init_576 (fun H locs hP hD hS => ?_)
  have hP : va_P G vwCl ((h0, .inr (8, vs1)) :: (q1, .inl (cA 0, 700, .inl (fun _ => 0))) :: (q2, .inl (cA 0, 153, .inl (wfn 94))) :: []) H := by rw [← wfn_s (k := 93) (v := 97) rfl]; exact hP
  have hD : va_D A ((h0, .inr (8, vs1)) :: (q1, .inl (cA 0, 700, .inl (fun _ => 0))) :: (q2, .inl (cA 0, 153, .inl (wfn 94))) :: []) := by rw [← wfn_s (k := 93) (v := 97) rfl]; exact hD
  refine lv_dup hx hb dX8_init_577 rfl ?_
  refine lv_bipush (v := 94) hx hb dX8_init_578 (by decide) ?_
  refine lv_bipush (v := 108) hx hb dX8_init_580 (by decide) ?_
  refine va_iast (i := 94) hx hb hK hP hD hS 2 0 rfl rfl (tq_in (by decide)) dX8_init_582 (fun H locs hP hD hS => ?_)
  have hP : va_P G vwCl ((h0, .inr (8, vs1)) :: (q1, .inl (cA 0, 700, .inl (fun _ => 0))) :: (q2, .inl (cA 0, 153, .inl (wfn 95))) :: []) H := by rw [← wfn_s (k := 94) (v := 108) rfl]; exact hP
  have hD : va_D A ((h0, .inr (8, vs1)) :: (q1, .inl (cA 0, 700, .inl (fun _ => 0))) :: (q2, .inl (cA 0, 153, .inl (wfn 95))) :: []) := by rw [← wfn_s (k := 94) (v := 108) rfl]; exact hD
  refine lv_dup hx hb dX8_init_583 rfl ?_
  refine lv_bipush (v := 95) hx hb dX8_init_584 (by decide) ?_
  refine lv_bipush (v := 108) hx hb dX8_init_586 (by decide) ?_
  refine va_iast (i := 95) hx hb hK hP hD hS 2 0 rfl rfl (tq_in (by decide)) dX8_init_588 (fun H locs hP hD hS => ?_)
  have hP : va_P G vwCl ((h0, .inr (8, vs1)) :: (q1, .inl (cA 0, 700, .inl (fun _ => 0))) :: (q2, .inl (cA 0, 153, .inl (wfn 96))) :: []) H := by rw [← wfn_s (k := 95) (v := 108) rfl]; exact hP
  have hD : va_D A ((h0, .inr (8, vs1)) :: (q1, .inl (cA 0, 700, .inl (fun _ => 0))) :: (q2, .inl (cA 0, 153, .inl (wfn 96))) :: []) := by rw [← wfn_s (k := 95) (v := 108) rfl]; exact hD
  refine lv_dup hx hb dX8_init_589 rfl ?_
  refine lv_bipush (v := 96) hx hb dX8_init_590 (by decide) ?_
  refine lv_bipush (v := 32) hx hb dX8_init_592 (by decide) ?_
  refine va_iast (i := 96) hx hb hK hP hD hS 2 0 rfl rfl (tq_in (by decide)) dX8_init_594 (fun H locs hP hD hS => ?_)
  have hP : va_P G vwCl ((h0, .inr (8, vs1)) :: (q1, .inl (cA 0, 700, .inl (fun _ => 0))) :: (q2, .inl (cA 0, 153, .inl (wfn 97))) :: []) H := by rw [← wfn_s (k := 96) (v := 32) rfl]; exact hP
  have hD : va_D A ((h0, .inr (8, vs1)) :: (q1, .inl (cA 0, 700, .inl (fun _ => 0))) :: (q2, .inl (cA 0, 153, .inl (wfn 97))) :: []) := by rw [← wfn_s (k := 96) (v := 32) rfl]; exact hD
  refine lv_dup hx hb dX8_init_595 rfl ?_
  refine lv_bipush (v := 97) hx hb dX8_init_596 (by decide) ?_
  refine lv_bipush (v := 115) hx hb dX8_init_598 (by decide) ?_
  refine va_iast (i := 97) hx hb hK hP hD hS 2 0 rfl rfl (tq_in (by decide)) dX8_init_600 (fun H locs hP hD hS => ?_)
  have hP : va_P G vwCl ((h0, .inr (8, vs1)) :: (q1, .inl (cA 0, 700, .inl (fun _ => 0))) :: (q2, .inl (cA 0, 153, .inl (wfn 98))) :: []) H := by rw [← wfn_s (k := 97) (v := 115) rfl]; exact hP
  have hD : va_D A ((h0, .inr (8, vs1)) :: (q1, .inl (cA 0, 700, .inl (fun _ => 0))) :: (q2, .inl (cA 0, 153, .inl (wfn 98))) :: []) := by rw [← wfn_s (k := 97) (v := 115) rfl]; exact hD
  refine lv_dup hx hb dX8_init_601 rfl ?_
  refine lv_bipush (v := 98) hx hb dX8_init_602 (by decide) ?_
  refine lv_bipush (v := 116) hx hb dX8_init_604 (by decide) ?_
  refine va_iast (i := 98) hx hb hK hP hD hS 2 0 rfl rfl (tq_in (by decide)) dX8_init_606 (fun H locs hP hD hS => ?_)
  have hP : va_P G vwCl ((h0, .inr (8, vs1)) :: (q1, .inl (cA 0, 700, .inl (fun _ => 0))) :: (q2, .inl (cA 0, 153, .inl (wfn 99))) :: []) H := by rw [← wfn_s (k := 98) (v := 116) rfl]; exact hP
  have hD : va_D A ((h0, .inr (8, vs1)) :: (q1, .inl (cA 0, 700, .inl (fun _ => 0))) :: (q2, .inl (cA 0, 153, .inl (wfn 99))) :: []) := by rw [← wfn_s (k := 98) (v := 116) rfl]; exact hD
  refine lv_dup hx hb dX8_init_607 rfl ?_
  refine lv_bipush (v := 99) hx hb dX8_init_608 (by decide) ?_
  refine lv_bipush (v := 101) hx hb dX8_init_610 (by decide) ?_
  refine va_iast (i := 99) hx hb hK hP hD hS 2 0 rfl rfl (tq_in (by decide)) dX8_init_612 (fun H locs hP hD hS => ?_)
  have hP : va_P G vwCl ((h0, .inr (8, vs1)) :: (q1, .inl (cA 0, 700, .inl (fun _ => 0))) :: (q2, .inl (cA 0, 153, .inl (wfn 100))) :: []) H := by rw [← wfn_s (k := 99) (v := 101) rfl]; exact hP
  have hD : va_D A ((h0, .inr (8, vs1)) :: (q1, .inl (cA 0, 700, .inl (fun _ => 0))) :: (q2, .inl (cA 0, 153, .inl (wfn 100))) :: []) := by rw [← wfn_s (k := 99) (v := 101) rfl]; exact hD
  refine lv_dup hx hb dX8_init_613 rfl ?_
  refine lv_bipush (v := 100) hx hb dX8_init_614 (by decide) ?_
  refine lv_bipush (v := 97) hx hb dX8_init_616 (by decide) ?_
  refine va_iast (i := 100) hx hb hK hP hD hS 2 0 rfl rfl (tq_in (by decide)) dX8_init_618 (fun H locs hP hD hS => ?_)
  have hP : va_P G vwCl ((h0, .inr (8, vs1)) :: (q1, .inl (cA 0, 700, .inl (fun _ => 0))) :: (q2, .inl (cA 0, 153, .inl (wfn 101))) :: []) H := by rw [← wfn_s (k := 100) (v := 97) rfl]; exact hP
  have hD : va_D A ((h0, .inr (8, vs1)) :: (q1, .inl (cA 0, 700, .inl (fun _ => 0))) :: (q2, .inl (cA 0, 153, .inl (wfn 101))) :: []) := by rw [← wfn_s (k := 100) (v := 97) rfl]; exact hD
  refine lv_dup hx hb dX8_init_619 rfl ?_
  refine lv_bipush (v := 101) hx hb dX8_init_620 (by decide) ?_
  refine lv_bipush (v := 108) hx hb dX8_init_622 (by decide) ?_
  refine va_iast (i := 101) hx hb hK hP hD hS 2 0 rfl rfl (tq_in (by decide)) dX8_init_624 (fun H locs hP hD hS => ?_)
  have hP : va_P G vwCl ((h0, .inr (8, vs1)) :: (q1, .inl (cA 0, 700, .inl (fun _ => 0))) :: (q2, .inl (cA 0, 153, .inl (wfn 102))) :: []) H := by rw [← wfn_s (k := 101) (v := 108) rfl]; exact hP
  have hD : va_D A ((h0, .inr (8, vs1)) :: (q1, .inl (cA 0, 700, .inl (fun _ => 0))) :: (q2, .inl (cA 0, 153, .inl (wfn 102))) :: []) := by rw [← wfn_s (k := 101) (v := 108) rfl]; exact hD
  refine lv_dup hx hb dX8_init_625 rfl ?_
  refine lv_bipush (v := 102) hx hb dX8_init_626 (by decide) ?_
  refine lv_bipush (v := 32) hx hb dX8_init_628 (by decide) ?_
  refine va_iast (i := 102) hx hb hK hP hD hS 2 0 rfl rfl (tq_in (by decide)) dX8_init_630 (fun H locs hP hD hS => ?_)
  have hP : va_P G vwCl ((h0, .inr (8, vs1)) :: (q1, .inl (cA 0, 700, .inl (fun _ => 0))) :: (q2, .inl (cA 0, 153, .inl (wfn 103))) :: []) H := by rw [← wfn_s (k := 102) (v := 32) rfl]; exact hP
  have hD : va_D A ((h0, .inr (8, vs1)) :: (q1, .inl (cA 0, 700, .inl (fun _ => 0))) :: (q2, .inl (cA 0, 153, .inl (wfn 103))) :: []) := by rw [← wfn_s (k := 102) (v := 32) rfl]; exact hD
  refine lv_dup hx hb dX8_init_631 rfl ?_
  refine lv_bipush (v := 103) hx hb dX8_init_632 (by decide) ?_
  refine lv_bipush (v := 97) hx hb dX8_init_634 (by decide) ?_
  refine va_iast (i := 103) hx hb hK hP hD hS 2 0 rfl rfl (tq_in (by decide)) dX8_init_636 (fun H locs hP hD hS => ?_)
  have hP : va_P G vwCl ((h0, .inr (8, vs1)) :: (q1, .inl (cA 0, 700, .inl (fun _ => 0))) :: (q2, .inl (cA 0, 153, .inl (wfn 104))) :: []) H := by rw [← wfn_s (k := 103) (v := 97) rfl]; exact hP
  have hD : va_D A ((h0, .inr (8, vs1)) :: (q1, .inl (cA 0, 700, .inl (fun _ => 0))) :: (q2, .inl (cA 0, 153, .inl (wfn 104))) :: []) := by rw [← wfn_s (k := 103) (v := 97) rfl]; exact hD
  refine lv_dup hx hb dX8_init_637 rfl ?_
  refine lv_bipush (v := 104) hx hb dX8_init_638 (by decide) ?_
  refine lv_bipush (v := 110) hx hb dX8_init_640 (by decide) ?_
  refine va_iast (i := 104) hx hb hK hP hD hS 2 0 rfl rfl (tq_in (by decide)) dX8_init_642 (fun H locs hP hD hS => ?_)
  have hP : va_P G vwCl ((h0, .inr (8, vs1)) :: (q1, .inl (cA 0, 700, .inl (fun _ => 0))) :: (q2, .inl (cA 0, 153, .inl (wfn 105))) :: []) H := by rw [← wfn_s (k := 104) (v := 110) rfl]; exact hP
  have hD : va_D A ((h0, .inr (8, vs1)) :: (q1, .inl (cA 0, 700, .inl (fun _ => 0))) :: (q2, .inl (cA 0, 153, .inl (wfn 105))) :: []) := by rw [← wfn_s (k := 104) (v := 110) rfl]; exact hD
  refine lv_dup hx hb dX8_init_643 rfl ?_
  refine lv_bipush (v := 105) hx hb dX8_init_644 (by decide) ?_
  refine lv_bipush (v := 100) hx hb dX8_init_646 (by decide) ?_
  refine va_iast (i := 105) hx hb hK hP hD hS 2 0 rfl rfl (tq_in (by decide)) dX8_init_648 (fun H locs hP hD hS => ?_)
  have hP : va_P G vwCl ((h0, .inr (8, vs1)) :: (q1, .inl (cA 0, 700, .inl (fun _ => 0))) :: (q2, .inl (cA 0, 153, .inl (wfn 106))) :: []) H := by rw [← wfn_s (k := 105) (v := 100) rfl]; exact hP
  have hD : va_D A ((h0, .inr (8, vs1)) :: (q1, .inl (cA 0, 700, .inl (fun _ => 0))) :: (q2, .inl (cA 0, 153, .inl (wfn 106))) :: []) := by rw [← wfn_s (k := 105) (v := 100) rfl]; exact hD
  refine lv_dup hx hb dX8_init_649 rfl ?_
  refine lv_bipush (v := 106) hx hb dX8_init_650 (by decide) ?_
  refine lv_bipush (v := 32) hx hb dX8_init_652 (by decide) ?_
  refine va_iast (i := 106) hx hb hK hP hD hS 2 0 rfl rfl (tq_in (by decide)) dX8_init_654 (fun H locs hP hD hS => ?_)
  have hP : va_P G vwCl ((h0, .inr (8, vs1)) :: (q1, .inl (cA 0, 700, .inl (fun _ => 0))) :: (q2, .inl (cA 0, 153, .inl (wfn 107))) :: []) H := by rw [← wfn_s (k := 106) (v := 32) rfl]; exact hP
  have hD : va_D A ((h0, .inr (8, vs1)) :: (q1, .inl (cA 0, 700, .inl (fun _ => 0))) :: (q2, .inl (cA 0, 153, .inl (wfn 107))) :: []) := by rw [← wfn_s (k := 106) (v := 32) rfl]; exact hD
  refine lv_dup hx hb dX8_init_655 rfl ?_
  refine lv_bipush (v := 107) hx hb dX8_init_656 (by decide) ?_
  refine lv_bipush (v := 111) hx hb dX8_init_658 (by decide) ?_
  refine va_iast (i := 107) hx hb hK hP hD hS 2 0 rfl rfl (tq_in (by decide)) dX8_init_660 (fun H locs hP hD hS => ?_)
  have hP : va_P G vwCl ((h0, .inr (8, vs1)) :: (q1, .inl (cA 0, 700, .inl (fun _ => 0))) :: (q2, .inl (cA 0, 153, .inl (wfn 108))) :: []) H := by rw [← wfn_s (k := 107) (v := 111) rfl]; exact hP
  have hD : va_D A ((h0, .inr (8, vs1)) :: (q1, .inl (cA 0, 700, .inl (fun _ => 0))) :: (q2, .inl (cA 0, 153, .inl (wfn 108))) :: []) := by rw [← wfn_s (k := 107) (v := 111) rfl]; exact hD
  refine lv_dup hx hb dX8_init_661 rfl ?_
  refine lv_bipush (v := 108) hx hb dX8_init_662 (by decide) ?_
  refine lv_bipush (v := 114) hx hb dX8_init_664 (by decide) ?_
  refine va_iast (i := 108) hx hb hK hP hD hS 2 0 rfl rfl (tq_in (by decide)) dX8_init_666 (fun H locs hP hD hS => ?_)
  have hP : va_P G vwCl ((h0, .inr (8, vs1)) :: (q1, .inl (cA 0, 700, .inl (fun _ => 0))) :: (q2, .inl (cA 0, 153, .inl (wfn 109))) :: []) H := by rw [← wfn_s (k := 108) (v := 114) rfl]; exact hP
  have hD : va_D A ((h0, .inr (8, vs1)) :: (q1, .inl (cA 0, 700, .inl (fun _ => 0))) :: (q2, .inl (cA 0, 153, .inl (wfn 109))) :: []) := by rw [← wfn_s (k := 108) (v := 114) rfl]; exact hD
  refine lv_dup hx hb dX8_init_667 rfl ?_
  refine lv_bipush (v := 109) hx hb dX8_init_668 (by decide) ?_
  refine lv_bipush (v := 32) hx hb dX8_init_670 (by decide) ?_
  refine va_iast (i := 109) hx hb hK hP hD hS 2 0 rfl rfl (tq_in (by decide)) dX8_init_672 (fun H locs hP hD hS => ?_)
  have hP : va_P G vwCl ((h0, .inr (8, vs1)) :: (q1, .inl (cA 0, 700, .inl (fun _ => 0))) :: (q2, .inl (cA 0, 153, .inl (wfn 110))) :: []) H := by rw [← wfn_s (k := 109) (v := 32) rfl]; exact hP
  have hD : va_D A ((h0, .inr (8, vs1)) :: (q1, .inl (cA 0, 700, .inl (fun _ => 0))) :: (q2, .inl (cA 0, 153, .inl (wfn 110))) :: []) := by rw [← wfn_s (k := 109) (v := 32) rfl]; exact hD
  refine lv_dup hx hb dX8_init_673 rfl ?_
  refine lv_bipush (v := 110) hx hb dX8_init_674 (by decide) ?_
  refine lv_bipush (v := 110) hx hb dX8_init_676 (by decide) ?_
  refine va_iast (i := 110) hx hb hK hP hD hS 2 0 rfl rfl (tq_in (by decide)) dX8_init_678 (fun H locs hP hD hS => ?_)
  have hP : va_P G vwCl ((h0, .inr (8, vs1)) :: (q1, .inl (cA 0, 700, .inl (fun _ => 0))) :: (q2, .inl (cA 0, 153, .inl (wfn 111))) :: []) H := by rw [← wfn_s (k := 110) (v := 110) rfl]; exact hP
  have hD : va_D A ((h0, .inr (8, vs1)) :: (q1, .inl (cA 0, 700, .inl (fun _ => 0))) :: (q2, .inl (cA 0, 153, .inl (wfn 111))) :: []) := by rw [← wfn_s (k := 110) (v := 110) rfl]; exact hD
  refine lv_dup hx hb dX8_init_679 rfl ?_
  refine lv_bipush (v := 111) hx hb dX8_init_680 (by decide) ?_
  refine lv_bipush (v := 111) hx hb dX8_init_682 (by decide) ?_
  refine va_iast (i := 111) hx hb hK hP hD hS 2 0 rfl rfl (tq_in (by decide)) dX8_init_684 (fun H locs hP hD hS => ?_)
  have hP : va_P G vwCl ((h0, .inr (8, vs1)) :: (q1, .inl (cA 0, 700, .inl (fun _ => 0))) :: (q2, .inl (cA 0, 153, .inl (wfn 112))) :: []) H := by rw [← wfn_s (k := 111) (v := 111) rfl]; exact hP
  have hD : va_D A ((h0, .inr (8, vs1)) :: (q1, .inl (cA 0, 700, .inl (fun _ => 0))) :: (q2, .inl (cA 0, 153, .inl (wfn 112))) :: []) := by rw [← wfn_s (k := 111) (v := 111) rfl]; exact hD
  refine lv_dup hx hb dX8_init_685 rfl ?_
  refine lv_bipush (v := 112) hx hb dX8_init_686 (by decide) ?_
  refine lv_bipush (v := 116) hx hb dX8_init_688 (by decide) ?_
  refine va_iast (i := 112) hx hb hK hP hD hS 2 0 rfl rfl (tq_in (by decide)) dX8_init_690 (fun H locs hP hD hS => ?_)
  have hP : va_P G vwCl ((h0, .inr (8, vs1)) :: (q1, .inl (cA 0, 700, .inl (fun _ => 0))) :: (q2, .inl (cA 0, 153, .inl (wfn 113))) :: []) H := by rw [← wfn_s (k := 112) (v := 116) rfl]; exact hP
  have hD : va_D A ((h0, .inr (8, vs1)) :: (q1, .inl (cA 0, 700, .inl (fun _ => 0))) :: (q2, .inl (cA 0, 153, .inl (wfn 113))) :: []) := by rw [← wfn_s (k := 112) (v := 116) rfl]; exact hD
  refine lv_dup hx hb dX8_init_691 rfl ?_
  refine lv_bipush (v := 113) hx hb dX8_init_692 (by decide) ?_
  refine lv_bipush (v := 32) hx hb dX8_init_694 (by decide) ?_
  refine va_iast (i := 113) hx hb hK hP hD hS 2 0 rfl rfl (tq_in (by decide)) dX8_init_696 (fun H locs hP hD hS => ?_)
  have hP : va_P G vwCl ((h0, .inr (8, vs1)) :: (q1, .inl (cA 0, 700, .inl (fun _ => 0))) :: (q2, .inl (cA 0, 153, .inl (wfn 114))) :: []) H := by rw [← wfn_s (k := 113) (v := 32) rfl]; exact hP
  have hD : va_D A ((h0, .inr (8, vs1)) :: (q1, .inl (cA 0, 700, .inl (fun _ => 0))) :: (q2, .inl (cA 0, 153, .inl (wfn 114))) :: []) := by rw [← wfn_s (k := 113) (v := 32) rfl]; exact hD
  refine lv_dup hx hb dX8_init_697 rfl ?_
  refine lv_bipush (v := 114) hx hb dX8_init_698 (by decide) ?_
  refine lv_bipush (v := 104) hx hb dX8_init_700 (by decide) ?_
  refine va_iast (i := 114) hx hb hK hP hD hS 2 0 rfl rfl (tq_in (by decide)) dX8_init_702 (fun H locs hP hD hS => ?_)
  have hP : va_P G vwCl ((h0, .inr (8, vs1)) :: (q1, .inl (cA 0, 700, .inl (fun _ => 0))) :: (q2, .inl (cA 0, 153, .inl (wfn 115))) :: []) H := by rw [← wfn_s (k := 114) (v := 104) rfl]; exact hP
  have hD : va_D A ((h0, .inr (8, vs1)) :: (q1, .inl (cA 0, 700, .inl (fun _ => 0))) :: (q2, .inl (cA 0, 153, .inl (wfn 115))) :: []) := by rw [← wfn_s (k := 114) (v := 104) rfl]; exact hD
  refine lv_dup hx hb dX8_init_703 rfl ?_
  refine lv_bipush (v := 115) hx hb dX8_init_704 (by decide) ?_
  refine lv_bipush (v := 101) hx hb dX8_init_706 (by decide) ?_
  refine va_iast (i := 115) hx hb hK hP hD hS 2 0 rfl rfl (tq_in (by decide)) dX8_init_708 (fun H locs hP hD hS => ?_)
  have hP : va_P G vwCl ((h0, .inr (8, vs1)) :: (q1, .inl (cA 0, 700, .inl (fun _ => 0))) :: (q2, .inl (cA 0, 153, .inl (wfn 116))) :: []) H := by rw [← wfn_s (k := 115) (v := 101) rfl]; exact hP
  have hD : va_D A ((h0, .inr (8, vs1)) :: (q1, .inl (cA 0, 700, .inl (fun _ => 0))) :: (q2, .inl (cA 0, 153, .inl (wfn 116))) :: []) := by rw [← wfn_s (k := 115) (v := 101) rfl]; exact hD
  refine lv_dup hx hb dX8_init_709 rfl ?_
  refine lv_bipush (v := 116) hx hb dX8_init_710 (by decide) ?_
  refine lv_bipush (v := 97) hx hb dX8_init_712 (by decide) ?_
  refine va_iast (i := 116) hx hb hK hP hD hS 2 0 rfl rfl (tq_in (by decide)) dX8_init_714 (fun H locs hP hD hS => ?_)
  have hP : va_P G vwCl ((h0, .inr (8, vs1)) :: (q1, .inl (cA 0, 700, .inl (fun _ => 0))) :: (q2, .inl (cA 0, 153, .inl (wfn 117))) :: []) H := by rw [← wfn_s (k := 116) (v := 97) rfl]; exact hP
  have hD : va_D A ((h0, .inr (8, vs1)) :: (q1, .inl (cA 0, 700, .inl (fun _ => 0))) :: (q2, .inl (cA 0, 153, .inl (wfn 117))) :: []) := by rw [← wfn_s (k := 116) (v := 97) rfl]; exact hD
  refine lv_dup hx hb dX8_init_715 rfl ?_
  refine lv_bipush (v := 117) hx hb dX8_init_716 (by decide) ?_
  refine lv_bipush (v := 118) hx hb dX8_init_718 (by decide) ?_
  refine va_iast (i := 117) hx hb hK hP hD hS 2 0 rfl rfl (tq_in (by decide)) dX8_init_720 (fun H locs hP hD hS => ?_)
  have hP : va_P G vwCl ((h0, .inr (8, vs1)) :: (q1, .inl (cA 0, 700, .inl (fun _ => 0))) :: (q2, .inl (cA 0, 153, .inl (wfn 118))) :: []) H := by rw [← wfn_s (k := 117) (v := 118) rfl]; exact hP
  have hD : va_D A ((h0, .inr (8, vs1)) :: (q1, .inl (cA 0, 700, .inl (fun _ => 0))) :: (q2, .inl (cA 0, 153, .inl (wfn 118))) :: []) := by rw [← wfn_s (k := 117) (v := 118) rfl]; exact hD
  refine lv_dup hx hb dX8_init_721 rfl ?_
  refine lv_bipush (v := 118) hx hb dX8_init_722 (by decide) ?_
  refine lv_bipush (v := 121) hx hb dX8_init_724 (by decide) ?_
  refine va_iast (i := 118) hx hb hK hP hD hS 2 0 rfl rfl (tq_in (by decide)) dX8_init_726 (fun H locs hP hD hS => ?_)
  have hP : va_P G vwCl ((h0, .inr (8, vs1)) :: (q1, .inl (cA 0, 700, .inl (fun _ => 0))) :: (q2, .inl (cA 0, 153, .inl (wfn 119))) :: []) H := by rw [← wfn_s (k := 118) (v := 121) rfl]; exact hP
  have hD : va_D A ((h0, .inr (8, vs1)) :: (q1, .inl (cA 0, 700, .inl (fun _ => 0))) :: (q2, .inl (cA 0, 153, .inl (wfn 119))) :: []) := by rw [← wfn_s (k := 118) (v := 121) rfl]; exact hD
  refine lv_dup hx hb dX8_init_727 rfl ?_
  refine lv_bipush (v := 119) hx hb dX8_init_728 (by decide) ?_
  refine lv_bipush (v := 32) hx hb dX8_init_730 (by decide) ?_
  refine va_iast (i := 119) hx hb hK hP hD hS 2 0 rfl rfl (tq_in (by decide)) dX8_init_732 (fun H locs hP hD hS => ?_)
  have hP : va_P G vwCl ((h0, .inr (8, vs1)) :: (q1, .inl (cA 0, 700, .inl (fun _ => 0))) :: (q2, .inl (cA 0, 153, .inl (wfn 120))) :: []) H := by rw [← wfn_s (k := 119) (v := 32) rfl]; exact hP
  have hD : va_D A ((h0, .inr (8, vs1)) :: (q1, .inl (cA 0, 700, .inl (fun _ => 0))) :: (q2, .inl (cA 0, 153, .inl (wfn 120))) :: []) := by rw [← wfn_s (k := 119) (v := 32) rfl]; exact hD
  refine lv_dup hx hb dX8_init_733 rfl ?_
  refine lv_bipush (v := 120) hx hb dX8_init_734 (by decide) ?_
  refine lv_bipush (v := 102) hx hb dX8_init_736 (by decide) ?_
  refine va_iast (i := 120) hx hb hK hP hD hS 2 0 rfl rfl (tq_in (by decide)) dX8_init_738 (fun H locs hP hD hS => ?_)
  have hP : va_P G vwCl ((h0, .inr (8, vs1)) :: (q1, .inl (cA 0, 700, .inl (fun _ => 0))) :: (q2, .inl (cA 0, 153, .inl (wfn 121))) :: []) H := by rw [← wfn_s (k := 120) (v := 102) rfl]; exact hP
  have hD : va_D A ((h0, .inr (8, vs1)) :: (q1, .inl (cA 0, 700, .inl (fun _ => 0))) :: (q2, .inl (cA 0, 153, .inl (wfn 121))) :: []) := by rw [← wfn_s (k := 120) (v := 102) rfl]; exact hD
  refine lv_dup hx hb dX8_init_739 rfl ?_
  refine lv_bipush (v := 121) hx hb dX8_init_740 (by decide) ?_
  refine lv_bipush (v := 114) hx hb dX8_init_742 (by decide) ?_
  refine va_iast (i := 121) hx hb hK hP hD hS 2 0 rfl rfl (tq_in (by decide)) dX8_init_744 (fun H locs hP hD hS => ?_)
  have hP : va_P G vwCl ((h0, .inr (8, vs1)) :: (q1, .inl (cA 0, 700, .inl (fun _ => 0))) :: (q2, .inl (cA 0, 153, .inl (wfn 122))) :: []) H := by rw [← wfn_s (k := 121) (v := 114) rfl]; exact hP
  have hD : va_D A ((h0, .inr (8, vs1)) :: (q1, .inl (cA 0, 700, .inl (fun _ => 0))) :: (q2, .inl (cA 0, 153, .inl (wfn 122))) :: []) := by rw [← wfn_s (k := 121) (v := 114) rfl]; exact hD
  refine lv_dup hx hb dX8_init_745 rfl ?_
  refine lv_bipush (v := 122) hx hb dX8_init_746 (by decide) ?_
  refine lv_bipush (v := 97) hx hb dX8_init_748 (by decide) ?_
  refine va_iast (i := 122) hx hb hK hP hD hS 2 0 rfl rfl (tq_in (by decide)) dX8_init_750 (fun H locs hP hD hS => ?_)
  have hP : va_P G vwCl ((h0, .inr (8, vs1)) :: (q1, .inl (cA 0, 700, .inl (fun _ => 0))) :: (q2, .inl (cA 0, 153, .inl (wfn 123))) :: []) H := by rw [← wfn_s (k := 122) (v := 97) rfl]; exact hP
  have hD : va_D A ((h0, .inr (8, vs1)) :: (q1, .inl (cA 0, 700, .inl (fun _ => 0))) :: (q2, .inl (cA 0, 153, .inl (wfn 123))) :: []) := by rw [← wfn_s (k := 122) (v := 97) rfl]; exact hD
  refine lv_dup hx hb dX8_init_751 rfl ?_
  refine lv_bipush (v := 123) hx hb dX8_init_752 (by decide) ?_
  refine lv_bipush (v := 105) hx hb dX8_init_754 (by decide) ?_
  refine va_iast (i := 123) hx hb hK hP hD hS 2 0 rfl rfl (tq_in (by decide)) dX8_init_756 (fun H locs hP hD hS => ?_)
  have hP : va_P G vwCl ((h0, .inr (8, vs1)) :: (q1, .inl (cA 0, 700, .inl (fun _ => 0))) :: (q2, .inl (cA 0, 153, .inl (wfn 124))) :: []) H := by rw [← wfn_s (k := 123) (v := 105) rfl]; exact hP
  have hD : va_D A ((h0, .inr (8, vs1)) :: (q1, .inl (cA 0, 700, .inl (fun _ => 0))) :: (q2, .inl (cA 0, 153, .inl (wfn 124))) :: []) := by rw [← wfn_s (k := 123) (v := 105) rfl]; exact hD
  refine lv_dup hx hb dX8_init_757 rfl ?_
  refine lv_bipush (v := 124) hx hb dX8_init_758 (by decide) ?_
  refine lv_bipush (v := 108) hx hb dX8_init_760 (by decide) ?_
  refine va_iast (i := 124) hx hb hK hP hD hS 2 0 rfl rfl (tq_in (by decide)) dX8_init_762 (fun H locs hP hD hS => ?_)
  have hP : va_P G vwCl ((h0, .inr (8, vs1)) :: (q1, .inl (cA 0, 700, .inl (fun _ => 0))) :: (q2, .inl (cA 0, 153, .inl (wfn 125))) :: []) H := by rw [← wfn_s (k := 124) (v := 108) rfl]; exact hP
  have hD : va_D A ((h0, .inr (8, vs1)) :: (q1, .inl (cA 0, 700, .inl (fun _ => 0))) :: (q2, .inl (cA 0, 153, .inl (wfn 125))) :: []) := by rw [← wfn_s (k := 124) (v := 108) rfl]; exact hD
  refine lv_dup hx hb dX8_init_763 rfl ?_
  refine lv_bipush (v := 125) hx hb dX8_init_764 (by decide) ?_
  refine lv_bipush (v := 32) hx hb dX8_init_766 (by decide) ?_
  refine va_iast (i := 125) hx hb hK hP hD hS 2 0 rfl rfl (tq_in (by decide)) dX8_init_768 (fun H locs hP hD hS => ?_)
  have hP : va_P G vwCl ((h0, .inr (8, vs1)) :: (q1, .inl (cA 0, 700, .inl (fun _ => 0))) :: (q2, .inl (cA 0, 153, .inl (wfn 126))) :: []) H := by rw [← wfn_s (k := 125) (v := 32) rfl]; exact hP
  have hD : va_D A ((h0, .inr (8, vs1)) :: (q1, .inl (cA 0, 700, .inl (fun _ => 0))) :: (q2, .inl (cA 0, 153, .inl (wfn 126))) :: []) := by rw [← wfn_s (k := 125) (v := 32) rfl]; exact hD
  refine lv_dup hx hb dX8_init_769 rfl ?_
  refine lv_bipush (v := 126) hx hb dX8_init_770 (by decide) ?_
  refine lv_bipush (v := 97) hx hb dX8_init_772 (by decide) ?_
  refine va_iast (i := 126) hx hb hK hP hD hS 2 0 rfl rfl (tq_in (by decide)) dX8_init_774 (fun H locs hP hD hS => ?_)
  have hP : va_P G vwCl ((h0, .inr (8, vs1)) :: (q1, .inl (cA 0, 700, .inl (fun _ => 0))) :: (q2, .inl (cA 0, 153, .inl (wfn 127))) :: []) H := by rw [← wfn_s (k := 126) (v := 97) rfl]; exact hP
  have hD : va_D A ((h0, .inr (8, vs1)) :: (q1, .inl (cA 0, 700, .inl (fun _ => 0))) :: (q2, .inl (cA 0, 153, .inl (wfn 127))) :: []) := by rw [← wfn_s (k := 126) (v := 97) rfl]; exact hD
  refine lv_dup hx hb dX8_init_775 rfl ?_
  refine lv_bipush (v := 127) hx hb dX8_init_776 (by decide) ?_
  refine lv_bipush (v := 98) hx hb dX8_init_778 (by decide) ?_
  refine va_iast (i := 127) hx hb hK hP hD hS 2 0 rfl rfl (tq_in (by decide)) dX8_init_780 (fun H locs hP hD hS => ?_)
  have hP : va_P G vwCl ((h0, .inr (8, vs1)) :: (q1, .inl (cA 0, 700, .inl (fun _ => 0))) :: (q2, .inl (cA 0, 153, .inl (wfn 128))) :: []) H := by rw [← wfn_s (k := 127) (v := 98) rfl]; exact hP
  have hD : va_D A ((h0, .inr (8, vs1)) :: (q1, .inl (cA 0, 700, .inl (fun _ => 0))) :: (q2, .inl (cA 0, 153, .inl (wfn 128))) :: []) := by rw [← wfn_s (k := 127) (v := 98) rfl]; exact hD
  refine lv_dup hx hb dX8_init_781 rfl ?_
  refine lv_sipush (v := 128) hx hb dX8_init_782 (by decide) ?_
  refine lv_bipush (v := 111) hx hb dX8_init_785 (by decide) ?_
  refine va_iast (i := 128) hx hb hK hP hD hS 2 0 rfl rfl (tq_in (by decide)) dX8_init_787 (fun H locs hP hD hS => ?_)
  have hP : va_P G vwCl ((h0, .inr (8, vs1)) :: (q1, .inl (cA 0, 700, .inl (fun _ => 0))) :: (q2, .inl (cA 0, 153, .inl (wfn 129))) :: []) H := by rw [← wfn_s (k := 128) (v := 111) rfl]; exact hP
  have hD : va_D A ((h0, .inr (8, vs1)) :: (q1, .inl (cA 0, 700, .inl (fun _ => 0))) :: (q2, .inl (cA 0, 153, .inl (wfn 129))) :: []) := by rw [← wfn_s (k := 128) (v := 111) rfl]; exact hD
  refine lv_dup hx hb dX8_init_788 rfl ?_
  refine lv_sipush (v := 129) hx hb dX8_init_789 (by decide) ?_
  refine lv_bipush (v := 118) hx hb dX8_init_792 (by decide) ?_
  refine va_iast (i := 129) hx hb hK hP hD hS 2 0 rfl rfl (tq_in (by decide)) dX8_init_794 (fun H locs hP hD hS => ?_)
  have hP : va_P G vwCl ((h0, .inr (8, vs1)) :: (q1, .inl (cA 0, 700, .inl (fun _ => 0))) :: (q2, .inl (cA 0, 153, .inl (wfn 130))) :: []) H := by rw [← wfn_s (k := 129) (v := 118) rfl]; exact hP
  have hD : va_D A ((h0, .inr (8, vs1)) :: (q1, .inl (cA 0, 700, .inl (fun _ => 0))) :: (q2, .inl (cA 0, 153, .inl (wfn 130))) :: []) := by rw [← wfn_s (k := 129) (v := 118) rfl]; exact hD
  refine lv_dup hx hb dX8_init_795 rfl ?_
  refine lv_sipush (v := 130) hx hb dX8_init_796 (by decide) ?_
  refine lv_bipush (v := 101) hx hb dX8_init_799 (by decide) ?_
  refine va_iast (i := 130) hx hb hK hP hD hS 2 0 rfl rfl (tq_in (by decide)) dX8_init_801 (fun H locs hP hD hS => ?_)
  have hP : va_P G vwCl ((h0, .inr (8, vs1)) :: (q1, .inl (cA 0, 700, .inl (fun _ => 0))) :: (q2, .inl (cA 0, 153, .inl (wfn 131))) :: []) H := by rw [← wfn_s (k := 130) (v := 101) rfl]; exact hP
  have hD : va_D A ((h0, .inr (8, vs1)) :: (q1, .inl (cA 0, 700, .inl (fun _ => 0))) :: (q2, .inl (cA 0, 153, .inl (wfn 131))) :: []) := by rw [← wfn_s (k := 130) (v := 101) rfl]; exact hD
  refine lv_dup hx hb dX8_init_802 rfl ?_
  refine lv_sipush (v := 131) hx hb dX8_init_803 (by decide) ?_
  refine lv_bipush (v := 32) hx hb dX8_init_806 (by decide) ?_
  refine va_iast (i := 131) hx hb hK hP hD hS 2 0 rfl rfl (tq_in (by decide)) dX8_init_808 (fun H locs hP hD hS => ?_)
  have hP : va_P G vwCl ((h0, .inr (8, vs1)) :: (q1, .inl (cA 0, 700, .inl (fun _ => 0))) :: (q2, .inl (cA 0, 153, .inl (wfn 132))) :: []) H := by rw [← wfn_s (k := 131) (v := 32) rfl]; exact hP
  have hD : va_D A ((h0, .inr (8, vs1)) :: (q1, .inl (cA 0, 700, .inl (fun _ => 0))) :: (q2, .inl (cA 0, 153, .inl (wfn 132))) :: []) := by rw [← wfn_s (k := 131) (v := 32) rfl]; exact hD
  refine lv_dup hx hb dX8_init_809 rfl ?_
  refine lv_sipush (v := 132) hx hb dX8_init_810 (by decide) ?_
  refine lv_bipush (v := 107) hx hb dX8_init_813 (by decide) ?_
  refine va_iast (i := 132) hx hb hK hP hD hS 2 0 rfl rfl (tq_in (by decide)) dX8_init_815 (fun H locs hP hD hS => ?_)
  have hP : va_P G vwCl ((h0, .inr (8, vs1)) :: (q1, .inl (cA 0, 700, .inl (fun _ => 0))) :: (q2, .inl (cA 0, 153, .inl (wfn 133))) :: []) H := by rw [← wfn_s (k := 132) (v := 107) rfl]; exact hP
  have hD : va_D A ((h0, .inr (8, vs1)) :: (q1, .inl (cA 0, 700, .inl (fun _ => 0))) :: (q2, .inl (cA 0, 153, .inl (wfn 133))) :: []) := by rw [← wfn_s (k := 132) (v := 107) rfl]; exact hD
  refine lv_dup hx hb dX8_init_816 rfl ?_
  refine lv_sipush (v := 133) hx hb dX8_init_817 (by decide) ?_
  refine lv_bipush (v := 105) hx hb dX8_init_820 (by decide) ?_
  refine va_iast (i := 133) hx hb hK hP hD hS 2 0 rfl rfl (tq_in (by decide)) dX8_init_822 (fun H locs hP hD hS => ?_)
  have hP : va_P G vwCl ((h0, .inr (8, vs1)) :: (q1, .inl (cA 0, 700, .inl (fun _ => 0))) :: (q2, .inl (cA 0, 153, .inl (wfn 134))) :: []) H := by rw [← wfn_s (k := 133) (v := 105) rfl]; exact hP
  have hD : va_D A ((h0, .inr (8, vs1)) :: (q1, .inl (cA 0, 700, .inl (fun _ => 0))) :: (q2, .inl (cA 0, 153, .inl (wfn 134))) :: []) := by rw [← wfn_s (k := 133) (v := 105) rfl]; exact hD
  refine lv_dup hx hb dX8_init_823 rfl ?_
  refine lv_sipush (v := 134) hx hb dX8_init_824 (by decide) ?_
  refine lv_bipush (v := 110) hx hb dX8_init_827 (by decide) ?_
  refine va_iast (i := 134) hx hb hK hP hD hS 2 0 rfl rfl (tq_in (by decide)) dX8_init_829 (fun H locs hP hD hS => ?_)
  have hP : va_P G vwCl ((h0, .inr (8, vs1)) :: (q1, .inl (cA 0, 700, .inl (fun _ => 0))) :: (q2, .inl (cA 0, 153, .inl (wfn 135))) :: []) H := by rw [← wfn_s (k := 134) (v := 110) rfl]; exact hP
  have hD : va_D A ((h0, .inr (8, vs1)) :: (q1, .inl (cA 0, 700, .inl (fun _ => 0))) :: (q2, .inl (cA 0, 153, .inl (wfn 135))) :: []) := by rw [← wfn_s (k := 134) (v := 110) rfl]; exact hD
  refine lv_dup hx hb dX8_init_830 rfl ?_
  refine lv_sipush (v := 135) hx hb dX8_init_831 (by decide) ?_
  refine lv_bipush (v := 100) hx hb dX8_init_834 (by decide) ?_
  refine va_iast (i := 135) hx hb hK hP hD hS 2 0 rfl rfl (tq_in (by decide)) dX8_init_836 (fun H locs hP hD hS => ?_)
  have hP : va_P G vwCl ((h0, .inr (8, vs1)) :: (q1, .inl (cA 0, 700, .inl (fun _ => 0))) :: (q2, .inl (cA 0, 153, .inl (wfn 136))) :: []) H := by rw [← wfn_s (k := 135) (v := 100) rfl]; exact hP
  have hD : va_D A ((h0, .inr (8, vs1)) :: (q1, .inl (cA 0, 700, .inl (fun _ => 0))) :: (q2, .inl (cA 0, 153, .inl (wfn 136))) :: []) := by rw [← wfn_s (k := 135) (v := 100) rfl]; exact hD
  refine lv_dup hx hb dX8_init_837 rfl ?_
  refine lv_sipush (v := 136) hx hb dX8_init_838 (by decide) ?_
  refine lv_bipush (v := 32) hx hb dX8_init_841 (by decide) ?_
  refine va_iast (i := 136) hx hb hK hP hD hS 2 0 rfl rfl (tq_in (by decide)) dX8_init_843 (fun H locs hP hD hS => ?_)
  have hP : va_P G vwCl ((h0, .inr (8, vs1)) :: (q1, .inl (cA 0, 700, .inl (fun _ => 0))) :: (q2, .inl (cA 0, 153, .inl (wfn 137))) :: []) H := by rw [← wfn_s (k := 136) (v := 32) rfl]; exact hP
  have hD : va_D A ((h0, .inr (8, vs1)) :: (q1, .inl (cA 0, 700, .inl (fun _ => 0))) :: (q2, .inl (cA 0, 153, .inl (wfn 137))) :: []) := by rw [← wfn_s (k := 136) (v := 32) rfl]; exact hD
  refine lv_dup hx hb dX8_init_844 rfl ?_
  refine lv_sipush (v := 137) hx hb dX8_init_845 (by decide) ?_
  refine lv_bipush (v := 97) hx hb dX8_init_848 (by decide) ?_
  refine va_iast (i := 137) hx hb hK hP hD hS 2 0 rfl rfl (tq_in (by decide)) dX8_init_850 (fun H locs hP hD hS => ?_)
  have hP : va_P G vwCl ((h0, .inr (8, vs1)) :: (q1, .inl (cA 0, 700, .inl (fun _ => 0))) :: (q2, .inl (cA 0, 153, .inl (wfn 138))) :: []) H := by rw [← wfn_s (k := 137) (v := 97) rfl]; exact hP
  have hD : va_D A ((h0, .inr (8, vs1)) :: (q1, .inl (cA 0, 700, .inl (fun _ => 0))) :: (q2, .inl (cA 0, 153, .inl (wfn 138))) :: []) := by rw [← wfn_s (k := 137) (v := 97) rfl]; exact hD
  refine lv_dup hx hb dX8_init_851 rfl ?_
  refine lv_sipush (v := 138) hx hb dX8_init_852 (by decide) ?_
  refine lv_bipush (v := 98) hx hb dX8_init_855 (by decide) ?_
  refine va_iast (i := 138) hx hb hK hP hD hS 2 0 rfl rfl (tq_in (by decide)) dX8_init_857 (fun H locs hP hD hS => ?_)
  have hP : va_P G vwCl ((h0, .inr (8, vs1)) :: (q1, .inl (cA 0, 700, .inl (fun _ => 0))) :: (q2, .inl (cA 0, 153, .inl (wfn 139))) :: []) H := by rw [← wfn_s (k := 138) (v := 98) rfl]; exact hP
  have hD : va_D A ((h0, .inr (8, vs1)) :: (q1, .inl (cA 0, 700, .inl (fun _ => 0))) :: (q2, .inl (cA 0, 153, .inl (wfn 139))) :: []) := by rw [← wfn_s (k := 138) (v := 98) rfl]; exact hD
  refine lv_dup hx hb dX8_init_858 rfl ?_
  refine lv_sipush (v := 139) hx hb dX8_init_859 (by decide) ?_
  refine lv_bipush (v := 108) hx hb dX8_init_862 (by decide) ?_
  refine va_iast (i := 139) hx hb hK hP hD hS 2 0 rfl rfl (tq_in (by decide)) dX8_init_864 (fun H locs hP hD hS => ?_)
  have hP : va_P G vwCl ((h0, .inr (8, vs1)) :: (q1, .inl (cA 0, 700, .inl (fun _ => 0))) :: (q2, .inl (cA 0, 153, .inl (wfn 140))) :: []) H := by rw [← wfn_s (k := 139) (v := 108) rfl]; exact hP
  have hD : va_D A ((h0, .inr (8, vs1)) :: (q1, .inl (cA 0, 700, .inl (fun _ => 0))) :: (q2, .inl (cA 0, 153, .inl (wfn 140))) :: []) := by rw [← wfn_s (k := 139) (v := 108) rfl]; exact hD
  refine lv_dup hx hb dX8_init_865 rfl ?_
  refine lv_sipush (v := 140) hx hb dX8_init_866 (by decide) ?_
  refine lv_bipush (v := 101) hx hb dX8_init_869 (by decide) ?_
  refine va_iast (i := 140) hx hb hK hP hD hS 2 0 rfl rfl (tq_in (by decide)) dX8_init_871 (fun H locs hP hD hS => ?_)
  have hP : va_P G vwCl ((h0, .inr (8, vs1)) :: (q1, .inl (cA 0, 700, .inl (fun _ => 0))) :: (q2, .inl (cA 0, 153, .inl (wfn 141))) :: []) H := by rw [← wfn_s (k := 140) (v := 101) rfl]; exact hP
  have hD : va_D A ((h0, .inr (8, vs1)) :: (q1, .inl (cA 0, 700, .inl (fun _ => 0))) :: (q2, .inl (cA 0, 153, .inl (wfn 141))) :: []) := by rw [← wfn_s (k := 140) (v := 101) rfl]; exact hD
  refine lv_dup hx hb dX8_init_872 rfl ?_
  refine lv_sipush (v := 141) hx hb dX8_init_873 (by decide) ?_
  refine lv_bipush (v := 32) hx hb dX8_init_876 (by decide) ?_
  refine va_iast (i := 141) hx hb hK hP hD hS 2 0 rfl rfl (tq_in (by decide)) dX8_init_878 (fun H locs hP hD hS => ?_)
  have hP : va_P G vwCl ((h0, .inr (8, vs1)) :: (q1, .inl (cA 0, 700, .inl (fun _ => 0))) :: (q2, .inl (cA 0, 153, .inl (wfn 142))) :: []) H := by rw [← wfn_s (k := 141) (v := 32) rfl]; exact hP
  have hD : va_D A ((h0, .inr (8, vs1)) :: (q1, .inl (cA 0, 700, .inl (fun _ => 0))) :: (q2, .inl (cA 0, 153, .inl (wfn 142))) :: []) := by rw [← wfn_s (k := 141) (v := 32) rfl]; exact hD
  refine lv_dup hx hb dX8_init_879 rfl ?_
  refine lv_sipush (v := 142) hx hb dX8_init_880 (by decide) ?_
  refine lv_bipush (v := 115) hx hb dX8_init_883 (by decide) ?_
  refine va_iast (i := 142) hx hb hK hP hD hS 2 0 rfl rfl (tq_in (by decide)) dX8_init_885 (fun H locs hP hD hS => ?_)
  have hP : va_P G vwCl ((h0, .inr (8, vs1)) :: (q1, .inl (cA 0, 700, .inl (fun _ => 0))) :: (q2, .inl (cA 0, 153, .inl (wfn 143))) :: []) H := by rw [← wfn_s (k := 142) (v := 115) rfl]; exact hP
  have hD : va_D A ((h0, .inr (8, vs1)) :: (q1, .inl (cA 0, 700, .inl (fun _ => 0))) :: (q2, .inl (cA 0, 153, .inl (wfn 143))) :: []) := by rw [← wfn_s (k := 142) (v := 115) rfl]; exact hD
  refine lv_dup hx hb dX8_init_886 rfl ?_
  refine lv_sipush (v := 143) hx hb dX8_init_887 (by decide) ?_
  refine lv_bipush (v := 116) hx hb dX8_init_890 (by decide) ?_
  refine va_iast (i := 143) hx hb hK hP hD hS 2 0 rfl rfl (tq_in (by decide)) dX8_init_892 (fun H locs hP hD hS => ?_)
  have hP : va_P G vwCl ((h0, .inr (8, vs1)) :: (q1, .inl (cA 0, 700, .inl (fun _ => 0))) :: (q2, .inl (cA 0, 153, .inl (wfn 144))) :: []) H := by rw [← wfn_s (k := 143) (v := 116) rfl]; exact hP
  have hD : va_D A ((h0, .inr (8, vs1)) :: (q1, .inl (cA 0, 700, .inl (fun _ => 0))) :: (q2, .inl (cA 0, 153, .inl (wfn 144))) :: []) := by rw [← wfn_s (k := 143) (v := 116) rfl]; exact hD
  refine lv_dup hx hb dX8_init_893 rfl ?_
  refine lv_sipush (v := 144) hx hb dX8_init_894 (by decide) ?_
  refine lv_bipush (v := 111) hx hb dX8_init_897 (by decide) ?_
  refine va_iast (i := 144) hx hb hK hP hD hS 2 0 rfl rfl (tq_in (by decide)) dX8_init_899 (fun H locs hP hD hS => ?_)
  have hP : va_P G vwCl ((h0, .inr (8, vs1)) :: (q1, .inl (cA 0, 700, .inl (fun _ => 0))) :: (q2, .inl (cA 0, 153, .inl (wfn 145))) :: []) H := by rw [← wfn_s (k := 144) (v := 111) rfl]; exact hP
  have hD : va_D A ((h0, .inr (8, vs1)) :: (q1, .inl (cA 0, 700, .inl (fun _ => 0))) :: (q2, .inl (cA 0, 153, .inl (wfn 145))) :: []) := by rw [← wfn_s (k := 144) (v := 111) rfl]; exact hD
  refine lv_dup hx hb dX8_init_900 rfl ?_
  refine lv_sipush (v := 145) hx hb dX8_init_901 (by decide) ?_
  refine lv_bipush (v := 112) hx hb dX8_init_904 (by decide) ?_
  refine va_iast (i := 145) hx hb hK hP hD hS 2 0 rfl rfl (tq_in (by decide)) dX8_init_906 (fun H locs hP hD hS => ?_)
  have hP : va_P G vwCl ((h0, .inr (8, vs1)) :: (q1, .inl (cA 0, 700, .inl (fun _ => 0))) :: (q2, .inl (cA 0, 153, .inl (wfn 146))) :: []) H := by rw [← wfn_s (k := 145) (v := 112) rfl]; exact hP
  have hD : va_D A ((h0, .inr (8, vs1)) :: (q1, .inl (cA 0, 700, .inl (fun _ => 0))) :: (q2, .inl (cA 0, 153, .inl (wfn 146))) :: []) := by rw [← wfn_s (k := 145) (v := 112) rfl]; exact hD
  refine lv_dup hx hb dX8_init_907 rfl ?_
  refine lv_sipush (v := 146) hx hb dX8_init_908 (by decide) ?_
  refine lv_bipush (v := 32) hx hb dX8_init_911 (by decide) ?_
  refine va_iast (i := 146) hx hb hK hP hD hS 2 0 rfl rfl (tq_in (by decide)) dX8_init_913 (fun H locs hP hD hS => ?_)
  have hP : va_P G vwCl ((h0, .inr (8, vs1)) :: (q1, .inl (cA 0, 700, .inl (fun _ => 0))) :: (q2, .inl (cA 0, 153, .inl (wfn 147))) :: []) H := by rw [← wfn_s (k := 146) (v := 32) rfl]; exact hP
  have hD : va_D A ((h0, .inr (8, vs1)) :: (q1, .inl (cA 0, 700, .inl (fun _ => 0))) :: (q2, .inl (cA 0, 153, .inl (wfn 147))) :: []) := by rw [← wfn_s (k := 146) (v := 32) rfl]; exact hD
  refine lv_dup hx hb dX8_init_914 rfl ?_
  refine lv_sipush (v := 147) hx hb dX8_init_915 (by decide) ?_
  refine lv_bipush (v := 98) hx hb dX8_init_918 (by decide) ?_
  refine va_iast (i := 147) hx hb hK hP hD hS 2 0 rfl rfl (tq_in (by decide)) dX8_init_920 (fun H locs hP hD hS => ?_)
  have hP : va_P G vwCl ((h0, .inr (8, vs1)) :: (q1, .inl (cA 0, 700, .inl (fun _ => 0))) :: (q2, .inl (cA 0, 153, .inl (wfn 148))) :: []) H := by rw [← wfn_s (k := 147) (v := 98) rfl]; exact hP
  have hD : va_D A ((h0, .inr (8, vs1)) :: (q1, .inl (cA 0, 700, .inl (fun _ => 0))) :: (q2, .inl (cA 0, 153, .inl (wfn 148))) :: []) := by rw [← wfn_s (k := 147) (v := 98) rfl]; exact hD
  refine lv_dup hx hb dX8_init_921 rfl ?_
  refine lv_sipush (v := 148) hx hb dX8_init_922 (by decide) ?_
  refine lv_bipush (v := 101) hx hb dX8_init_925 (by decide) ?_
  refine va_iast (i := 148) hx hb hK hP hD hS 2 0 rfl rfl (tq_in (by decide)) dX8_init_927 (fun H locs hP hD hS => ?_)
  have hP : va_P G vwCl ((h0, .inr (8, vs1)) :: (q1, .inl (cA 0, 700, .inl (fun _ => 0))) :: (q2, .inl (cA 0, 153, .inl (wfn 149))) :: []) H := by rw [← wfn_s (k := 148) (v := 101) rfl]; exact hP
  have hD : va_D A ((h0, .inr (8, vs1)) :: (q1, .inl (cA 0, 700, .inl (fun _ => 0))) :: (q2, .inl (cA 0, 153, .inl (wfn 149))) :: []) := by rw [← wfn_s (k := 148) (v := 101) rfl]; exact hD
  refine lv_dup hx hb dX8_init_928 rfl ?_
  refine lv_sipush (v := 149) hx hb dX8_init_929 (by decide) ?_
  refine lv_bipush (v := 97) hx hb dX8_init_932 (by decide) ?_
  refine va_iast (i := 149) hx hb hK hP hD hS 2 0 rfl rfl (tq_in (by decide)) dX8_init_934 (fun H locs hP hD hS => ?_)
  have hP : va_P G vwCl ((h0, .inr (8, vs1)) :: (q1, .inl (cA 0, 700, .inl (fun _ => 0))) :: (q2, .inl (cA 0, 153, .inl (wfn 150))) :: []) H := by rw [← wfn_s (k := 149) (v := 97) rfl]; exact hP
  have hD : va_D A ((h0, .inr (8, vs1)) :: (q1, .inl (cA 0, 700, .inl (fun _ => 0))) :: (q2, .inl (cA 0, 153, .inl (wfn 150))) :: []) := by rw [← wfn_s (k := 149) (v := 97) rfl]; exact hD
  refine lv_dup hx hb dX8_init_935 rfl ?_
  refine lv_sipush (v := 150) hx hb dX8_init_936 (by decide) ?_
  refine lv_bipush (v := 114) hx hb dX8_init_939 (by decide) ?_
  refine va_iast (i := 150) hx hb hK hP hD hS 2 0 rfl rfl (tq_in (by decide)) dX8_init_941 (fun H locs hP hD hS => ?_)
  have hP : va_P G vwCl ((h0, .inr (8, vs1)) :: (q1, .inl (cA 0, 700, .inl (fun _ => 0))) :: (q2, .inl (cA 0, 153, .inl (wfn 151))) :: []) H := by rw [← wfn_s (k := 150) (v := 114) rfl]; exact hP
  have hD : va_D A ((h0, .inr (8, vs1)) :: (q1, .inl (cA 0, 700, .inl (fun _ => 0))) :: (q2, .inl (cA 0, 153, .inl (wfn 151))) :: []) := by rw [← wfn_s (k := 150) (v := 114) rfl]; exact hD
  refine lv_dup hx hb dX8_init_942 rfl ?_
  refine lv_sipush (v := 151) hx hb dX8_init_943 (by decide) ?_
  refine lv_bipush (v := 115) hx hb dX8_init_946 (by decide) ?_
  refine va_iast (i := 151) hx hb hK hP hD hS 2 0 rfl rfl (tq_in (by decide)) dX8_init_948 (fun H locs hP hD hS => ?_)
  have hP : va_P G vwCl ((h0, .inr (8, vs1)) :: (q1, .inl (cA 0, 700, .inl (fun _ => 0))) :: (q2, .inl (cA 0, 153, .inl (wfn 152))) :: []) H := by rw [← wfn_s (k := 151) (v := 115) rfl]; exact hP
  have hD : va_D A ((h0, .inr (8, vs1)) :: (q1, .inl (cA 0, 700, .inl (fun _ => 0))) :: (q2, .inl (cA 0, 153, .inl (wfn 152))) :: []) := by rw [← wfn_s (k := 151) (v := 115) rfl]; exact hD
  refine lv_dup hx hb dX8_init_949 rfl ?_
  refine lv_sipush (v := 152) hx hb dX8_init_950 (by decide) ?_
  refine lv_bipush (v := 32) hx hb dX8_init_953 (by decide) ?_
  refine va_iast (i := 152) hx hb hK hP hD hS 2 0 rfl rfl (tq_in (by decide)) dX8_init_955 (fun H locs hP hD hS => ?_)
  have hP : va_P G vwCl ((h0, .inr (8, vs1)) :: (q1, .inl (cA 0, 700, .inl (fun _ => 0))) :: (q2, .inl (cA 0, 153, .inl (wfn 153))) :: []) H := by rw [← wfn_s (k := 152) (v := 32) rfl]; exact hP
  have hD : va_D A ((h0, .inr (8, vs1)) :: (q1, .inl (cA 0, 700, .inl (fun _ => 0))) :: (q2, .inl (cA 0, 153, .inl (wfn 153))) :: []) := by rw [← wfn_s (k := 152) (v := 32) rfl]; exact hD
  refine va_putF (D := G) (ci := 8) (v := .ref q2) (ty := (.array .int)) (C := RX8) (T := TX8) (N := 91) hx hb hT ku_8 tyX8 tyX8_ok nmX8 hown hK hP hD hS 0 rfl rfl 3 (by decide) (hT _ kw_9_11) (fun _ h9 => h9) rfl hin rfl (by decide +kernel) rfl rfl (by rw [hlen]; decide) dX8_init_956 (fun H locs hP hD hS => ?_)
  obtain ⟨vs2, ev2⟩ : ∃ z : List Value, z = vs1.set 3 (.ref q2) := ⟨_, rfl⟩
  have hlen : vs2.length = 91 := by rw [ev2, List.length_set]; exact hlen
  have hP : va_P G vwCl ((h0, .inr (8, vs2)) :: (q1, .inl (cA 0, 700, .inl (fun _ => 0))) :: (q2, .inl (cA 0, 153, .inl (wfn 153))) :: []) H := by rw [ev2]; exact hP
  have hD : va_D A ((h0, .inr (8, vs2)) :: (q1, .inl (cA 0, 700, .inl (fun _ => 0))) :: (q2, .inl (cA 0, 153, .inl (wfn 153))) :: []) := by rw [ev2]; exact hD
  exact hk H locs q1 q2 vs2 (by rw [ev2, ev1, ev0]) hlen hP hD hS
