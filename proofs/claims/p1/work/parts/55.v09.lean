set_option maxHeartbeats 4000000 in
set_option maxRecDepth 100000 in
theorem d_X8_init_s1 {p : Program} {l : Launch} {e : Env} {s : State} {m : MethodId} {below : List Frame} {meth : Method} {c : Code} {G : va_G} {cA : Nat → ClassId} {A : Nat → Prop} {H : Heap} {locs : List Loc} {ls : Array Slot} (h0 : Nat) (fs : List Value) (fs259 : List Value) (q104 : Nat) (q101 : Nat) (f102 : Nat → Int32) (f258 : Nat → Int32) (hx : p.tables.exec = Jvm.exec) (hb : c.code = cX8_init) (hr : meth.sig.returnType = none) (hml : c.maxLocals = 1) (hT : ∀ w ∈ T0, w.before ([.ref h0] : List Value).toArray s = true) (hown : s.vm.findClass RX8 = some m.cls) (hlocks : meth.locks = false) (hin : meth.name = "<init>") (hK : va_K G vwCl (tyL cA) s) (hN : tqN s) (hA : ∀ q : Nat, s.heap.size ≤ q → A q) (hP : va_P G vwCl [(h0, .inr (8, fs259)), (q101, .inl (cA 0, 700, .inl f102)), (q104, .inl (cA 0, 153, .inl f258))] H) (hD : va_D A [(h0, .inr (8, fs259)), (q101, .inl (cA 0, 700, .inl f102)), (q104, .inl (cA 0, 153, .inl f258))]) (hS : va_S A s.heap H locs) (hl : lv_has ls 1 [(0, .ref h0)]) (hf : fh fs259 91 [(3, .ref q104), (0, .ref q101), (1, .int 0), (4, .int 0)]) : W p l e (headSpec (.code yX8_init cX8_init 1 none :: T0) ({ frames := 3, cells := 49, slots := 3443, locals := 63 })).room s m ([.ref h0] : List Value).toArray below meth c H locs 2 853 (MQ below (va_Qv (fun (_ : Unit) => True) (fun _ t => mW2 G cA A h0 t) A) ([.ref h0] : List Value).toArray s 49 3443 A) (F0 m 959 ls []) := by
  have hO := hN.2.2.2.2
  refine lv_aload_n hx hb dX8_init_959 rfl (lv_at hl 0 rfl) ?_
  refine lv_iconst (v := (-1)) hx hb dX8_init_960 (by decide) ?_
  refine va_put (D := G) (ci := 8) (v := .int (-1)) (ty := .int) (C := RX8) (T := TX8) (N := 91) hx hb hT ku_8 tyX8 tyX8_ok nmX8 hown hK hP hD hS 0 rfl rfl 5 (by decide) (hT _ kw_9_12) (fun _ h9 => h9) rfl (by decide +kernel) rfl rfl (fh_lt hf (by decide)) dX8_init_961 (fun H locs hP hD hS => ?_)
  have hP : va_P G vwCl [(h0, .inr (8, (fs259.set 5 (.int (-1))))), (q101, .inl (cA 0, 700, .inl f102)), (q104, .inl (cA 0, 153, .inl f258))] H := hP
  have hD : va_D A [(h0, .inr (8, (fs259.set 5 (.int (-1))))), (q101, .inl (cA 0, 700, .inl f102)), (q104, .inl (cA 0, 153, .inl f258))] := hD
  have hf := fh_set (l' := [(5, .int (-1)), (3, .ref q104), (0, .ref q101), (1, .int 0), (4, .int 0)]) hf 5 (.int (-1)) (by decide) rfl
  generalize (fs259.set 5 (.int (-1))) = fs260 at hP hD hf
  refine lv_aload_n hx hb dX8_init_964 rfl (lv_at hl 0 rfl) ?_
  refine lv_iconst (v := 3) hx hb dX8_init_965 (by decide) ?_
  refine tq_newa (atype := .boolean) (ty := .boolean) (n := 3) (N' := 3) (a0 := (3, .inl (fun _ => 0))) hx hb (hT _ kw_9_4) rfl hK hP hD hS hA 1 (cA 1) rfl (fun _ => rfl) (by decide) (by decide) (by decide) (Nat.le_of_ble_eq_true rfl) (Nat.le_of_ble_eq_true rfl) dX8_init_966 (fun q261 H hP hD hS => ?_)
  have hP : va_P G vwCl [(h0, .inr (8, fs260)), (q101, .inl (cA 0, 700, .inl f102)), (q104, .inl (cA 0, 153, .inl f258)), (q261, .inl (cA 1, 3, .inl ((fun _ => 0))))] H := hP
  have hD : va_D A [(h0, .inr (8, fs260)), (q101, .inl (cA 0, 700, .inl f102)), (q104, .inl (cA 0, 153, .inl f258)), (q261, .inl (cA 1, 3, .inl ((fun _ => 0))))] := hD
  refine W.widen (k := 3) (n := 856) (Nat.le_of_ble_eq_true rfl) (Nat.le_of_ble_eq_true rfl) ?_
  obtain ⟨f262, ef262⟩ : ∃ z : Nat → Int32, z = (fun _ => 0) := ⟨_, rfl⟩
  rw [← ef262] at hP hD
  refine va_putF (D := G) (ci := 8) (v := .ref q261) (ty := (.array .boolean)) (C := RX8) (T := TX8) (N := 91) hx hb hT ku_8 tyX8 tyX8_ok nmX8 hown hK hP hD hS 0 rfl rfl 21 (by decide) (hT _ kw_9_13) (fun _ h9 => h9) rfl hin rfl (by decide +kernel) rfl rfl (fh_lt hf (by decide)) dX8_init_968 (fun H locs hP hD hS => ?_)
  have hP : va_P G vwCl [(h0, .inr (8, (fs260.set 21 (.ref q261)))), (q101, .inl (cA 0, 700, .inl f102)), (q104, .inl (cA 0, 153, .inl f258)), (q261, .inl (cA 1, 3, .inl f262))] H := hP
  have hD : va_D A [(h0, .inr (8, (fs260.set 21 (.ref q261)))), (q101, .inl (cA 0, 700, .inl f102)), (q104, .inl (cA 0, 153, .inl f258)), (q261, .inl (cA 1, 3, .inl f262))] := hD
  have hf := fh_set (l' := [(21, .ref q261), (5, .int (-1)), (3, .ref q104), (0, .ref q101), (1, .int 0), (4, .int 0)]) hf 21 (.ref q261) (by decide) rfl
  generalize (fs260.set 21 (.ref q261)) = fs263 at hP hD hf
  refine lv_aload_n hx hb dX8_init_971 rfl (lv_at hl 0 rfl) ?_
  refine lv_bipush (v := 6) hx hb dX8_init_972 (by decide) ?_
  refine tq_newa (atype := .int) (ty := .int) (n := 6) (N' := 6) (a0 := (6, .inl (fun _ => 0))) hx hb (hT _ kw_2_13) rfl hK hP hD hS hA 0 (cA 0) rfl (fun _ => rfl) (by decide) (by decide) (by decide) (Nat.le_of_ble_eq_true rfl) (Nat.le_of_ble_eq_true rfl) dX8_init_974 (fun q264 H hP hD hS => ?_)
  have hP : va_P G vwCl [(h0, .inr (8, fs263)), (q101, .inl (cA 0, 700, .inl f102)), (q104, .inl (cA 0, 153, .inl f258)), (q261, .inl (cA 1, 3, .inl f262)), (q264, .inl (cA 0, 6, .inl ((fun _ => 0))))] H := hP
  have hD : va_D A [(h0, .inr (8, fs263)), (q101, .inl (cA 0, 700, .inl f102)), (q104, .inl (cA 0, 153, .inl f258)), (q261, .inl (cA 1, 3, .inl f262)), (q264, .inl (cA 0, 6, .inl ((fun _ => 0))))] := hD
  refine W.widen (k := 4) (n := 862) (Nat.le_of_ble_eq_true rfl) (Nat.le_of_ble_eq_true rfl) ?_
  obtain ⟨f265, ef265⟩ : ∃ z : Nat → Int32, z = (fun _ => 0) := ⟨_, rfl⟩
  rw [← ef265] at hP hD
  refine va_putF (D := G) (ci := 8) (v := .ref q264) (ty := (.array .int)) (C := RX8) (T := TX8) (N := 91) hx hb hT ku_8 tyX8 tyX8_ok nmX8 hown hK hP hD hS 0 rfl rfl 22 (by decide) (hT _ kw_9_14) (fun _ h9 => h9) rfl hin rfl (by decide +kernel) rfl rfl (fh_lt hf (by decide)) dX8_init_976 (fun H locs hP hD hS => ?_)
  have hP : va_P G vwCl [(h0, .inr (8, (fs263.set 22 (.ref q264)))), (q101, .inl (cA 0, 700, .inl f102)), (q104, .inl (cA 0, 153, .inl f258)), (q261, .inl (cA 1, 3, .inl f262)), (q264, .inl (cA 0, 6, .inl f265))] H := hP
  have hD : va_D A [(h0, .inr (8, (fs263.set 22 (.ref q264)))), (q101, .inl (cA 0, 700, .inl f102)), (q104, .inl (cA 0, 153, .inl f258)), (q261, .inl (cA 1, 3, .inl f262)), (q264, .inl (cA 0, 6, .inl f265))] := hD
  have hf := fh_set (l' := [(22, .ref q264), (21, .ref q261), (5, .int (-1)), (3, .ref q104), (0, .ref q101), (1, .int 0), (4, .int 0)]) hf 22 (.ref q264) (by decide) rfl
  generalize (fs263.set 22 (.ref q264)) = fs266 at hP hD hf
  refine lv_aload_n hx hb dX8_init_979 rfl (lv_at hl 0 rfl) ?_
  refine lv_bipush (v := 10) hx hb dX8_init_980 (by decide) ?_
  refine tq_newa (atype := .int) (ty := .int) (n := 10) (N' := 10) (a0 := (10, .inl (fun _ => 0))) hx hb (hT _ kw_2_13) rfl hK hP hD hS hA 0 (cA 0) rfl (fun _ => rfl) (by decide) (by decide) (by decide) (Nat.le_of_ble_eq_true rfl) (Nat.le_of_ble_eq_true rfl) dX8_init_982 (fun q267 H hP hD hS => ?_)
  have hP : va_P G vwCl [(h0, .inr (8, fs266)), (q101, .inl (cA 0, 700, .inl f102)), (q104, .inl (cA 0, 153, .inl f258)), (q261, .inl (cA 1, 3, .inl f262)), (q264, .inl (cA 0, 6, .inl f265)), (q267, .inl (cA 0, 10, .inl ((fun _ => 0))))] H := hP
  have hD : va_D A [(h0, .inr (8, fs266)), (q101, .inl (cA 0, 700, .inl f102)), (q104, .inl (cA 0, 153, .inl f258)), (q261, .inl (cA 1, 3, .inl f262)), (q264, .inl (cA 0, 6, .inl f265)), (q267, .inl (cA 0, 10, .inl ((fun _ => 0))))] := hD
  refine W.widen (k := 5) (n := 872) (Nat.le_of_ble_eq_true rfl) (Nat.le_of_ble_eq_true rfl) ?_
  obtain ⟨f268, ef268⟩ : ∃ z : Nat → Int32, z = (fun _ => 0) := ⟨_, rfl⟩
  rw [← ef268] at hP hD
  refine va_putF (D := G) (ci := 8) (v := .ref q267) (ty := (.array .int)) (C := RX8) (T := TX8) (N := 91) hx hb hT ku_8 tyX8 tyX8_ok nmX8 hown hK hP hD hS 0 rfl rfl 23 (by decide) (hT _ kw_9_15) (fun _ h9 => h9) rfl hin rfl (by decide +kernel) rfl rfl (fh_lt hf (by decide)) dX8_init_984 (fun H locs hP hD hS => ?_)
  have hP : va_P G vwCl [(h0, .inr (8, (fs266.set 23 (.ref q267)))), (q101, .inl (cA 0, 700, .inl f102)), (q104, .inl (cA 0, 153, .inl f258)), (q261, .inl (cA 1, 3, .inl f262)), (q264, .inl (cA 0, 6, .inl f265)), (q267, .inl (cA 0, 10, .inl f268))] H := hP
  have hD : va_D A [(h0, .inr (8, (fs266.set 23 (.ref q267)))), (q101, .inl (cA 0, 700, .inl f102)), (q104, .inl (cA 0, 153, .inl f258)), (q261, .inl (cA 1, 3, .inl f262)), (q264, .inl (cA 0, 6, .inl f265)), (q267, .inl (cA 0, 10, .inl f268))] := hD
  have hf := fh_set (l' := [(23, .ref q267), (22, .ref q264), (21, .ref q261), (5, .int (-1)), (3, .ref q104), (0, .ref q101), (1, .int 0), (4, .int 0)]) hf 23 (.ref q267) (by decide) rfl
  generalize (fs266.set 23 (.ref q267)) = fs269 at hP hD hf
  refine lv_aload_n hx hb dX8_init_987 rfl (lv_at hl 0 rfl) ?_
  refine lv_bipush (v := 10) hx hb dX8_init_988 (by decide) ?_
  refine tq_newa (atype := .int) (ty := .int) (n := 10) (N' := 10) (a0 := (10, .inl (fun _ => 0))) hx hb (hT _ kw_2_13) rfl hK hP hD hS hA 0 (cA 0) rfl (fun _ => rfl) (by decide) (by decide) (by decide) (Nat.le_of_ble_eq_true rfl) (Nat.le_of_ble_eq_true rfl) dX8_init_990 (fun q270 H hP hD hS => ?_)
  have hP : va_P G vwCl [(h0, .inr (8, fs269)), (q101, .inl (cA 0, 700, .inl f102)), (q104, .inl (cA 0, 153, .inl f258)), (q261, .inl (cA 1, 3, .inl f262)), (q264, .inl (cA 0, 6, .inl f265)), (q267, .inl (cA 0, 10, .inl f268)), (q270, .inl (cA 0, 10, .inl ((fun _ => 0))))] H := hP
  have hD : va_D A [(h0, .inr (8, fs269)), (q101, .inl (cA 0, 700, .inl f102)), (q104, .inl (cA 0, 153, .inl f258)), (q261, .inl (cA 1, 3, .inl f262)), (q264, .inl (cA 0, 6, .inl f265)), (q267, .inl (cA 0, 10, .inl f268)), (q270, .inl (cA 0, 10, .inl ((fun _ => 0))))] := hD
  refine W.widen (k := 6) (n := 882) (Nat.le_of_ble_eq_true rfl) (Nat.le_of_ble_eq_true rfl) ?_
  obtain ⟨f271, ef271⟩ : ∃ z : Nat → Int32, z = (fun _ => 0) := ⟨_, rfl⟩
  rw [← ef271] at hP hD
  refine va_putF (D := G) (ci := 8) (v := .ref q270) (ty := (.array .int)) (C := RX8) (T := TX8) (N := 91) hx hb hT ku_8 tyX8 tyX8_ok nmX8 hown hK hP hD hS 0 rfl rfl 24 (by decide) (hT _ kw_9_16) (fun _ h9 => h9) rfl hin rfl (by decide +kernel) rfl rfl (fh_lt hf (by decide)) dX8_init_992 (fun H locs hP hD hS => ?_)
  have hP : va_P G vwCl [(h0, .inr (8, (fs269.set 24 (.ref q270)))), (q101, .inl (cA 0, 700, .inl f102)), (q104, .inl (cA 0, 153, .inl f258)), (q261, .inl (cA 1, 3, .inl f262)), (q264, .inl (cA 0, 6, .inl f265)), (q267, .inl (cA 0, 10, .inl f268)), (q270, .inl (cA 0, 10, .inl f271))] H := hP
  have hD : va_D A [(h0, .inr (8, (fs269.set 24 (.ref q270)))), (q101, .inl (cA 0, 700, .inl f102)), (q104, .inl (cA 0, 153, .inl f258)), (q261, .inl (cA 1, 3, .inl f262)), (q264, .inl (cA 0, 6, .inl f265)), (q267, .inl (cA 0, 10, .inl f268)), (q270, .inl (cA 0, 10, .inl f271))] := hD
  have hf := fh_set (l' := [(24, .ref q270), (23, .ref q267), (22, .ref q264), (21, .ref q261), (5, .int (-1)), (3, .ref q104), (0, .ref q101), (1, .int 0), (4, .int 0)]) hf 24 (.ref q270) (by decide) rfl
  generalize (fs269.set 24 (.ref q270)) = fs272 at hP hD hf
  refine lv_aload_n hx hb dX8_init_995 rfl (lv_at hl 0 rfl) ?_
  refine lv_bipush (v := 12) hx hb dX8_init_996 (by decide) ?_
  refine tq_newa (atype := .int) (ty := .int) (n := 12) (N' := 12) (a0 := (12, .inl (fun _ => 0))) hx hb (hT _ kw_2_13) rfl hK hP hD hS hA 0 (cA 0) rfl (fun _ => rfl) (by decide) (by decide) (by decide) (Nat.le_of_ble_eq_true rfl) (Nat.le_of_ble_eq_true rfl) dX8_init_998 (fun q273 H hP hD hS => ?_)
  have hP : va_P G vwCl [(h0, .inr (8, fs272)), (q101, .inl (cA 0, 700, .inl f102)), (q104, .inl (cA 0, 153, .inl f258)), (q261, .inl (cA 1, 3, .inl f262)), (q264, .inl (cA 0, 6, .inl f265)), (q267, .inl (cA 0, 10, .inl f268)), (q270, .inl (cA 0, 10, .inl f271)), (q273, .inl (cA 0, 12, .inl ((fun _ => 0))))] H := hP
  have hD : va_D A [(h0, .inr (8, fs272)), (q101, .inl (cA 0, 700, .inl f102)), (q104, .inl (cA 0, 153, .inl f258)), (q261, .inl (cA 1, 3, .inl f262)), (q264, .inl (cA 0, 6, .inl f265)), (q267, .inl (cA 0, 10, .inl f268)), (q270, .inl (cA 0, 10, .inl f271)), (q273, .inl (cA 0, 12, .inl ((fun _ => 0))))] := hD
  refine W.widen (k := 7) (n := 894) (Nat.le_of_ble_eq_true rfl) (Nat.le_of_ble_eq_true rfl) ?_
  obtain ⟨f274, ef274⟩ : ∃ z : Nat → Int32, z = (fun _ => 0) := ⟨_, rfl⟩
  rw [← ef274] at hP hD
  refine va_putF (D := G) (ci := 8) (v := .ref q273) (ty := (.array .int)) (C := RX8) (T := TX8) (N := 91) hx hb hT ku_8 tyX8 tyX8_ok nmX8 hown hK hP hD hS 0 rfl rfl 25 (by decide) (hT _ kw_9_17) (fun _ h9 => h9) rfl hin rfl (by decide +kernel) rfl rfl (fh_lt hf (by decide)) dX8_init_1000 (fun H locs hP hD hS => ?_)
  have hP : va_P G vwCl [(h0, .inr (8, (fs272.set 25 (.ref q273)))), (q101, .inl (cA 0, 700, .inl f102)), (q104, .inl (cA 0, 153, .inl f258)), (q261, .inl (cA 1, 3, .inl f262)), (q264, .inl (cA 0, 6, .inl f265)), (q267, .inl (cA 0, 10, .inl f268)), (q270, .inl (cA 0, 10, .inl f271)), (q273, .inl (cA 0, 12, .inl f274))] H := hP
  have hD : va_D A [(h0, .inr (8, (fs272.set 25 (.ref q273)))), (q101, .inl (cA 0, 700, .inl f102)), (q104, .inl (cA 0, 153, .inl f258)), (q261, .inl (cA 1, 3, .inl f262)), (q264, .inl (cA 0, 6, .inl f265)), (q267, .inl (cA 0, 10, .inl f268)), (q270, .inl (cA 0, 10, .inl f271)), (q273, .inl (cA 0, 12, .inl f274))] := hD
  have hf := fh_set (l' := [(25, .ref q273), (24, .ref q270), (23, .ref q267), (22, .ref q264), (21, .ref q261), (5, .int (-1)), (3, .ref q104), (0, .ref q101), (1, .int 0), (4, .int 0)]) hf 25 (.ref q273) (by decide) rfl
  generalize (fs272.set 25 (.ref q273)) = fs275 at hP hD hf
  refine lv_aload_n hx hb dX8_init_1003 rfl (lv_at hl 0 rfl) ?_
  refine lv_bipush (v := 12) hx hb dX8_init_1004 (by decide) ?_
  refine tq_newa (atype := .int) (ty := .int) (n := 12) (N' := 12) (a0 := (12, .inl (fun _ => 0))) hx hb (hT _ kw_2_13) rfl hK hP hD hS hA 0 (cA 0) rfl (fun _ => rfl) (by decide) (by decide) (by decide) (Nat.le_of_ble_eq_true rfl) (Nat.le_of_ble_eq_true rfl) dX8_init_1006 (fun q276 H hP hD hS => ?_)
  have hP : va_P G vwCl [(h0, .inr (8, fs275)), (q101, .inl (cA 0, 700, .inl f102)), (q104, .inl (cA 0, 153, .inl f258)), (q261, .inl (cA 1, 3, .inl f262)), (q264, .inl (cA 0, 6, .inl f265)), (q267, .inl (cA 0, 10, .inl f268)), (q270, .inl (cA 0, 10, .inl f271)), (q273, .inl (cA 0, 12, .inl f274)), (q276, .inl (cA 0, 12, .inl ((fun _ => 0))))] H := hP
  have hD : va_D A [(h0, .inr (8, fs275)), (q101, .inl (cA 0, 700, .inl f102)), (q104, .inl (cA 0, 153, .inl f258)), (q261, .inl (cA 1, 3, .inl f262)), (q264, .inl (cA 0, 6, .inl f265)), (q267, .inl (cA 0, 10, .inl f268)), (q270, .inl (cA 0, 10, .inl f271)), (q273, .inl (cA 0, 12, .inl f274)), (q276, .inl (cA 0, 12, .inl ((fun _ => 0))))] := hD
  refine W.widen (k := 8) (n := 906) (Nat.le_of_ble_eq_true rfl) (Nat.le_of_ble_eq_true rfl) ?_
  obtain ⟨f277, ef277⟩ : ∃ z : Nat → Int32, z = (fun _ => 0) := ⟨_, rfl⟩
  rw [← ef277] at hP hD
  refine va_putF (D := G) (ci := 8) (v := .ref q276) (ty := (.array .int)) (C := RX8) (T := TX8) (N := 91) hx hb hT ku_8 tyX8 tyX8_ok nmX8 hown hK hP hD hS 0 rfl rfl 26 (by decide) (hT _ kw_9_18) (fun _ h9 => h9) rfl hin rfl (by decide +kernel) rfl rfl (fh_lt hf (by decide)) dX8_init_1008 (fun H locs hP hD hS => ?_)
  have hP : va_P G vwCl [(h0, .inr (8, (fs275.set 26 (.ref q276)))), (q101, .inl (cA 0, 700, .inl f102)), (q104, .inl (cA 0, 153, .inl f258)), (q261, .inl (cA 1, 3, .inl f262)), (q264, .inl (cA 0, 6, .inl f265)), (q267, .inl (cA 0, 10, .inl f268)), (q270, .inl (cA 0, 10, .inl f271)), (q273, .inl (cA 0, 12, .inl f274)), (q276, .inl (cA 0, 12, .inl f277))] H := hP
  have hD : va_D A [(h0, .inr (8, (fs275.set 26 (.ref q276)))), (q101, .inl (cA 0, 700, .inl f102)), (q104, .inl (cA 0, 153, .inl f258)), (q261, .inl (cA 1, 3, .inl f262)), (q264, .inl (cA 0, 6, .inl f265)), (q267, .inl (cA 0, 10, .inl f268)), (q270, .inl (cA 0, 10, .inl f271)), (q273, .inl (cA 0, 12, .inl f274)), (q276, .inl (cA 0, 12, .inl f277))] := hD
  have hf := fh_set (l' := [(26, .ref q276), (25, .ref q273), (24, .ref q270), (23, .ref q267), (22, .ref q264), (21, .ref q261), (5, .int (-1)), (3, .ref q104), (0, .ref q101), (1, .int 0), (4, .int 0)]) hf 26 (.ref q276) (by decide) rfl
  generalize (fs275.set 26 (.ref q276)) = fs278 at hP hD hf
  refine lv_aload_n hx hb dX8_init_1011 rfl (lv_at hl 0 rfl) ?_
  refine lv_bipush (v := 12) hx hb dX8_init_1012 (by decide) ?_
  refine tq_newa (atype := .int) (ty := .int) (n := 12) (N' := 12) (a0 := (12, .inl (fun _ => 0))) hx hb (hT _ kw_2_13) rfl hK hP hD hS hA 0 (cA 0) rfl (fun _ => rfl) (by decide) (by decide) (by decide) (Nat.le_of_ble_eq_true rfl) (Nat.le_of_ble_eq_true rfl) dX8_init_1014 (fun q279 H hP hD hS => ?_)
  have hP : va_P G vwCl [(h0, .inr (8, fs278)), (q101, .inl (cA 0, 700, .inl f102)), (q104, .inl (cA 0, 153, .inl f258)), (q261, .inl (cA 1, 3, .inl f262)), (q264, .inl (cA 0, 6, .inl f265)), (q267, .inl (cA 0, 10, .inl f268)), (q270, .inl (cA 0, 10, .inl f271)), (q273, .inl (cA 0, 12, .inl f274)), (q276, .inl (cA 0, 12, .inl f277)), (q279, .inl (cA 0, 12, .inl ((fun _ => 0))))] H := hP
  have hD : va_D A [(h0, .inr (8, fs278)), (q101, .inl (cA 0, 700, .inl f102)), (q104, .inl (cA 0, 153, .inl f258)), (q261, .inl (cA 1, 3, .inl f262)), (q264, .inl (cA 0, 6, .inl f265)), (q267, .inl (cA 0, 10, .inl f268)), (q270, .inl (cA 0, 10, .inl f271)), (q273, .inl (cA 0, 12, .inl f274)), (q276, .inl (cA 0, 12, .inl f277)), (q279, .inl (cA 0, 12, .inl ((fun _ => 0))))] := hD
  refine W.widen (k := 9) (n := 918) (Nat.le_of_ble_eq_true rfl) (Nat.le_of_ble_eq_true rfl) ?_
  obtain ⟨f280, ef280⟩ : ∃ z : Nat → Int32, z = (fun _ => 0) := ⟨_, rfl⟩
  rw [← ef280] at hP hD
  refine va_putF (D := G) (ci := 8) (v := .ref q279) (ty := (.array .int)) (C := RX8) (T := TX8) (N := 91) hx hb hT ku_8 tyX8 tyX8_ok nmX8 hown hK hP hD hS 0 rfl rfl 27 (by decide) (hT _ kw_9_19) (fun _ h9 => h9) rfl hin rfl (by decide +kernel) rfl rfl (fh_lt hf (by decide)) dX8_init_1016 (fun H locs hP hD hS => ?_)
  have hP : va_P G vwCl [(h0, .inr (8, (fs278.set 27 (.ref q279)))), (q101, .inl (cA 0, 700, .inl f102)), (q104, .inl (cA 0, 153, .inl f258)), (q261, .inl (cA 1, 3, .inl f262)), (q264, .inl (cA 0, 6, .inl f265)), (q267, .inl (cA 0, 10, .inl f268)), (q270, .inl (cA 0, 10, .inl f271)), (q273, .inl (cA 0, 12, .inl f274)), (q276, .inl (cA 0, 12, .inl f277)), (q279, .inl (cA 0, 12, .inl f280))] H := hP
  have hD : va_D A [(h0, .inr (8, (fs278.set 27 (.ref q279)))), (q101, .inl (cA 0, 700, .inl f102)), (q104, .inl (cA 0, 153, .inl f258)), (q261, .inl (cA 1, 3, .inl f262)), (q264, .inl (cA 0, 6, .inl f265)), (q267, .inl (cA 0, 10, .inl f268)), (q270, .inl (cA 0, 10, .inl f271)), (q273, .inl (cA 0, 12, .inl f274)), (q276, .inl (cA 0, 12, .inl f277)), (q279, .inl (cA 0, 12, .inl f280))] := hD
  have hf := fh_set (l' := [(27, .ref q279), (26, .ref q276), (25, .ref q273), (24, .ref q270), (23, .ref q267), (22, .ref q264), (21, .ref q261), (5, .int (-1)), (3, .ref q104), (0, .ref q101), (1, .int 0), (4, .int 0)]) hf 27 (.ref q279) (by decide) rfl
  generalize (fs278.set 27 (.ref q279)) = fs281 at hP hD hf
  refine lv_aload_n hx hb dX8_init_1019 rfl (lv_at hl 0 rfl) ?_
  refine lv_bipush (v := 12) hx hb dX8_init_1020 (by decide) ?_
  refine tq_newa (atype := .int) (ty := .int) (n := 12) (N' := 12) (a0 := (12, .inl (fun _ => 0))) hx hb (hT _ kw_2_13) rfl hK hP hD hS hA 0 (cA 0) rfl (fun _ => rfl) (by decide) (by decide) (by decide) (Nat.le_of_ble_eq_true rfl) (Nat.le_of_ble_eq_true rfl) dX8_init_1022 (fun q282 H hP hD hS => ?_)
  have hP : va_P G vwCl [(h0, .inr (8, fs281)), (q101, .inl (cA 0, 700, .inl f102)), (q104, .inl (cA 0, 153, .inl f258)), (q261, .inl (cA 1, 3, .inl f262)), (q264, .inl (cA 0, 6, .inl f265)), (q267, .inl (cA 0, 10, .inl f268)), (q270, .inl (cA 0, 10, .inl f271)), (q273, .inl (cA 0, 12, .inl f274)), (q276, .inl (cA 0, 12, .inl f277)), (q279, .inl (cA 0, 12, .inl f280)), (q282, .inl (cA 0, 12, .inl ((fun _ => 0))))] H := hP
  have hD : va_D A [(h0, .inr (8, fs281)), (q101, .inl (cA 0, 700, .inl f102)), (q104, .inl (cA 0, 153, .inl f258)), (q261, .inl (cA 1, 3, .inl f262)), (q264, .inl (cA 0, 6, .inl f265)), (q267, .inl (cA 0, 10, .inl f268)), (q270, .inl (cA 0, 10, .inl f271)), (q273, .inl (cA 0, 12, .inl f274)), (q276, .inl (cA 0, 12, .inl f277)), (q279, .inl (cA 0, 12, .inl f280)), (q282, .inl (cA 0, 12, .inl ((fun _ => 0))))] := hD
  refine W.widen (k := 10) (n := 930) (Nat.le_of_ble_eq_true rfl) (Nat.le_of_ble_eq_true rfl) ?_
  obtain ⟨f283, ef283⟩ : ∃ z : Nat → Int32, z = (fun _ => 0) := ⟨_, rfl⟩
  rw [← ef283] at hP hD
  refine va_putF (D := G) (ci := 8) (v := .ref q282) (ty := (.array .int)) (C := RX8) (T := TX8) (N := 91) hx hb hT ku_8 tyX8 tyX8_ok nmX8 hown hK hP hD hS 0 rfl rfl 28 (by decide) (hT _ kw_9_20) (fun _ h9 => h9) rfl hin rfl (by decide +kernel) rfl rfl (fh_lt hf (by decide)) dX8_init_1024 (fun H locs hP hD hS => ?_)
  have hP : va_P G vwCl [(h0, .inr (8, (fs281.set 28 (.ref q282)))), (q101, .inl (cA 0, 700, .inl f102)), (q104, .inl (cA 0, 153, .inl f258)), (q261, .inl (cA 1, 3, .inl f262)), (q264, .inl (cA 0, 6, .inl f265)), (q267, .inl (cA 0, 10, .inl f268)), (q270, .inl (cA 0, 10, .inl f271)), (q273, .inl (cA 0, 12, .inl f274)), (q276, .inl (cA 0, 12, .inl f277)), (q279, .inl (cA 0, 12, .inl f280)), (q282, .inl (cA 0, 12, .inl f283))] H := hP
  have hD : va_D A [(h0, .inr (8, (fs281.set 28 (.ref q282)))), (q101, .inl (cA 0, 700, .inl f102)), (q104, .inl (cA 0, 153, .inl f258)), (q261, .inl (cA 1, 3, .inl f262)), (q264, .inl (cA 0, 6, .inl f265)), (q267, .inl (cA 0, 10, .inl f268)), (q270, .inl (cA 0, 10, .inl f271)), (q273, .inl (cA 0, 12, .inl f274)), (q276, .inl (cA 0, 12, .inl f277)), (q279, .inl (cA 0, 12, .inl f280)), (q282, .inl (cA 0, 12, .inl f283))] := hD
  have hf := fh_set (l' := [(28, .ref q282), (27, .ref q279), (26, .ref q276), (25, .ref q273), (24, .ref q270), (23, .ref q267), (22, .ref q264), (21, .ref q261), (5, .int (-1)), (3, .ref q104), (0, .ref q101), (1, .int 0), (4, .int 0)]) hf 28 (.ref q282) (by decide) rfl
  generalize (fs281.set 28 (.ref q282)) = fs284 at hP hD hf
  refine lv_aload_n hx hb dX8_init_1027 rfl (lv_at hl 0 rfl) ?_
  refine lv_bipush (v := 20) hx hb dX8_init_1028 (by decide) ?_
  refine tq_newa (atype := .int) (ty := .int) (n := 20) (N' := 20) (a0 := (20, .inl (fun _ => 0))) hx hb (hT _ kw_2_13) rfl hK hP hD hS hA 0 (cA 0) rfl (fun _ => rfl) (by decide) (by decide) (by decide) (Nat.le_of_ble_eq_true rfl) (Nat.le_of_ble_eq_true rfl) dX8_init_1030 (fun q285 H hP hD hS => ?_)
  have hP : va_P G vwCl [(h0, .inr (8, fs284)), (q101, .inl (cA 0, 700, .inl f102)), (q104, .inl (cA 0, 153, .inl f258)), (q261, .inl (cA 1, 3, .inl f262)), (q264, .inl (cA 0, 6, .inl f265)), (q267, .inl (cA 0, 10, .inl f268)), (q270, .inl (cA 0, 10, .inl f271)), (q273, .inl (cA 0, 12, .inl f274)), (q276, .inl (cA 0, 12, .inl f277)), (q279, .inl (cA 0, 12, .inl f280)), (q282, .inl (cA 0, 12, .inl f283)), (q285, .inl (cA 0, 20, .inl ((fun _ => 0))))] H := hP
  have hD : va_D A [(h0, .inr (8, fs284)), (q101, .inl (cA 0, 700, .inl f102)), (q104, .inl (cA 0, 153, .inl f258)), (q261, .inl (cA 1, 3, .inl f262)), (q264, .inl (cA 0, 6, .inl f265)), (q267, .inl (cA 0, 10, .inl f268)), (q270, .inl (cA 0, 10, .inl f271)), (q273, .inl (cA 0, 12, .inl f274)), (q276, .inl (cA 0, 12, .inl f277)), (q279, .inl (cA 0, 12, .inl f280)), (q282, .inl (cA 0, 12, .inl f283)), (q285, .inl (cA 0, 20, .inl ((fun _ => 0))))] := hD
  refine W.widen (k := 11) (n := 950) (Nat.le_of_ble_eq_true rfl) (Nat.le_of_ble_eq_true rfl) ?_
  obtain ⟨f286, ef286⟩ : ∃ z : Nat → Int32, z = (fun _ => 0) := ⟨_, rfl⟩
  rw [← ef286] at hP hD
  refine va_putF (D := G) (ci := 8) (v := .ref q285) (ty := (.array .int)) (C := RX8) (T := TX8) (N := 91) hx hb hT ku_8 tyX8 tyX8_ok nmX8 hown hK hP hD hS 0 rfl rfl 29 (by decide) (hT _ kw_9_21) (fun _ h9 => h9) rfl hin rfl (by decide +kernel) rfl rfl (fh_lt hf (by decide)) dX8_init_1032 (fun H locs hP hD hS => ?_)
  have hP : va_P G vwCl [(h0, .inr (8, (fs284.set 29 (.ref q285)))), (q101, .inl (cA 0, 700, .inl f102)), (q104, .inl (cA 0, 153, .inl f258)), (q261, .inl (cA 1, 3, .inl f262)), (q264, .inl (cA 0, 6, .inl f265)), (q267, .inl (cA 0, 10, .inl f268)), (q270, .inl (cA 0, 10, .inl f271)), (q273, .inl (cA 0, 12, .inl f274)), (q276, .inl (cA 0, 12, .inl f277)), (q279, .inl (cA 0, 12, .inl f280)), (q282, .inl (cA 0, 12, .inl f283)), (q285, .inl (cA 0, 20, .inl f286))] H := hP
  have hD : va_D A [(h0, .inr (8, (fs284.set 29 (.ref q285)))), (q101, .inl (cA 0, 700, .inl f102)), (q104, .inl (cA 0, 153, .inl f258)), (q261, .inl (cA 1, 3, .inl f262)), (q264, .inl (cA 0, 6, .inl f265)), (q267, .inl (cA 0, 10, .inl f268)), (q270, .inl (cA 0, 10, .inl f271)), (q273, .inl (cA 0, 12, .inl f274)), (q276, .inl (cA 0, 12, .inl f277)), (q279, .inl (cA 0, 12, .inl f280)), (q282, .inl (cA 0, 12, .inl f283)), (q285, .inl (cA 0, 20, .inl f286))] := hD
  have hf := fh_set (l' := [(29, .ref q285), (28, .ref q282), (27, .ref q279), (26, .ref q276), (25, .ref q273), (24, .ref q270), (23, .ref q267), (22, .ref q264), (21, .ref q261), (5, .int (-1)), (3, .ref q104), (0, .ref q101), (1, .int 0), (4, .int 0)]) hf 29 (.ref q285) (by decide) rfl
  generalize (fs284.set 29 (.ref q285)) = fs287 at hP hD hf
  exact d_X8_init_s2 h0 fs fs287 q285 q282 q279 q276 q273 q270 q267 q264 q261 q104 q101 f102 f258 f262 f265 f268 f271 f274 f277 f280 f283 f286 hx hb hr hml hT hown hlocks hin hK hN hA hP hD hS hl hf
