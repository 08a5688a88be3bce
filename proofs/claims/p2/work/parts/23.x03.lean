abbrev G_X0_saveRow_x_na17 (p : Program) (l : Launch) (e : Env) (s : State) (m : MethodId) (below : List Frame) (meth : Method) (c : Code) (G : va_G) (cA : Nat → ClassId) (A : Nat → Prop) (xa : Nat → Nat) (ka : Nat → Nat) (ra : Nat → Nat) (na : Nat → Nat) (ia : Nat → Nat) (ua : Nat → Nat) (va : Nat → Nat) (ca : Nat → Nat) (za : Nat → Nat) (pa : Nat → Nat) (qa : Nat → Nat) (X : Tr) (K : Tr) (R : Tr) (P : Tr) (L : Lo) (P2 : Tr) (L2 : Lo) (Tn : Tr) (Ti : Tr) (Tu : Tr) (Tv : Tr) (Z : Tr) (q0 : Nat) (q1 : Nat) (q2 : Nat) (q3 : Nat) (q4 : Nat) (q5 : Nat) (x2 : Int32) (r0 : Int32) (C' : Tr) (H : Heap) (locs : List Loc) (g : JFrame) : Prop := W p l e (headSpec (.code yX0_saveRow cX0_saveRow 3 (some .int) :: T0) ({ frames := 1, cells := 0, slots := 0, locals := 40 } : Room)).room s m ([.ref (ca 0), .ref (na 17), .int x2] : List Value).toArray below meth c H locs 0 0 (MQ below (tqQi G cA (fun (r : Int32) (_ : Unit) => r = r0) (fun (_ : Unit) => wX cA xa ka ra na ia ua va ca za pa qa X K R P L P2 L2 Tn Ti Tu Tv (C') Z q0 q1 q2 q3 q4 q5) A) ([.ref (ca 0), .ref (na 17), .int x2] : List Value).toArray s 0 0 A) g
set_option maxHeartbeats 4000000 in
set_option maxRecDepth 100000 in
theorem c_X0_saveRow_x_na17 (l : Launch) (G : va_G) (cA : Nat → ClassId) (sz : Nat) (xa : Nat → Nat) (ka : Nat → Nat) (ra : Nat → Nat) (na : Nat → Nat) (ia : Nat → Nat) (ua : Nat → Nat) (va : Nat → Nat) (ca : Nat → Nat) (za : Nat → Nat) (pa : Nat → Nat) (qa : Nat → Nat) (X : Tr) (K : Tr) (R : Tr) (P : Tr) (L : Lo) (P2 : Tr) (L2 : Lo) (Tn : Tr) (Ti : Tr) (Tu : Tr) (Tv : Tr) (C : Tr) (Z : Tr) (q0 : Nat) (q1 : Nat) (q2 : Nat) (q3 : Nat) (q4 : Nat) (q5 : Nat) (x2 : Int32)  (r0 : Int32) (C' : Tr) (h : f_X0_saveRow_x_na17 pa qa Tn C x2 = some (r0, C')) : Met l yX0_saveRow (.code yX0_saveRow cX0_saveRow 3 (some .int) :: T0) ({ frames := 1, cells := 0, slots := 0, locals := 40 } : Room) (tqP G cA [.ref (ca 0), .ref (na 17), .int x2] (wX cA xa ka ra na ia ua va ca za pa qa X K R P L P2 L2 Tn Ti Tu Tv C Z q0 q1 q2 q3 q4 q5) sz) (tqQi G cA (fun (r : Int32) (_ : Unit) => r = r0) (fun (_ : Unit) => wX cA xa ka ra na ia ua va ca za pa qa X K R P L P2 L2 Tn Ti Tu Tv (C') Z q0 q1 q2 q3 q4 q5) (va_A (wX cA xa ka ra na ia ua va ca za pa qa X K R P L P2 L2 Tn Ti Tu Tv C Z q0 q1 q2 q3 q4 q5) sz)) 0 0 (va_A (wX cA xa ka ra na ia ua va ca za pa qa X K R P L P2 L2 Tn Ti Tu Tv C Z q0 q1 q2 q3 q4 q5) sz) := by
  refine Met.ofW (cc := cX0_saveRow) (maxL := 3) (ret := (some .int)) (by decide) rfl ?_
  intro p e s m args below meth c s₁ B hml hv
  obtain ⟨rfl, hsz, hP, hK, hD0, hN⟩ := hv
  have hx := B.exec
  have hb := B.bytes
  have hr := B.returns
  have hts := atoms_spec (ws := .code yX0_saveRow cX0_saveRow 3 (some .int) :: T0) B.pre
  have hT : ∀ w ∈ T0, w.before _ s = true := fun w h => hts w (List.mem_cons_of_mem _ h)
  have hown : s.vm.findClass RX0 = some m.cls := findClass_of_methodNamed B.named
  have hlocks := B.notSynchronized
  subst hsz
  have hD := hD0.self (sz := s.heap.size)
  generalize hAe : va_A (wX cA xa ka ra na ia ua va ca za pa qa X K R P L P2 L2 Tn Ti Tu Tv C Z q0 q1 q2 q3 q4 q5) s.heap.size = A at hD ⊢
  have hA : ∀ q : Nat, s.heap.size ≤ q → A q := fun q h => by rw [← hAe]; exact Or.inr h
  have hS : va_S A s.heap s.heap [] := va_S.rf
  have hl := lv_entry ([.ref (ca 0), .ref (na 17), .int x2]) (n := 3) (Nat.le_of_ble_eq_true rfl)
  rw [lg_entry_eq]
  generalize (lg_sl ([.ref (ca 0), .ref (na 17), .int x2]) ++ List.replicate (3 - (lg_sl ([.ref (ca 0), .ref (na 17), .int x2])).length) Slot.unset).toArray = ls at hl ⊢
  have hl : lv_has ls 3 [(0, .ref (ca 0)), (1, .ref (na 17)), (2, .int x2)] := hl
  have F : tF p s m ([.ref (ca 0), .ref (na 17), .int x2] : List Value).toArray meth c G cA A RX0 cX0_saveRow 3 (some .int) := ⟨hx, hb, hr, hml, hT, hown, hlocks, hK, hN, hA⟩
  obtain ⟨H, hH⟩ : ∃ z, z = s.heap := ⟨_, rfl⟩
  rw [← hH] at hP
  have hS : va_S A s.heap H [] := by rw [hH]; exact hS
  suffices hgo : G_X0_saveRow_x_na17 p l e s m below meth c G cA A xa ka ra na ia ua va ca za pa qa X K R P L P2 L2 Tn Ti Tu Tv Z q0 q1 q2 q3 q4 q5 x2 r0 C' H [] (F0 m 0 ls []) by rw [hH] at hgo; exact hgo
  generalize ([] : List Loc) = locs at hS ⊢
  unfold f_X0_saveRow_x_na17 at h
  refine lv_aload_n hx hb dX0_saveRow_0 rfl (lv_at hl 1 rfl) ?_
  refine lv_iconst (v := 0) hx hb dX0_saveRow_1 (by decide) ?_
  refine lv_aload_n hx hb dX0_saveRow_2 rfl (lv_at hl 0 rfl) ?_
  refine va_get (D := G) (ci := 0) (v := .ref (ca 3)) (C := RX0) (T := TX0) (N := 3) hx hb hT ku_0 hown hK hP 101 rfl rfl 2 (by decide) (hT _ kw_8_18) (fun _ h9 => h9) rfl dX0_saveRow_3 ?_
  refine lv_iload_n hx hb dX0_saveRow_6 rfl (lv_at hl 2 rfl) ?_
  refine lv_aload_n hx hb dX0_saveRow_7 rfl (lv_at hl 1 rfl) ?_
  refine va_alen (v := 5) hx hb hK hP 62 0 rfl rfl (by decide) dX0_saveRow_8 ?_
  obtain ⟨g1, h⟩ := tx_ck h
  refine va_copyi (ty := .int) (sp := 0) (dp := x2) (n := 5) hx hb (hml.trans hl.1.symm) hown (hT _ kw_36_14) (hT _ kw_36_15) (hT _ kw_36_16) (hT _ kw_36_17) hK hP hD hS 62 102 0 0 rfl rfl rfl rfl rfl (tx_cp g1).1 (tx_cp g1).2.1 (tx_cp g1).2.2.1 (tx_cp g1).2.2.2.1 (tx_cp g1).2.2.2.2 (fun _ _ => rfl) (Nat.le_of_ble_eq_true rfl) (by decide) dX0_saveRow_9 (fun H locs hP hD hS => ?_)
  try rw [show (0 : Int32).toNatClampNeg = 0 from rfl] at hP hD
  try rw [show (5 : Int32).toNatClampNeg = 5 from rfl] at hP hD
  obtain ⟨C_2, eC_2, h⟩ := tx_lt h
  rw [sX_ca_c2, eC_2] at hP hD
  refine lv_iload_n hx hb dX0_saveRow_12 rfl (lv_at hl 2 rfl) ?_
  refine lv_aload_n hx hb dX0_saveRow_13 rfl (lv_at hl 1 rfl) ?_
  refine va_alen (v := 5) hx hb hK hP 62 0 rfl rfl (by decide) dX0_saveRow_14 ?_
  refine lv_iadd hx hb dX0_saveRow_15 ?_
  obtain ⟨rfl, rfl⟩ := tx_2 h
  exact W.iret hx hb hr (fun t ht hW => ⟨⟨_, (), rfl, rfl, by rw [ht]; exact hP, hD⟩, hS.F ht⟩) hS.2.2 dX0_saveRow_16
abbrev G_X0_saveRow_x_na18 (p : Program) (l : Launch) (e : Env) (s : State) (m : MethodId) (below : List Frame) (meth : Method) (c : Code) (G : va_G) (cA : Nat → ClassId) (A : Nat → Prop) (xa : Nat → Nat) (ka : Nat → Nat) (ra : Nat → Nat) (na : Nat → Nat) (ia : Nat → Nat) (ua : Nat → Nat) (va : Nat → Nat) (ca : Nat → Nat) (za : Nat → Nat) (pa : Nat → Nat) (qa : Nat → Nat) (X : Tr) (K : Tr) (R : Tr) (P : Tr) (L : Lo) (P2 : Tr) (L2 : Lo) (Tn : Tr) (Ti : Tr) (Tu : Tr) (Tv : Tr) (Z : Tr) (q0 : Nat) (q1 : Nat) (q2 : Nat) (q3 : Nat) (q4 : Nat) (q5 : Nat) (x2 : Int32) (r0 : Int32) (C' : Tr) (H : Heap) (locs : List Loc) (g : JFrame) : Prop := W p l e (headSpec (.code yX0_saveRow cX0_saveRow 3 (some .int) :: T0) ({ frames := 1, cells := 0, slots := 0, locals := 40 } : Room)).room s m ([.ref (ca 0), .ref (na 18), .int x2] : List Value).toArray below meth c H locs 0 0 (MQ below (tqQi G cA (fun (r : Int32) (_ : Unit) => r = r0) (fun (_ : Unit) => wX cA xa ka ra na ia ua va ca za pa qa X K R P L P2 L2 Tn Ti Tu Tv (C') Z q0 q1 q2 q3 q4 q5) A) ([.ref (ca 0), .ref (na 18), .int x2] : List Value).toArray s 0 0 A) g
set_option maxHeartbeats 4000000 in
set_option maxRecDepth 100000 in
theorem c_X0_saveRow_x_na18 (l : Launch) (G : va_G) (cA : Nat → ClassId) (sz : Nat) (xa : Nat → Nat) (ka : Nat → Nat) (ra : Nat → Nat) (na : Nat → Nat) (ia : Nat → Nat) (ua : Nat → Nat) (va : Nat → Nat) (ca : Nat → Nat) (za : Nat → Nat) (pa : Nat → Nat) (qa : Nat → Nat) (X : Tr) (K : Tr) (R : Tr) (P : Tr) (L : Lo) (P2 : Tr) (L2 : Lo) (Tn : Tr) (Ti : Tr) (Tu : Tr) (Tv : Tr) (C : Tr) (Z : Tr) (q0 : Nat) (q1 : Nat) (q2 : Nat) (q3 : Nat) (q4 : Nat) (q5 : Nat) (x2 : Int32)  (r0 : Int32) (C' : Tr) (h : f_X0_saveRow_x_na18 pa qa Tn C x2 = some (r0, C')) : Met l yX0_saveRow (.code yX0_saveRow cX0_saveRow 3 (some .int) :: T0) ({ frames := 1, cells := 0, slots := 0, locals := 40 } : Room) (tqP G cA [.ref (ca 0), .ref (na 18), .int x2] (wX cA xa ka ra na ia ua va ca za pa qa X K R P L P2 L2 Tn Ti Tu Tv C Z q0 q1 q2 q3 q4 q5) sz) (tqQi G cA (fun (r : Int32) (_ : Unit) => r = r0) (fun (_ : Unit) => wX cA xa ka ra na ia ua va ca za pa qa X K R P L P2 L2 Tn Ti Tu Tv (C') Z q0 q1 q2 q3 q4 q5) (va_A (wX cA xa ka ra na ia ua va ca za pa qa X K R P L P2 L2 Tn Ti Tu Tv C Z q0 q1 q2 q3 q4 q5) sz)) 0 0 (va_A (wX cA xa ka ra na ia ua va ca za pa qa X K R P L P2 L2 Tn Ti Tu Tv C Z q0 q1 q2 q3 q4 q5) sz) := by
  refine Met.ofW (cc := cX0_saveRow) (maxL := 3) (ret := (some .int)) (by decide) rfl ?_
  intro p e s m args below meth c s₁ B hml hv
  obtain ⟨rfl, hsz, hP, hK, hD0, hN⟩ := hv
  have hx := B.exec
  have hb := B.bytes
  have hr := B.returns
  have hts := atoms_spec (ws := .code yX0_saveRow cX0_saveRow 3 (some .int) :: T0) B.pre
  have hT : ∀ w ∈ T0, w.before _ s = true := fun w h => hts w (List.mem_cons_of_mem _ h)
  have hown : s.vm.findClass RX0 = some m.cls := findClass_of_methodNamed B.named
  have hlocks := B.notSynchronized
  subst hsz
  have hD := hD0.self (sz := s.heap.size)
  generalize hAe : va_A (wX cA xa ka ra na ia ua va ca za pa qa X K R P L P2 L2 Tn Ti Tu Tv C Z q0 q1 q2 q3 q4 q5) s.heap.size = A at hD ⊢
  have hA : ∀ q : Nat, s.heap.size ≤ q → A q := fun q h => by rw [← hAe]; exact Or.inr h
  have hS : va_S A s.heap s.heap [] := va_S.rf
  have hl := lv_entry ([.ref (ca 0), .ref (na 18), .int x2]) (n := 3) (Nat.le_of_ble_eq_true rfl)
  rw [lg_entry_eq]
  generalize (lg_sl ([.ref (ca 0), .ref (na 18), .int x2]) ++ List.replicate (3 - (lg_sl ([.ref (ca 0), .ref (na 18), .int x2])).length) Slot.unset).toArray = ls at hl ⊢
  have hl : lv_has ls 3 [(0, .ref (ca 0)), (1, .ref (na 18)), (2, .int x2)] := hl
  have F : tF p s m ([.ref (ca 0), .ref (na 18), .int x2] : List Value).toArray meth c G cA A RX0 cX0_saveRow 3 (some .int) := ⟨hx, hb, hr, hml, hT, hown, hlocks, hK, hN, hA⟩
  obtain ⟨H, hH⟩ : ∃ z, z = s.heap := ⟨_, rfl⟩
  rw [← hH] at hP
  have hS : va_S A s.heap H [] := by rw [hH]; exact hS
  suffices hgo : G_X0_saveRow_x_na18 p l e s m below meth c G cA A xa ka ra na ia ua va ca za pa qa X K R P L P2 L2 Tn Ti Tu Tv Z q0 q1 q2 q3 q4 q5 x2 r0 C' H [] (F0 m 0 ls []) by rw [hH] at hgo; exact hgo
  generalize ([] : List Loc) = locs at hS ⊢
  unfold f_X0_saveRow_x_na18 at h
  refine lv_aload_n hx hb dX0_saveRow_0 rfl (lv_at hl 1 rfl) ?_
  refine lv_iconst (v := 0) hx hb dX0_saveRow_1 (by decide) ?_
  refine lv_aload_n hx hb dX0_saveRow_2 rfl (lv_at hl 0 rfl) ?_
  refine va_get (D := G) (ci := 0) (v := .ref (ca 3)) (C := RX0) (T := TX0) (N := 3) hx hb hT ku_0 hown hK hP 101 rfl rfl 2 (by decide) (hT _ kw_8_18) (fun _ h9 => h9) rfl dX0_saveRow_3 ?_
  refine lv_iload_n hx hb dX0_saveRow_6 rfl (lv_at hl 2 rfl) ?_
  refine lv_aload_n hx hb dX0_saveRow_7 rfl (lv_at hl 1 rfl) ?_
  refine va_alen (v := 5) hx hb hK hP 63 0 rfl rfl (by decide) dX0_saveRow_8 ?_
  obtain ⟨g1, h⟩ := tx_ck h
  refine va_copyi (ty := .int) (sp := 0) (dp := x2) (n := 5) hx hb (hml.trans hl.1.symm) hown (hT _ kw_36_14) (hT _ kw_36_15) (hT _ kw_36_16) (hT _ kw_36_17) hK hP hD hS 63 102 0 0 rfl rfl rfl rfl rfl (tx_cp g1).1 (tx_cp g1).2.1 (tx_cp g1).2.2.1 (tx_cp g1).2.2.2.1 (tx_cp g1).2.2.2.2 (fun _ _ => rfl) (Nat.le_of_ble_eq_true rfl) (by decide) dX0_saveRow_9 (fun H locs hP hD hS => ?_)
  try rw [show (0 : Int32).toNatClampNeg = 0 from rfl] at hP hD
  try rw [show (5 : Int32).toNatClampNeg = 5 from rfl] at hP hD
  obtain ⟨C_2, eC_2, h⟩ := tx_lt h
  rw [sX_ca_c2, eC_2] at hP hD
  refine lv_iload_n hx hb dX0_saveRow_12 rfl (lv_at hl 2 rfl) ?_
  refine lv_aload_n hx hb dX0_saveRow_13 rfl (lv_at hl 1 rfl) ?_
  refine va_alen (v := 5) hx hb hK hP 63 0 rfl rfl (by decide) dX0_saveRow_14 ?_
  refine lv_iadd hx hb dX0_saveRow_15 ?_
  obtain ⟨rfl, rfl⟩ := tx_2 h
  exact W.iret hx hb hr (fun t ht hW => ⟨⟨_, (), rfl, rfl, by rw [ht]; exact hP, hD⟩, hS.F ht⟩) hS.2.2 dX0_saveRow_16
abbrev G_X0_saveRow_x_na15 (p : Program) (l : Launch) (e : Env) (s : State) (m : MethodId) (below : List Frame) (meth : Method) (c : Code) (G : va_G) (cA : Nat → ClassId) (A : Nat → Prop) (xa : Nat → Nat) (ka : Nat → Nat) (ra : Nat → Nat) (na : Nat → Nat) (ia : Nat → Nat) (ua : Nat → Nat) (va : Nat → Nat) (ca : Nat → Nat) (za : Nat → Nat) (pa : Nat → Nat) (qa : Nat → Nat) (X : Tr) (K : Tr) (R : Tr) (P : Tr) (L : Lo) (P2 : Tr) (L2 : Lo) (Tn : Tr) (Ti : Tr) (Tu : Tr) (Tv : Tr) (Z : Tr) (q0 : Nat) (q1 : Nat) (q2 : Nat) (q3 : Nat) (q4 : Nat) (q5 : Nat) (x2 : Int32) (r0 : Int32) (C' : Tr) (H : Heap) (locs : List Loc) (g : JFrame) : Prop := W p l e (headSpec (.code yX0_saveRow cX0_saveRow 3 (some .int) :: T0) ({ frames := 1, cells := 0, slots := 0, locals := 40 } : Room)).room s m ([.ref (ca 0), .ref (na 15), .int x2] : List Value).toArray below meth c H locs 0 0 (MQ below (tqQi G cA (fun (r : Int32) (_ : Unit) => r = r0) (fun (_ : Unit) => wX cA xa ka ra na ia ua va ca za pa qa X K R P L P2 L2 Tn Ti Tu Tv (C') Z q0 q1 q2 q3 q4 q5) A) ([.ref (ca 0), .ref (na 15), .int x2] : List Value).toArray s 0 0 A) g
set_option maxHeartbeats 4000000 in
set_option maxRecDepth 100000 in
theorem c_X0_saveRow_x_na15 (l : Launch) (G : va_G) (cA : Nat → ClassId) (sz : Nat) (xa : Nat → Nat) (ka : Nat → Nat) (ra : Nat → Nat) (na : Nat → Nat) (ia : Nat → Nat) (ua : Nat → Nat) (va : Nat → Nat) (ca : Nat → Nat) (za : Nat → Nat) (pa : Nat → Nat) (qa : Nat → Nat) (X : Tr) (K : Tr) (R : Tr) (P : Tr) (L : Lo) (P2 : Tr) (L2 : Lo) (Tn : Tr) (Ti : Tr) (Tu : Tr) (Tv : Tr) (C : Tr) (Z : Tr) (q0 : Nat) (q1 : Nat) (q2 : Nat) (q3 : Nat) (q4 : Nat) (q5 : Nat) (x2 : Int32)  (r0 : Int32) (C' : Tr) (h : f_X0_saveRow_x_na15 pa qa Tn C x2 = some (r0, C')) : Met l yX0_saveRow (.code yX0_saveRow cX0_saveRow 3 (some .int) :: T0) ({ frames := 1, cells := 0, slots := 0, locals := 40 } : Room) (tqP G cA [.ref (ca 0), .ref (na 15), .int x2] (wX cA xa ka ra na ia ua va ca za pa qa X K R P L P2 L2 Tn Ti Tu Tv C Z q0 q1 q2 q3 q4 q5) sz) (tqQi G cA (fun (r : Int32) (_ : Unit) => r = r0) (fun (_ : Unit) => wX cA xa ka ra na ia ua va ca za pa qa X K R P L P2 L2 Tn Ti Tu Tv (C') Z q0 q1 q2 q3 q4 q5) (va_A (wX cA xa ka ra na ia ua va ca za pa qa X K R P L P2 L2 Tn Ti Tu Tv C Z q0 q1 q2 q3 q4 q5) sz)) 0 0 (va_A (wX cA xa ka ra na ia ua va ca za pa qa X K R P L P2 L2 Tn Ti Tu Tv C Z q0 q1 q2 q3 q4 q5) sz) := by
  refine Met.ofW (cc := cX0_saveRow) (maxL := 3) (ret := (some .int)) (by decide) rfl ?_
  intro p e s m args below meth c s₁ B hml hv
  obtain ⟨rfl, hsz, hP, hK, hD0, hN⟩ := hv
  have hx := B.exec
  have hb := B.bytes
  have hr := B.returns
  have hts := atoms_spec (ws := .code yX0_saveRow cX0_saveRow 3 (some .int) :: T0) B.pre
  have hT : ∀ w ∈ T0, w.before _ s = true := fun w h => hts w (List.mem_cons_of_mem _ h)
  have hown : s.vm.findClass RX0 = some m.cls := findClass_of_methodNamed B.named
  have hlocks := B.notSynchronized
  subst hsz
  have hD := hD0.self (sz := s.heap.size)
  generalize hAe : va_A (wX cA xa ka ra na ia ua va ca za pa qa X K R P L P2 L2 Tn Ti Tu Tv C Z q0 q1 q2 q3 q4 q5) s.heap.size = A at hD ⊢
  have hA : ∀ q : Nat, s.heap.size ≤ q → A q := fun q h => by rw [← hAe]; exact Or.inr h
  have hS : va_S A s.heap s.heap [] := va_S.rf
  have hl := lv_entry ([.ref (ca 0), .ref (na 15), .int x2]) (n := 3) (Nat.le_of_ble_eq_true rfl)
  rw [lg_entry_eq]
  generalize (lg_sl ([.ref (ca 0), .ref (na 15), .int x2]) ++ List.replicate (3 - (lg_sl ([.ref (ca 0), .ref (na 15), .int x2])).length) Slot.unset).toArray = ls at hl ⊢
  have hl : lv_has ls 3 [(0, .ref (ca 0)), (1, .ref (na 15)), (2, .int x2)] := hl
  have F : tF p s m ([.ref (ca 0), .ref (na 15), .int x2] : List Value).toArray meth c G cA A RX0 cX0_saveRow 3 (some .int) := ⟨hx, hb, hr, hml, hT, hown, hlocks, hK, hN, hA⟩
  obtain ⟨H, hH⟩ : ∃ z, z = s.heap := ⟨_, rfl⟩
  rw [← hH] at hP
  have hS : va_S A s.heap H [] := by rw [hH]; exact hS
  suffices hgo : G_X0_saveRow_x_na15 p l e s m below meth c G cA A xa ka ra na ia ua va ca za pa qa X K R P L P2 L2 Tn Ti Tu Tv Z q0 q1 q2 q3 q4 q5 x2 r0 C' H [] (F0 m 0 ls []) by rw [hH] at hgo; exact hgo
  generalize ([] : List Loc) = locs at hS ⊢
  unfold f_X0_saveRow_x_na15 at h
  refine lv_aload_n hx hb dX0_saveRow_0 rfl (lv_at hl 1 rfl) ?_
  refine lv_iconst (v := 0) hx hb dX0_saveRow_1 (by decide) ?_
  refine lv_aload_n hx hb dX0_saveRow_2 rfl (lv_at hl 0 rfl) ?_
  refine va_get (D := G) (ci := 0) (v := .ref (ca 3)) (C := RX0) (T := TX0) (N := 3) hx hb hT ku_0 hown hK hP 101 rfl rfl 2 (by decide) (hT _ kw_8_18) (fun _ h9 => h9) rfl dX0_saveRow_3 ?_
  refine lv_iload_n hx hb dX0_saveRow_6 rfl (lv_at hl 2 rfl) ?_
  refine lv_aload_n hx hb dX0_saveRow_7 rfl (lv_at hl 1 rfl) ?_
  refine va_alen (v := 10) hx hb hK hP 60 0 rfl rfl (by decide) dX0_saveRow_8 ?_
  obtain ⟨g1, h⟩ := tx_ck h
  refine va_copyi (ty := .int) (sp := 0) (dp := x2) (n := 10) hx hb (hml.trans hl.1.symm) hown (hT _ kw_36_14) (hT _ kw_36_15) (hT _ kw_36_16) (hT _ kw_36_17) hK hP hD hS 60 102 0 0 rfl rfl rfl rfl rfl (tx_cp g1).1 (tx_cp g1).2.1 (tx_cp g1).2.2.1 (tx_cp g1).2.2.2.1 (tx_cp g1).2.2.2.2 (fun _ _ => rfl) (Nat.le_of_ble_eq_true rfl) (by decide) dX0_saveRow_9 (fun H locs hP hD hS => ?_)
  try rw [show (0 : Int32).toNatClampNeg = 0 from rfl] at hP hD
  try rw [show (10 : Int32).toNatClampNeg = 10 from rfl] at hP hD
  obtain ⟨C_2, eC_2, h⟩ := tx_lt h
  rw [sX_ca_c2, eC_2] at hP hD
  refine lv_iload_n hx hb dX0_saveRow_12 rfl (lv_at hl 2 rfl) ?_
  refine lv_aload_n hx hb dX0_saveRow_13 rfl (lv_at hl 1 rfl) ?_
  refine va_alen (v := 10) hx hb hK hP 60 0 rfl rfl (by decide) dX0_saveRow_14 ?_
  refine lv_iadd hx hb dX0_saveRow_15 ?_
  obtain ⟨rfl, rfl⟩ := tx_2 h
  exact W.iret hx hb hr (fun t ht hW => ⟨⟨_, (), rfl, rfl, by rw [ht]; exact hP, hD⟩, hS.F ht⟩) hS.2.2 dX0_saveRow_16
abbrev G_X0_saveRow_x_na10 (p : Program) (l : Launch) (e : Env) (s : State) (m : MethodId) (below : List Frame) (meth : Method) (c : Code) (G : va_G) (cA : Nat → ClassId) (A : Nat → Prop) (xa : Nat → Nat) (ka : Nat → Nat) (ra : Nat → Nat) (na : Nat → Nat) (ia : Nat → Nat) (ua : Nat → Nat) (va : Nat → Nat) (ca : Nat → Nat) (za : Nat → Nat) (pa : Nat → Nat) (qa : Nat → Nat) (X : Tr) (K : Tr) (R : Tr) (P : Tr) (L : Lo) (P2 : Tr) (L2 : Lo) (Tn : Tr) (Ti : Tr) (Tu : Tr) (Tv : Tr) (Z : Tr) (q0 : Nat) (q1 : Nat) (q2 : Nat) (q3 : Nat) (q4 : Nat) (q5 : Nat) (x2 : Int32) (r0 : Int32) (C' : Tr) (H : Heap) (locs : List Loc) (g : JFrame) : Prop := W p l e (headSpec (.code yX0_saveRow cX0_saveRow 3 (some .int) :: T0) ({ frames := 1, cells := 0, slots := 0, locals := 40 } : Room)).room s m ([.ref (ca 0), .ref (na 10), .int x2] : List Value).toArray below meth c H locs 0 0 (MQ below (tqQi G cA (fun (r : Int32) (_ : Unit) => r = r0) (fun (_ : Unit) => wX cA xa ka ra na ia ua va ca za pa qa X K R P L P2 L2 Tn Ti Tu Tv (C') Z q0 q1 q2 q3 q4 q5) A) ([.ref (ca 0), .ref (na 10), .int x2] : List Value).toArray s 0 0 A) g
set_option maxHeartbeats 4000000 in
set_option maxRecDepth 100000 in
theorem c_X0_saveRow_x_na10 (l : Launch) (G : va_G) (cA : Nat → ClassId) (sz : Nat) (xa : Nat → Nat) (ka : Nat → Nat) (ra : Nat → Nat) (na : Nat → Nat) (ia : Nat → Nat) (ua : Nat → Nat) (va : Nat → Nat) (ca : Nat → Nat) (za : Nat → Nat) (pa : Nat → Nat) (qa : Nat → Nat) (X : Tr) (K : Tr) (R : Tr) (P : Tr) (L : Lo) (P2 : Tr) (L2 : Lo) (Tn : Tr) (Ti : Tr) (Tu : Tr) (Tv : Tr) (C : Tr) (Z : Tr) (q0 : Nat) (q1 : Nat) (q2 : Nat) (q3 : Nat) (q4 : Nat) (q5 : Nat) (x2 : Int32)  (r0 : Int32) (C' : Tr) (h : f_X0_saveRow_x_na10 pa qa Tn C x2 = some (r0, C')) : Met l yX0_saveRow (.code yX0_saveRow cX0_saveRow 3 (some .int) :: T0) ({ frames := 1, cells := 0, slots := 0, locals := 40 } : Room) (tqP G cA [.ref (ca 0), .ref (na 10), .int x2] (wX cA xa ka ra na ia ua va ca za pa qa X K R P L P2 L2 Tn Ti Tu Tv C Z q0 q1 q2 q3 q4 q5) sz) (tqQi G cA (fun (r : Int32) (_ : Unit) => r = r0) (fun (_ : Unit) => wX cA xa ka ra na ia ua va ca za pa qa X K R P L P2 L2 Tn Ti Tu Tv (C') Z q0 q1 q2 q3 q4 q5) (va_A (wX cA xa ka ra na ia ua va ca za pa qa X K R P L P2 L2 Tn Ti Tu Tv C Z q0 q1 q2 q3 q4 q5) sz)) 0 0 (va_A (wX cA xa ka ra na ia ua va ca za pa qa X K R P L P2 L2 Tn Ti Tu Tv C Z q0 q1 q2 q3 q4 q5) sz) := by
  refine Met.ofW (cc := cX0_saveRow) (maxL := 3) (ret := (some .int)) (by decide) rfl ?_
  intro p e s m args below meth c s₁ B hml hv
  obtain ⟨rfl, hsz, hP, hK, hD0, hN⟩ := hv
  have hx := B.exec
  have hb := B.bytes
  have hr := B.returns
  have hts := atoms_spec (ws := .code yX0_saveRow cX0_saveRow 3 (some .int) :: T0) B.pre
  have hT : ∀ w ∈ T0, w.before _ s = true := fun w h => hts w (List.mem_cons_of_mem _ h)
  have hown : s.vm.findClass RX0 = some m.cls := findClass_of_methodNamed B.named
  have hlocks := B.notSynchronized
  subst hsz
  have hD := hD0.self (sz := s.heap.size)
  generalize hAe : va_A (wX cA xa ka ra na ia ua va ca za pa qa X K R P L P2 L2 Tn Ti Tu Tv C Z q0 q1 q2 q3 q4 q5) s.heap.size = A at hD ⊢
  have hA : ∀ q : Nat, s.heap.size ≤ q → A q := fun q h => by rw [← hAe]; exact Or.inr h
  have hS : va_S A s.heap s.heap [] := va_S.rf
  have hl := lv_entry ([.ref (ca 0), .ref (na 10), .int x2]) (n := 3) (Nat.le_of_ble_eq_true rfl)
  rw [lg_entry_eq]
  generalize (lg_sl ([.ref (ca 0), .ref (na 10), .int x2]) ++ List.replicate (3 - (lg_sl ([.ref (ca 0), .ref (na 10), .int x2])).length) Slot.unset).toArray = ls at hl ⊢
  have hl : lv_has ls 3 [(0, .ref (ca 0)), (1, .ref (na 10)), (2, .int x2)] := hl
  have F : tF p s m ([.ref (ca 0), .ref (na 10), .int x2] : List Value).toArray meth c G cA A RX0 cX0_saveRow 3 (some .int) := ⟨hx, hb, hr, hml, hT, hown, hlocks, hK, hN, hA⟩
  obtain ⟨H, hH⟩ : ∃ z, z = s.heap := ⟨_, rfl⟩
  rw [← hH] at hP
  have hS : va_S A s.heap H [] := by rw [hH]; exact hS
  suffices hgo : G_X0_saveRow_x_na10 p l e s m below meth c G cA A xa ka ra na ia ua va ca za pa qa X K R P L P2 L2 Tn Ti Tu Tv Z q0 q1 q2 q3 q4 q5 x2 r0 C' H [] (F0 m 0 ls []) by rw [hH] at hgo; exact hgo
  generalize ([] : List Loc) = locs at hS ⊢
  unfold f_X0_saveRow_x_na10 at h
  refine lv_aload_n hx hb dX0_saveRow_0 rfl (lv_at hl 1 rfl) ?_
  refine lv_iconst (v := 0) hx hb dX0_saveRow_1 (by decide) ?_
  refine lv_aload_n hx hb dX0_saveRow_2 rfl (lv_at hl 0 rfl) ?_
  refine va_get (D := G) (ci := 0) (v := .ref (ca 3)) (C := RX0) (T := TX0) (N := 3) hx hb hT ku_0 hown hK hP 101 rfl rfl 2 (by decide) (hT _ kw_8_18) (fun _ h9 => h9) rfl dX0_saveRow_3 ?_
  refine lv_iload_n hx hb dX0_saveRow_6 rfl (lv_at hl 2 rfl) ?_
  refine lv_aload_n hx hb dX0_saveRow_7 rfl (lv_at hl 1 rfl) ?_
  refine va_alen (v := 6) hx hb hK hP 55 0 rfl rfl (by decide) dX0_saveRow_8 ?_
  obtain ⟨g1, h⟩ := tx_ck h
  refine va_copyi (ty := .int) (sp := 0) (dp := x2) (n := 6) hx hb (hml.trans hl.1.symm) hown (hT _ kw_36_14) (hT _ kw_36_15) (hT _ kw_36_16) (hT _ kw_36_17) hK hP hD hS 55 102 0 0 rfl rfl rfl rfl rfl (tx_cp g1).1 (tx_cp g1).2.1 (tx_cp g1).2.2.1 (tx_cp g1).2.2.2.1 (tx_cp g1).2.2.2.2 (fun _ _ => rfl) (Nat.le_of_ble_eq_true rfl) (by decide) dX0_saveRow_9 (fun H locs hP hD hS => ?_)
  try rw [show (0 : Int32).toNatClampNeg = 0 from rfl] at hP hD
  try rw [show (6 : Int32).toNatClampNeg = 6 from rfl] at hP hD
  obtain ⟨C_2, eC_2, h⟩ := tx_lt h
  rw [sX_ca_c2, eC_2] at hP hD
  refine lv_iload_n hx hb dX0_saveRow_12 rfl (lv_at hl 2 rfl) ?_
  refine lv_aload_n hx hb dX0_saveRow_13 rfl (lv_at hl 1 rfl) ?_
  refine va_alen (v := 6) hx hb hK hP 55 0 rfl rfl (by decide) dX0_saveRow_14 ?_
  refine lv_iadd hx hb dX0_saveRow_15 ?_
  obtain ⟨rfl, rfl⟩ := tx_2 h
  exact W.iret hx hb hr (fun t ht hW => ⟨⟨_, (), rfl, rfl, by rw [ht]; exact hP, hD⟩, hS.F ht⟩) hS.2.2 dX0_saveRow_16
abbrev G_X0_save_x_na0 (p : Program) (l : Launch) (e : Env) (s : State) (m : MethodId) (below : List Frame) (meth : Method) (c : Code) (G : va_G) (cA : Nat → ClassId) (A : Nat → Prop) (xa : Nat → Nat) (ka : Nat → Nat) (ra : Nat → Nat) (na : Nat → Nat) (ia : Nat → Nat) (ua : Nat → Nat) (va : Nat → Nat) (ca : Nat → Nat) (za : Nat → Nat) (pa : Nat → Nat) (qa : Nat → Nat) (X : Tr) (K : Tr) (R : Tr) (P : Tr) (L : Lo) (P2 : Tr) (L2 : Lo) (Tn : Tr) (Ti : Tr) (Tu : Tr) (Tv : Tr) (Z : Tr) (q0 : Nat) (q1 : Nat) (q2 : Nat) (q3 : Nat) (q4 : Nat) (q5 : Nat) (C' : Tr) (H : Heap) (locs : List Loc) (g : JFrame) : Prop := W p l e (headSpec (.code yX0_save cX0_save 3 none :: T0) ({ frames := 2, cells := 0, slots := 0, locals := 62 } : Room)).room s m ([.ref (ca 0), .ref (na 0)] : List Value).toArray below meth c H locs 0 0 (MQ below (tqQv G cA (fun (_ : Unit) => True) (fun (_ : Unit) => wX cA xa ka ra na ia ua va ca za pa qa X K R P L P2 L2 Tn Ti Tu Tv (C') Z q0 q1 q2 q3 q4 q5) A) ([.ref (ca 0), .ref (na 0)] : List Value).toArray s 0 0 A) g
set_option maxHeartbeats 4000000 in
set_option maxRecDepth 100000 in
theorem w_X0_save_x_na0_J92 {p : Program} {l : Launch} {e : Env} {s : State} {m : MethodId} {below : List Frame} {meth : Method} {c : Code} {G : va_G} {cA : Nat → ClassId} {A : Nat → Prop} {xa : Nat → Nat} {ka : Nat → Nat} {ra : Nat → Nat} {na : Nat → Nat} {ia : Nat → Nat} {ua : Nat → Nat} {va : Nat → Nat} {ca : Nat → Nat} {za : Nat → Nat} {pa : Nat → Nat} {qa : Nat → Nat} {X : Tr} {K : Tr} {R : Tr} {P : Tr} {L : Lo} {P2 : Tr} {L2 : Lo} {Tn : Tr} {Ti : Tr} {Tu : Tr} {Tv : Tr} {Z : Tr} {q0 : Nat} {q1 : Nat} {q2 : Nat} {q3 : Nat} {q4 : Nat} {q5 : Nat} {C' : Tr} (F : tF p s m ([.ref (ca 0), .ref (na 0)] : List Value).toArray meth c G cA A RX0 cX0_save 3 none)    (s0 : Int32) (C : Tr) (H : Heap) (locs : List Loc) (ls : Array Slot) (h : fJ_X0_save_x_na0_J92 pa qa Tn s0 C = some C') (hP : va_P G vwCl (wX cA xa ka ra na ia ua va ca za pa qa X K R P L P2 L2 Tn Ti Tu Tv C_24 Z q0 q1 q2 q3 q4 q5) H) (hD : va_D A (wX cA xa ka ra na ia ua va ca za pa qa X K R P L P2 L2 Tn Ti Tu Tv C_24 Z q0 q1 q2 q3 q4 q5)) (hS : va_S A s.heap H locs) (hl : lv_has ls 3 []) : G_X0_save_x_na0 p l e s m below meth c G cA A xa ka ra na ia ua va ca za pa qa X K R P L P2 L2 Tn Ti Tu Tv Z q0 q1 q2 q3 q4 q5 C' H locs (F0 m 92 ls []) := by
  obtain ⟨hx, hb, hr, hml, hT, hown, hlocks, hK, hN, hA⟩ := id F
  unfold fJ_X0_save_x_na0_J92 at h
  refine va_put (D := G) (ci := 0) (v := .int s0) (ty := .int) (C := RX0) (T := TX0) (N := 3) hx hb hT ku_0 tyX0 tyX0_ok nmX0 hown hK hP hD hS 101 rfl rfl 0 (by decide) (hT _ kw_8_16) (fun _ h9 => h9) rfl (by decide +kernel) rfl rfl (Nat.le_of_ble_eq_true rfl) dX0_save_92 (fun H locs hP hD hS => ?_)
  obtain ⟨C_24, eC_24, h⟩ := tx_lt h
  rw [sX_ca_f0, eC_24] at hP hD
  obtain rfl := tx_1 h
  exact W.vret hx hb hr (fun t ht hW => ⟨⟨(), rfl, trivial, by rw [ht]; exact hP, hD⟩, hS.F ht⟩) hS.2.2 dX0_save_95
set_option maxHeartbeats 4000000 in
set_option maxRecDepth 100000 in
theorem c_X0_save_x_na0 (l : Launch) (G : va_G) (cA : Nat → ClassId) (sz : Nat) (xa : Nat → Nat) (ka : Nat → Nat) (ra : Nat → Nat) (na : Nat → Nat) (ia : Nat → Nat) (ua : Nat → Nat) (va : Nat → Nat) (ca : Nat → Nat) (za : Nat → Nat) (pa : Nat → Nat) (qa : Nat → Nat) (X : Tr) (K : Tr) (R : Tr) (P : Tr) (L : Lo) (P2 : Tr) (L2 : Lo) (Tn : Tr) (Ti : Tr) (Tu : Tr) (Tv : Tr) (C : Tr) (Z : Tr) (q0 : Nat) (q1 : Nat) (q2 : Nat) (q3 : Nat) (q4 : Nat) (q5 : Nat)  (C' : Tr) (h : f_X0_save_x_na0 pa qa Tn C = some C') : Met l yX0_save (.code yX0_save cX0_save 3 none :: T0) ({ frames := 2, cells := 0, slots := 0, locals := 62 } : Room) (tqP G cA [.ref (ca 0), .ref (na 0)] (wX cA xa ka ra na ia ua va ca za pa qa X K R P L P2 L2 Tn Ti Tu Tv C Z q0 q1 q2 q3 q4 q5) sz) (tqQv G cA (fun (_ : Unit) => True) (fun (_ : Unit) => wX cA xa ka ra na ia ua va ca za pa qa X K R P L P2 L2 Tn Ti Tu Tv (C') Z q0 q1 q2 q3 q4 q5) (va_A (wX cA xa ka ra na ia ua va ca za pa qa X K R P L P2 L2 Tn Ti Tu Tv C Z q0 q1 q2 q3 q4 q5) sz)) 0 0 (va_A (wX cA xa ka ra na ia ua va ca za pa qa X K R P L P2 L2 Tn Ti Tu Tv C Z q0 q1 q2 q3 q4 q5) sz) := by
  refine Met.ofW (cc := cX0_save) (maxL := 3) (ret := none) (by decide) rfl ?_
  intro p e s m args below meth c s₁ B hml hv
  obtain ⟨rfl, hsz, hP, hK, hD0, hN⟩ := hv
  have hx := B.exec
  have hb := B.bytes
  have hr := B.returns
  have hts := atoms_spec (ws := .code yX0_save cX0_save 3 none :: T0) B.pre
  have hT : ∀ w ∈ T0, w.before _ s = true := fun w h => hts w (List.mem_cons_of_mem _ h)
  have hown : s.vm.findClass RX0 = some m.cls := findClass_of_methodNamed B.named
  have hlocks := B.notSynchronized
  subst hsz
  have hD := hD0.self (sz := s.heap.size)
  generalize hAe : va_A (wX cA xa ka ra na ia ua va ca za pa qa X K R P L P2 L2 Tn Ti Tu Tv C Z q0 q1 q2 q3 q4 q5) s.heap.size = A at hD ⊢
  have hA : ∀ q : Nat, s.heap.size ≤ q → A q := fun q h => by rw [← hAe]; exact Or.inr h
  have hS : va_S A s.heap s.heap [] := va_S.rf
  have hl := lv_entry ([.ref (ca 0), .ref (na 0)]) (n := 3) (Nat.le_of_ble_eq_true rfl)
  rw [lg_entry_eq]
  generalize (lg_sl ([.ref (ca 0), .ref (na 0)]) ++ List.replicate (3 - (lg_sl ([.ref (ca 0), .ref (na 0)])).length) Slot.unset).toArray = ls at hl ⊢
  have hl : lv_has ls 3 [(0, .ref (ca 0)), (1, .ref (na 0))] := hl
  have F : tF p s m ([.ref (ca 0), .ref (na 0)] : List Value).toArray meth c G cA A RX0 cX0_save 3 none := ⟨hx, hb, hr, hml, hT, hown, hlocks, hK, hN, hA⟩
  obtain ⟨H, hH⟩ : ∃ z, z = s.heap := ⟨_, rfl⟩
  rw [← hH] at hP
  have hS : va_S A s.heap H [] := by rw [hH]; exact hS
  suffices hgo : G_X0_save_x_na0 p l e s m below meth c G cA A xa ka ra na ia ua va ca za pa qa X K R P L P2 L2 Tn Ti Tu Tv Z q0 q1 q2 q3 q4 q5 C' H [] (F0 m 0 ls []) by rw [hH] at hgo; exact hgo
  generalize ([] : List Loc) = locs at hS ⊢
  unfold f_X0_save_x_na0 at h
  refine lv_aload_n hx hb dX0_save_0 rfl (lv_at hl 0 rfl) ?_
  refine va_get (D := G) (ci := 0) (v := .int (C 0 1)) (C := RX0) (T := TX0) (N := 3) hx hb hT ku_0 hown hK hP 101 rfl rfl 1 (by decide) (hT _ kw_8_17) (fun _ h9 => h9) rfl dX0_save_1 ?_
  refine lv_bipush (v := 76) hx hb dX0_save_4 (by decide) ?_
  refine lv_imul hx hb dX0_save_6 ?_
  refine lv_topi (fun y1 ey1 => ?_)
  have h := tx_let ey1 h
  refine lv_istore_n (lv' := [(2, .int y1), (0, .ref (ca 0)), (1, .ref (na 0))]) hx hb dX0_save_7 rfl hl (by decide) rfl (fun ls hl => ?_)
  refine lv_aload_n hx hb dX0_save_8 rfl (lv_at hl 1 rfl) ?_
  refine lv_aload_n hx hb dX0_save_9 rfl (lv_at hl 2 rfl) ?_
  refine va_get (D := G) (ci := 6) (v := .ref (na 16)) (C := RX6) (T := TX6) (N := 20) hx hb hT ku_6 hown hK hP 53 rfl rfl 15 (by decide) (hT _ kw_36_5) (fun _ h9 => h9) rfl dX0_save_10 ?_
  refine lv_iload_n hx hb dX0_save_13 rfl (lv_at hl 0 rfl) ?_
  obtain ⟨⟨r2, C_3⟩, hc4, h⟩ := tx_bd h
  replace h := tx_let (y := r2) rfl h
  replace h := tx_let (y := C_3) rfl h
  refine tw_ci tw_all hP hD hS hA (va_runV (As := [.ref (na 16), .int y1]) (rest := []) ⟨hx, hb, hml, hown, hT⟩ (c_X0_saveRow_x_na16 l G cA H.size xa ka ra na ia ua va ca za pa qa X K R P L P2 L2 Tn Ti Tu Tv C Z q0 q1 q2 q3 q4 q5 y1  r2 C_3 hc4) (cwV 2 hT (tq_gV kw_36_10 kw_36_11 kw_36_12 kw_2_7 kw_36_13) rfl rfl rfl (by decide +kernel) ⟨Nat.le_of_ble_eq_true rfl, Nat.le_of_ble_eq_true rfl⟩) ⟨(tw_pre tw_all hP hD hK hN).1, va_recv hK hP (ci := 0) (q0 := 101) rfl rfl, (tw_pre tw_all hP hD hK hN).2⟩ rfl rfl hl.1 rfl (lv_room (Nat.le_of_ble_eq_true rfl)) dX0_save_14 ⟨Nat.le_of_ble_eq_true rfl, Nat.le_of_ble_eq_true rfl⟩) (fun _ _ H locs z5 hP hD hS => ?_)
  subst z5
  rw [List.append_nil] at hP hD
  have hP : va_P G vwCl (wX cA xa ka ra na ia ua va ca za pa qa X K R P L P2 L2 Tn Ti Tu Tv C_3 Z q0 q1 q2 q3 q4 q5) H := hP
  have hD : va_D A (wX cA xa ka ra na ia ua va ca za pa qa X K R P L P2 L2 Tn Ti Tu Tv C_3 Z q0 q1 q2 q3 q4 q5) := hD
  refine lv_istore_n (lv' := [(2, .int r2), (0, .ref (ca 0)), (1, .ref (na 0))]) hx hb dX0_save_17 rfl hl (by decide) rfl (fun ls hl => ?_)
  refine lv_aload_n hx hb dX0_save_18 rfl (lv_at hl 1 rfl) ?_
  refine lv_aload_n hx hb dX0_save_19 rfl (lv_at hl 2 rfl) ?_
  refine va_get (D := G) (ci := 6) (v := .ref (na 17)) (C := RX6) (T := TX6) (N := 20) hx hb hT ku_6 hown hK hP 53 rfl rfl 16 (by decide) (hT _ kw_36_6) (fun _ h9 => h9) rfl dX0_save_20 ?_
  refine lv_iload_n hx hb dX0_save_23 rfl (lv_at hl 0 rfl) ?_
  obtain ⟨⟨r6, C_7⟩, hc8, h⟩ := tx_bd h
  replace h := tx_let (y := r6) rfl h
  replace h := tx_let (y := C_7) rfl h
  refine tw_ci tw_all hP hD hS hA (va_runV (As := [.ref (na 17), .int r2]) (rest := []) ⟨hx, hb, hml, hown, hT⟩ (c_X0_saveRow_x_na17 l G cA H.size xa ka ra na ia ua va ca za pa qa X K R P L P2 L2 Tn Ti Tu Tv C_3 Z q0 q1 q2 q3 q4 q5 r2  r6 C_7 hc8) (cwV 2 hT (tq_gV kw_36_10 kw_36_11 kw_36_12 kw_2_7 kw_36_13) rfl rfl rfl (by decide +kernel) ⟨Nat.le_of_ble_eq_true rfl, Nat.le_of_ble_eq_true rfl⟩) ⟨(tw_pre tw_all hP hD hK hN).1, va_recv hK hP (ci := 0) (q0 := 101) rfl rfl, (tw_pre tw_all hP hD hK hN).2⟩ rfl rfl hl.1 rfl (lv_room (Nat.le_of_ble_eq_true rfl)) dX0_save_24 ⟨Nat.le_of_ble_eq_true rfl, Nat.le_of_ble_eq_true rfl⟩) (fun _ _ H locs z9 hP hD hS => ?_)
  subst z9
  rw [List.append_nil] at hP hD
  have hP : va_P G vwCl (wX cA xa ka ra na ia ua va ca za pa qa X K R P L P2 L2 Tn Ti Tu Tv C_7 Z q0 q1 q2 q3 q4 q5) H := hP
  have hD : va_D A (wX cA xa ka ra na ia ua va ca za pa qa X K R P L P2 L2 Tn Ti Tu Tv C_7 Z q0 q1 q2 q3 q4 q5) := hD
  refine lv_istore_n (lv' := [(2, .int r6), (0, .ref (ca 0)), (1, .ref (na 0))]) hx hb dX0_save_27 rfl hl (by decide) rfl (fun ls hl => ?_)
  refine lv_aload_n hx hb dX0_save_28 rfl (lv_at hl 1 rfl) ?_
  refine lv_aload_n hx hb dX0_save_29 rfl (lv_at hl 2 rfl) ?_
  refine va_get (D := G) (ci := 6) (v := .ref (na 18)) (C := RX6) (T := TX6) (N := 20) hx hb hT ku_6 hown hK hP 53 rfl rfl 17 (by decide) (hT _ kw_36_7) (fun _ h9 => h9) rfl dX0_save_30 ?_
  refine lv_iload_n hx hb dX0_save_33 rfl (lv_at hl 0 rfl) ?_
  obtain ⟨⟨r10, C_11⟩, hc12, h⟩ := tx_bd h
  replace h := tx_let (y := r10) rfl h
  replace h := tx_let (y := C_11) rfl h
  refine tw_ci tw_all hP hD hS hA (va_runV (As := [.ref (na 18), .int r6]) (rest := []) ⟨hx, hb, hml, hown, hT⟩ (c_X0_saveRow_x_na18 l G cA H.size xa ka ra na ia ua va ca za pa qa X K R P L P2 L2 Tn Ti Tu Tv C_7 Z q0 q1 q2 q3 q4 q5 r6  r10 C_11 hc12) (cwV 2 hT (tq_gV kw_36_10 kw_36_11 kw_36_12 kw_2_7 kw_36_13) rfl rfl rfl (by decide +kernel) ⟨Nat.le_of_ble_eq_true rfl, Nat.le_of_ble_eq_true rfl⟩) ⟨(tw_pre tw_all hP hD hK hN).1, va_recv hK hP (ci := 0) (q0 := 101) rfl rfl, (tw_pre tw_all hP hD hK hN).2⟩ rfl rfl hl.1 rfl (lv_room (Nat.le_of_ble_eq_true rfl)) dX0_save_34 ⟨Nat.le_of_ble_eq_true rfl, Nat.le_of_ble_eq_true rfl⟩) (fun _ _ H locs z13 hP hD hS => ?_)
  subst z13
  rw [List.append_nil] at hP hD
  have hP : va_P G vwCl (wX cA xa ka ra na ia ua va ca za pa qa X K R P L P2 L2 Tn Ti Tu Tv C_11 Z q0 q1 q2 q3 q4 q5) H := hP
  have hD : va_D A (wX cA xa ka ra na ia ua va ca za pa qa X K R P L P2 L2 Tn Ti Tu Tv C_11 Z q0 q1 q2 q3 q4 q5) := hD
  refine lv_istore_n (lv' := [(2, .int r10), (0, .ref (ca 0)), (1, .ref (na 0))]) hx hb dX0_save_37 rfl hl (by decide) rfl (fun ls hl => ?_)
  refine lv_aload_n hx hb dX0_save_38 rfl (lv_at hl 1 rfl) ?_
  refine lv_aload_n hx hb dX0_save_39 rfl (lv_at hl 2 rfl) ?_
  refine va_get (D := G) (ci := 6) (v := .ref (na 15)) (C := RX6) (T := TX6) (N := 20) hx hb hT ku_6 hown hK hP 53 rfl rfl 14 (by decide) (hT _ kw_36_8) (fun _ h9 => h9) rfl dX0_save_40 ?_
  refine lv_iload_n hx hb dX0_save_43 rfl (lv_at hl 0 rfl) ?_
  obtain ⟨⟨r14, C_15⟩, hc16, h⟩ := tx_bd h
  replace h := tx_let (y := r14) rfl h
  replace h := tx_let (y := C_15) rfl h
  refine tw_ci tw_all hP hD hS hA (va_runV (As := [.ref (na 15), .int r10]) (rest := []) ⟨hx, hb, hml, hown, hT⟩ (c_X0_saveRow_x_na15 l G cA H.size xa ka ra na ia ua va ca za pa qa X K R P L P2 L2 Tn Ti Tu Tv C_11 Z q0 q1 q2 q3 q4 q5 r10  r14 C_15 hc16) (cwV 2 hT (tq_gV kw_36_10 kw_36_11 kw_36_12 kw_2_7 kw_36_13) rfl rfl rfl (by decide +kernel) ⟨Nat.le_of_ble_eq_true rfl, Nat.le_of_ble_eq_true rfl⟩) ⟨(tw_pre tw_all hP hD hK hN).1, va_recv hK hP (ci := 0) (q0 := 101) rfl rfl, (tw_pre tw_all hP hD hK hN).2⟩ rfl rfl hl.1 rfl (lv_room (Nat.le_of_ble_eq_true rfl)) dX0_save_44 ⟨Nat.le_of_ble_eq_true rfl, Nat.le_of_ble_eq_true rfl⟩) (fun _ _ H locs z17 hP hD hS => ?_)
  subst z17
  rw [List.append_nil] at hP hD
  have hP : va_P G vwCl (wX cA xa ka ra na ia ua va ca za pa qa X K R P L P2 L2 Tn Ti Tu Tv C_15 Z q0 q1 q2 q3 q4 q5) H := hP
  have hD : va_D A (wX cA xa ka ra na ia ua va ca za pa qa X K R P L P2 L2 Tn Ti Tu Tv C_15 Z q0 q1 q2 q3 q4 q5) := hD
  refine lv_istore_n (lv' := [(2, .int r14), (0, .ref (ca 0)), (1, .ref (na 0))]) hx hb dX0_save_47 rfl hl (by decide) rfl (fun ls hl => ?_)
  refine lv_aload_n hx hb dX0_save_48 rfl (lv_at hl 1 rfl) ?_
  refine lv_aload_n hx hb dX0_save_49 rfl (lv_at hl 2 rfl) ?_
  refine va_get (D := G) (ci := 6) (v := .ref (na 10)) (C := RX6) (T := TX6) (N := 20) hx hb hT ku_6 hown hK hP 53 rfl rfl 9 (by decide) (hT _ kw_36_9) (fun _ h9 => h9) rfl dX0_save_50 ?_
  refine lv_iload_n hx hb dX0_save_53 rfl (lv_at hl 0 rfl) ?_
  obtain ⟨⟨r18, C_19⟩, hc20, h⟩ := tx_bd h
  replace h := tx_let (y := r18) rfl h
  replace h := tx_let (y := C_19) rfl h
  refine tw_ci tw_all hP hD hS hA (va_runV (As := [.ref (na 10), .int r14]) (rest := []) ⟨hx, hb, hml, hown, hT⟩ (c_X0_saveRow_x_na10 l G cA H.size xa ka ra na ia ua va ca za pa qa X K R P L P2 L2 Tn Ti Tu Tv C_15 Z q0 q1 q2 q3 q4 q5 r14  r18 C_19 hc20) (cwV 2 hT (tq_gV kw_36_10 kw_36_11 kw_36_12 kw_2_7 kw_36_13) rfl rfl rfl (by decide +kernel) ⟨Nat.le_of_ble_eq_true rfl, Nat.le_of_ble_eq_true rfl⟩) ⟨(tw_pre tw_all hP hD hK hN).1, va_recv hK hP (ci := 0) (q0 := 101) rfl rfl, (tw_pre tw_all hP hD hK hN).2⟩ rfl rfl hl.1 rfl (lv_room (Nat.le_of_ble_eq_true rfl)) dX0_save_54 ⟨Nat.le_of_ble_eq_true rfl, Nat.le_of_ble_eq_true rfl⟩) (fun _ _ H locs z21 hP hD hS => ?_)
  subst z21
  rw [List.append_nil] at hP hD
  have hP : va_P G vwCl (wX cA xa ka ra na ia ua va ca za pa qa X K R P L P2 L2 Tn Ti Tu Tv C_19 Z q0 q1 q2 q3 q4 q5) H := hP
  have hD : va_D A (wX cA xa ka ra na ia ua va ca za pa qa X K R P L P2 L2 Tn Ti Tu Tv C_19 Z q0 q1 q2 q3 q4 q5) := hD
  refine lv_pop hx hb dX0_save_57 rfl ?_
  refine lv_aload_n hx hb dX0_save_58 rfl (lv_at hl 1 rfl) ?_
  refine lv_aload_n hx hb dX0_save_59 rfl (lv_at hl 1 rfl) ?_
  refine va_get (D := G) (ci := 0) (v := .int (C_19 0 1)) (C := RX0) (T := TX0) (N := 3) hx hb hT ku_0 hown hK hP 101 rfl rfl 1 (by decide) (hT _ kw_8_17) (fun _ h9 => h9) rfl dX0_save_60 ?_
  refine lv_iconst (v := 1) hx hb dX0_save_63 (by decide) ?_
  refine lv_iadd hx hb dX0_save_64 ?_
  refine lv_bipush (v := 20) hx hb dX0_save_65 (by decide) ?_
  refine lv_irem hx hb dX0_save_67 (by decide) ?_
  refine va_put (D := G) (ci := 0) (v := .int (((C_19 0 1) + 1) - ((C_19 0 1) + 1) / 20 * 20)) (ty := .int) (C := RX0) (T := TX0) (N := 3) hx hb hT ku_0 tyX0 tyX0_ok nmX0 hown hK hP hD hS 101 rfl rfl 1 (by decide) (hT _ kw_8_17) (fun _ h9 => h9) rfl (by decide +kernel) rfl rfl (Nat.le_of_ble_eq_true rfl) dX0_save_68 (fun H locs hP hD hS => ?_)
  obtain ⟨C_22, eC_22, h⟩ := tx_lt h
  rw [sX_ca_f1, eC_22] at hP hD
  refine lv_aload_n hx hb dX0_save_71 rfl (lv_at hl 1 rfl) ?_
  refine lv_aload_n hx hb dX0_save_72 rfl (lv_at hl 1 rfl) ?_
  refine va_get (D := G) (ci := 0) (v := .int (C_22 0 0)) (C := RX0) (T := TX0) (N := 3) hx hb hT ku_0 hown hK hP 101 rfl rfl 0 (by decide) (hT _ kw_8_16) (fun _ h9 => h9) rfl dX0_save_73 ?_
  refine lv_bipush (v := 20) hx hb dX0_save_76 (by decide) ?_
  refine lv_icmp_ne (tgt := 86) hx hb dX0_save_78 (by decide) (fun c23 => ?_) (fun c23 => ?_)
  · have h := tx_neg c23 h
    refine lv_aload_n hx hb dX0_save_86 rfl (lv_at hl 1 rfl) ?_
    refine va_get (D := G) (ci := 0) (v := .int (C_22 0 0)) (C := RX0) (T := TX0) (N := 3) hx hb hT ku_0 hown hK hP 101 rfl rfl 0 (by decide) (hT _ kw_8_16) (fun _ h9 => h9) rfl dX0_save_87 ?_
    refine lv_iconst (v := 1) hx hb dX0_save_90 (by decide) ?_
    refine lv_iadd hx hb dX0_save_91 ?_
    exact w_X0_save_x_na0_J92 F ((C_22 0 0) + 1) C_22 H locs ls h hP hD hS (lv_sub hl [] rfl)
  · have h := tx_pos c23 h
    refine lv_bipush (v := 20) hx hb dX0_save_81 (by decide) ?_
    refine lv_goto (tgt := 92) hx hb dX0_save_83 (by decide) ?_
    exact w_X0_save_x_na0_J92 F 20 C_22 H locs ls h hP hD hS (lv_sub hl [] rfl)
abbrev G_X7_help (p : Program) (l : Launch) (e : Env) (s : State) (m : MethodId) (below : List Frame) (meth : Method) (c : Code) (G : va_G) (cA : Nat → ClassId) (A : Nat → Prop) (xa : Nat → Nat) (ka : Nat → Nat) (ra : Nat → Nat) (na : Nat → Nat) (ia : Nat → Nat) (ua : Nat → Nat) (va : Nat → Nat) (ca : Nat → Nat) (za : Nat → Nat) (pa : Nat → Nat) (qa : Nat → Nat) (X : Tr) (K : Tr) (R : Tr) (P : Tr) (L : Lo) (P2 : Tr) (L2 : Lo) (Ti : Tr) (Tu : Tr) (Tv : Tr) (Z : Tr) (q0 : Nat) (q1 : Nat) (q2 : Nat) (q3 : Nat) (q4 : Nat) (q5 : Nat) (x1 : Int32) (x2 : Int32) (r0 : Int32) (Tn' : Tr) (C' : Tr) (H : Heap) (locs : List Loc) (g : JFrame) : Prop := W p l e (headSpec (.code yX7_help cX7_help 3 (some .boolean) :: T0) ({ frames := 3, cells := 0, slots := 0, locals := 84 } : Room)).room s m ([.ref (xa 0), .int x1, .int x2] : List Value).toArray below meth c H locs 0 0 (MQ below (tqQi G cA (fun (r : Int32) (_ : Unit) => r = r0) (fun (_ : Unit) => wX cA xa ka ra na ia ua va ca za pa qa X K R P L P2 L2 (Tn') Ti Tu Tv (C') Z q0 q1 q2 q3 q4 q5) A) ([.ref (xa 0), .int x1, .int x2] : List Value).toArray s 0 0 A) g
set_option maxHeartbeats 4000000 in
set_option maxRecDepth 100000 in
theorem c_X7_help (l : Launch) (G : va_G) (cA : Nat → ClassId) (sz : Nat) (xa : Nat → Nat) (ka : Nat → Nat) (ra : Nat → Nat) (na : Nat → Nat) (ia : Nat → Nat) (ua : Nat → Nat) (va : Nat → Nat) (ca : Nat → Nat) (za : Nat → Nat) (pa : Nat → Nat) (qa : Nat → Nat) (X : Tr) (K : Tr) (R : Tr) (P : Tr) (L : Lo) (P2 : Tr) (L2 : Lo) (Tn : Tr) (Ti : Tr) (Tu : Tr) (Tv : Tr) (C : Tr) (Z : Tr) (q0 : Nat) (q1 : Nat) (q2 : Nat) (q3 : Nat) (q4 : Nat) (q5 : Nat) (x1 : Int32) (x2 : Int32)  (r0 : Int32) (Tn' : Tr) (C' : Tr) (h : f_X7_help pa qa P Tn C q4 x1 x2 = some (r0, Tn', C')) : Met l yX7_help (.code yX7_help cX7_help 3 (some .boolean) :: T0) ({ frames := 3, cells := 0, slots := 0, locals := 84 } : Room) (tqP G cA [.ref (xa 0), .int x1, .int x2] (wX cA xa ka ra na ia ua va ca za pa qa X K R P L P2 L2 Tn Ti Tu Tv C Z q0 q1 q2 q3 q4 q5) sz) (tqQi G cA (fun (r : Int32) (_ : Unit) => r = r0) (fun (_ : Unit) => wX cA xa ka ra na ia ua va ca za pa qa X K R P L P2 L2 (Tn') Ti Tu Tv (C') Z q0 q1 q2 q3 q4 q5) (va_A (wX cA xa ka ra na ia ua va ca za pa qa X K R P L P2 L2 Tn Ti Tu Tv C Z q0 q1 q2 q3 q4 q5) sz)) 0 0 (va_A (wX cA xa ka ra na ia ua va ca za pa qa X K R P L P2 L2 Tn Ti Tu Tv C Z q0 q1 q2 q3 q4 q5) sz) := by
  refine Met.ofW (cc := cX7_help) (maxL := 3) (ret := (some .boolean)) (by decide) rfl ?_
  intro p e s m args below meth c s₁ B hml hv
  obtain ⟨rfl, hsz, hP, hK, hD0, hN⟩ := hv
  have hx := B.exec
  have hb := B.bytes
  have hr := B.returns
  have hts := atoms_spec (ws := .code yX7_help cX7_help 3 (some .boolean) :: T0) B.pre
  have hT : ∀ w ∈ T0, w.before _ s = true := fun w h => hts w (List.mem_cons_of_mem _ h)
  have hown : s.vm.findClass RX7 = some m.cls := findClass_of_methodNamed B.named
  have hlocks := B.notSynchronized
  subst hsz
  have hD := hD0.self (sz := s.heap.size)
  generalize hAe : va_A (wX cA xa ka ra na ia ua va ca za pa qa X K R P L P2 L2 Tn Ti Tu Tv C Z q0 q1 q2 q3 q4 q5) s.heap.size = A at hD ⊢
  have hA : ∀ q : Nat, s.heap.size ≤ q → A q := fun q h => by rw [← hAe]; exact Or.inr h
  have hS : va_S A s.heap s.heap [] := va_S.rf
  have hl := lv_entry ([.ref (xa 0), .int x1, .int x2]) (n := 3) (Nat.le_of_ble_eq_true rfl)
  rw [lg_entry_eq]
  generalize (lg_sl ([.ref (xa 0), .int x1, .int x2]) ++ List.replicate (3 - (lg_sl ([.ref (xa 0), .int x1, .int x2])).length) Slot.unset).toArray = ls at hl ⊢
  have hl : lv_has ls 3 [(0, .ref (xa 0)), (1, .int x1), (2, .int x2)] := hl
  have F : tF p s m ([.ref (xa 0), .int x1, .int x2] : List Value).toArray meth c G cA A RX7 cX7_help 3 (some .boolean) := ⟨hx, hb, hr, hml, hT, hown, hlocks, hK, hN, hA⟩
  obtain ⟨H, hH⟩ : ∃ z, z = s.heap := ⟨_, rfl⟩
  rw [← hH] at hP
  have hS : va_S A s.heap H [] := by rw [hH]; exact hS
  suffices hgo : G_X7_help p l e s m below meth c G cA A xa ka ra na ia ua va ca za pa qa X K R P L P2 L2 Ti Tu Tv Z q0 q1 q2 q3 q4 q5 x1 x2 r0 Tn' C' H [] (F0 m 0 ls []) by rw [hH] at hgo; exact hgo
  generalize ([] : List Loc) = locs at hS ⊢
  unfold f_X7_help at h
  refine lv_aload_n hx hb dX7_help_0 rfl (lv_at hl 0 rfl) ?_
  refine lv_iload_n hx hb dX7_help_1 rfl (lv_at hl 1 rfl) ?_
  obtain ⟨r1, hc2, h⟩ := tx_bd h
  refine tw_ci tw_all hP hD hS hA (va_runV (As := [.int x1]) (rest := []) ⟨hx, hb, hml, hown, hT⟩ (c_X7_isPerson l G cA H.size xa ka ra na ia ua va ca za pa qa X K R P L P2 L2 Tn Ti Tu Tv C Z q0 q1 q2 q3 q4 q5 x1  r1 hc2) (cwV 1 hT (tq_gV kw_29_3 kw_29_4 kw_29_5 kw_1_2 kw_29_6) rfl rfl rfl (by decide +kernel) ⟨Nat.le_of_ble_eq_true rfl, Nat.le_of_ble_eq_true rfl⟩) ⟨(tw_pre tw_all hP hD hK hN).1, va_recv hK hP (ci := 7) (q0 := 0) rfl rfl, (tw_pre tw_all hP hD hK hN).2⟩ rfl rfl hl.1 rfl (lv_room (Nat.le_of_ble_eq_true rfl)) dX7_help_2 ⟨Nat.le_of_ble_eq_true rfl, Nat.le_of_ble_eq_true rfl⟩) (fun _ _ H locs z3 hP hD hS => ?_)
  subst z3
  rw [List.append_nil] at hP hD
  have hP : va_P G vwCl (wX cA xa ka ra na ia ua va ca za pa qa X K R P L P2 L2 Tn Ti Tu Tv C Z q0 q1 q2 q3 q4 q5) H := hP
  have hD : va_D A (wX cA xa ka ra na ia ua va ca za pa qa X K R P L P2 L2 Tn Ti Tu Tv C Z q0 q1 q2 q3 q4 q5) := hD
  refine lv_if_eq (tgt := 32) hx hb dX7_help_5 (by decide) (fun c4 => ?_) (fun c4 => ?_)
  · have h := tx_pos c4 h
    refine lv_iconst (v := 0) hx hb dX7_help_32 (by decide) ?_
    obtain ⟨rfl, rfl, rfl⟩ := tx_3 h
    exact W.zret (ty := .boolean) hx hb hr rfl (fun t ht hW => ⟨⟨_, (), rfl, rfl, by rw [ht]; exact hP, hD⟩, hS.F ht⟩) hS.2.2 dX7_help_33
  · have h := tx_neg c4 h
    refine lv_iload_n hx hb dX7_help_8 rfl (lv_at hl 2 rfl) ?_
    refine lv_iconst (v := 1) hx hb dX7_help_9 (by decide) ?_
    refine lv_icmp_lt (tgt := 32) hx hb dX7_help_10 (by decide) (fun c5 => ?_) (fun c5 => ?_)
    · have h := tx_pos c5 h
      refine lv_iconst (v := 0) hx hb dX7_help_32 (by decide) ?_
      obtain ⟨rfl, rfl, rfl⟩ := tx_3 h
      exact W.zret (ty := .boolean) hx hb hr rfl (fun t ht hW => ⟨⟨_, (), rfl, rfl, by rw [ht]; exact hP, hD⟩, hS.F ht⟩) hS.2.2 dX7_help_33
    · have h := tx_neg c5 h
      refine lv_iload_n hx hb dX7_help_13 rfl (lv_at hl 2 rfl) ?_
      refine lv_bipush (v := 99) hx hb dX7_help_14 (by decide) ?_
      refine lv_icmp_gt (tgt := 32) hx hb dX7_help_16 (by decide) (fun c6 => ?_) (fun c6 => ?_)
      · have h := tx_pos c6 h
        refine lv_iconst (v := 0) hx hb dX7_help_32 (by decide) ?_
        obtain ⟨rfl, rfl, rfl⟩ := tx_3 h
        exact W.zret (ty := .boolean) hx hb hr rfl (fun t ht hW => ⟨⟨_, (), rfl, rfl, by rw [ht]; exact hP, hD⟩, hS.F ht⟩) hS.2.2 dX7_help_33
      · have h := tx_neg c6 h
        refine lv_aload_n hx hb dX7_help_19 rfl (lv_at hl 0 rfl) ?_
        refine va_get (D := G) (ci := 7) (v := .ref (na 0)) (C := RX7) (T := TX7) (N := 12) hx hb hT ku_7 hown hK hP 0 rfl rfl 2 (by decide) (hT _ kw_2_0) (fun _ h9 => h9) rfl dX7_help_20 ?_
        refine va_get (D := G) (ci := 6) (v := .ref (na 10)) (C := RX6) (T := TX6) (N := 20) hx hb hT ku_6 hown hK hP 53 rfl rfl 9 (by decide) (hT _ kw_29_0) (fun _ h9 => h9) rfl dX7_help_23 ?_
        refine lv_iload_n hx hb dX7_help_26 rfl (lv_at hl 1 rfl) ?_
        obtain ⟨g7, h⟩ := tx_ck h
        refine va_iald (i := x1) hx hb hK hP 55 0 rfl rfl (tx_in g7) dX7_help_27 ?_
        refine lv_iload_n hx hb dX7_help_28 rfl (lv_at hl 2 rfl) ?_
        refine lv_icmp_ne (tgt := 34) hx hb dX7_help_29 (by decide) (fun c8 => ?_) (fun c8 => ?_)
        · have h := tx_neg c8 h
          refine lv_aload_n hx hb dX7_help_34 rfl (lv_at hl 0 rfl) ?_
          refine va_get (D := G) (ci := 7) (v := .ref (ca 0)) (C := RX7) (T := TX7) (N := 12) hx hb hT ku_7 hown hK hP 0 rfl rfl 7 (by decide) (hT _ kw_2_8) (fun _ h9 => h9) rfl dX7_help_35 ?_
          refine lv_aload_n hx hb dX7_help_38 rfl (lv_at hl 0 rfl) ?_
          refine va_get (D := G) (ci := 7) (v := .ref (na 0)) (C := RX7) (T := TX7) (N := 12) hx hb hT ku_7 hown hK hP 0 rfl rfl 2 (by decide) (hT _ kw_2_0) (fun _ h9 => h9) rfl dX7_help_39 ?_
          obtain ⟨C_9, hc10, h⟩ := tx_bd h
          refine tw_cv tw_all hP hD hS hA (va_runV (As := [.ref (na 0)]) (rest := []) ⟨hx, hb, hml, hown, hT⟩ (c_X0_save_x_na0 l G cA H.size xa ka ra na ia ua va ca za pa qa X K R P L P2 L2 Tn Ti Tu Tv C Z q0 q1 q2 q3 q4 q5  C_9 hc10) (cwV 1 hT (tq_gV kw_36_1 kw_36_2 kw_36_3 kw_2_7 kw_36_4) rfl rfl rfl (by decide +kernel) ⟨Nat.le_of_ble_eq_true rfl, Nat.le_of_ble_eq_true rfl⟩) ⟨(tw_pre tw_all hP hD hK hN).1, va_recv hK hP (ci := 0) (q0 := 101) rfl rfl, (tw_pre tw_all hP hD hK hN).2⟩ rfl rfl hl.1 rfl (lv_room (Nat.le_of_ble_eq_true rfl)) dX7_help_42 ⟨Nat.le_of_ble_eq_true rfl, Nat.le_of_ble_eq_true rfl⟩) (fun _ H locs z11 hP hD hS => ?_)
          rw [List.append_nil] at hP hD
          have hP : va_P G vwCl (wX cA xa ka ra na ia ua va ca za pa qa X K R P L P2 L2 Tn Ti Tu Tv C_9 Z q0 q1 q2 q3 q4 q5) H := hP
          have hD : va_D A (wX cA xa ka ra na ia ua va ca za pa qa X K R P L P2 L2 Tn Ti Tu Tv C_9 Z q0 q1 q2 q3 q4 q5) := hD
          refine lv_aload_n hx hb dX7_help_45 rfl (lv_at hl 0 rfl) ?_
          refine va_get (D := G) (ci := 7) (v := .ref (na 0)) (C := RX7) (T := TX7) (N := 12) hx hb hT ku_7 hown hK hP 0 rfl rfl 2 (by decide) (hT _ kw_2_0) (fun _ h9 => h9) rfl dX7_help_46 ?_
          refine va_get (D := G) (ci := 6) (v := .ref (na 10)) (C := RX6) (T := TX6) (N := 20) hx hb hT ku_6 hown hK hP 53 rfl rfl 9 (by decide) (hT _ kw_29_0) (fun _ h9 => h9) rfl dX7_help_49 ?_
          refine lv_iload_n hx hb dX7_help_52 rfl (lv_at hl 1 rfl) ?_
          refine lv_iload_n hx hb dX7_help_53 rfl (lv_at hl 2 rfl) ?_
          refine va_iast (i := x1) hx hb hK hP hD hS 55 0 rfl rfl (tx_in g7) dX7_help_54 (fun H locs hP hD hS => ?_)
          obtain ⟨Tn_12, eTn_12, h⟩ := tx_lt h
          rw [sX_na_a9, eTn_12] at hP hD
          refine lv_iconst (v := 1) hx hb dX7_help_55 (by decide) ?_
          obtain ⟨rfl, rfl, rfl⟩ := tx_3 h
          exact W.zret (ty := .boolean) hx hb hr rfl (fun t ht hW => ⟨⟨_, (), rfl, rfl, by rw [ht]; exact hP, hD⟩, hS.F ht⟩) hS.2.2 dX7_help_56
        · have h := tx_pos c8 h
          refine lv_iconst (v := 0) hx hb dX7_help_32 (by decide) ?_
          obtain ⟨rfl, rfl, rfl⟩ := tx_3 h
          exact W.zret (ty := .boolean) hx hb hr rfl (fun t ht hW => ⟨⟨_, (), rfl, rfl, by rw [ht]; exact hP, hD⟩, hS.F ht⟩) hS.2.2 dX7_help_33
abbrev G_X7_isPlace (p : Program) (l : Launch) (e : Env) (s : State) (m : MethodId) (below : List Frame) (meth : Method) (c : Code) (G : va_G) (cA : Nat → ClassId) (A : Nat → Prop) (xa : Nat → Nat) (ka : Nat → Nat) (ra : Nat → Nat) (na : Nat → Nat) (ia : Nat → Nat) (ua : Nat → Nat) (va : Nat → Nat) (ca : Nat → Nat) (za : Nat → Nat) (pa : Nat → Nat) (qa : Nat → Nat) (X : Tr) (K : Tr) (R : Tr) (P : Tr) (L : Lo) (P2 : Tr) (L2 : Lo) (Tn : Tr) (Ti : Tr) (Tu : Tr) (Tv : Tr) (C : Tr) (Z : Tr) (q0 : Nat) (q1 : Nat) (q2 : Nat) (q3 : Nat) (q4 : Nat) (q5 : Nat) (x1 : Int32) (r0 : Int32) (H : Heap) (locs : List Loc) (g : JFrame) : Prop := W p l e (headSpec (.code yX7_isPlace cX7_isPlace 2 (some .boolean) :: T0) ({ frames := 0, cells := 0, slots := 0, locals := 0 } : Room)).room s m ([.ref (xa 0), .int x1] : List Value).toArray below meth c H locs 0 0 (MQ below (tqQi G cA (fun (r : Int32) (_ : Unit) => r = r0) (fun (_ : Unit) => wX cA xa ka ra na ia ua va ca za pa qa X K R P L P2 L2 Tn Ti Tu Tv C Z q0 q1 q2 q3 q4 q5) A) ([.ref (xa 0), .int x1] : List Value).toArray s 0 0 A) g
set_option maxHeartbeats 4000000 in
set_option maxRecDepth 100000 in
theorem c_X7_isPlace (l : Launch) (G : va_G) (cA : Nat → ClassId) (sz : Nat) (xa : Nat → Nat) (ka : Nat → Nat) (ra : Nat → Nat) (na : Nat → Nat) (ia : Nat → Nat) (ua : Nat → Nat) (va : Nat → Nat) (ca : Nat → Nat) (za : Nat → Nat) (pa : Nat → Nat) (qa : Nat → Nat) (X : Tr) (K : Tr) (R : Tr) (P : Tr) (L : Lo) (P2 : Tr) (L2 : Lo) (Tn : Tr) (Ti : Tr) (Tu : Tr) (Tv : Tr) (C : Tr) (Z : Tr) (q0 : Nat) (q1 : Nat) (q2 : Nat) (q3 : Nat) (q4 : Nat) (q5 : Nat) (x1 : Int32)  (r0 : Int32) (h : f_X7_isPlace pa qa P q4 x1 = some r0) : Met l yX7_isPlace (.code yX7_isPlace cX7_isPlace 2 (some .boolean) :: T0) ({ frames := 0, cells := 0, slots := 0, locals := 0 } : Room) (tqP G cA [.ref (xa 0), .int x1] (wX cA xa ka ra na ia ua va ca za pa qa X K R P L P2 L2 Tn Ti Tu Tv C Z q0 q1 q2 q3 q4 q5) sz) (tqQi G cA (fun (r : Int32) (_ : Unit) => r = r0) (fun (_ : Unit) => wX cA xa ka ra na ia ua va ca za pa qa X K R P L P2 L2 Tn Ti Tu Tv C Z q0 q1 q2 q3 q4 q5) (va_A (wX cA xa ka ra na ia ua va ca za pa qa X K R P L P2 L2 Tn Ti Tu Tv C Z q0 q1 q2 q3 q4 q5) sz)) 0 0 (va_A (wX cA xa ka ra na ia ua va ca za pa qa X K R P L P2 L2 Tn Ti Tu Tv C Z q0 q1 q2 q3 q4 q5) sz) := by
  refine Met.ofW (cc := cX7_isPlace) (maxL := 2) (ret := (some .boolean)) (by decide) rfl ?_
  intro p e s m args below meth c s₁ B hml hv
  obtain ⟨rfl, hsz, hP, hK, hD0, hN⟩ := hv
  have hx := B.exec
  have hb := B.bytes
  have hr := B.returns
  have hts := atoms_spec (ws := .code yX7_isPlace cX7_isPlace 2 (some .boolean) :: T0) B.pre
  have hT : ∀ w ∈ T0, w.before _ s = true := fun w h => hts w (List.mem_cons_of_mem _ h)
  have hown : s.vm.findClass RX7 = some m.cls := findClass_of_methodNamed B.named
  have hlocks := B.notSynchronized
  subst hsz
  have hD := hD0.self (sz := s.heap.size)
  generalize hAe : va_A (wX cA xa ka ra na ia ua va ca za pa qa X K R P L P2 L2 Tn Ti Tu Tv C Z q0 q1 q2 q3 q4 q5) s.heap.size = A at hD ⊢
  have hA : ∀ q : Nat, s.heap.size ≤ q → A q := fun q h => by rw [← hAe]; exact Or.inr h
  have hS : va_S A s.heap s.heap [] := va_S.rf
  have hl := lv_entry ([.ref (xa 0), .int x1]) (n := 2) (Nat.le_of_ble_eq_true rfl)
  rw [lg_entry_eq]
  generalize (lg_sl ([.ref (xa 0), .int x1]) ++ List.replicate (2 - (lg_sl ([.ref (xa 0), .int x1])).length) Slot.unset).toArray = ls at hl ⊢
  have hl : lv_has ls 2 [(0, .ref (xa 0)), (1, .int x1)] := hl
  have F : tF p s m ([.ref (xa 0), .int x1] : List Value).toArray meth c G cA A RX7 cX7_isPlace 2 (some .boolean) := ⟨hx, hb, hr, hml, hT, hown, hlocks, hK, hN, hA⟩
  obtain ⟨H, hH⟩ : ∃ z, z = s.heap := ⟨_, rfl⟩
  rw [← hH] at hP
  have hS : va_S A s.heap H [] := by rw [hH]; exact hS
  suffices hgo : G_X7_isPlace p l e s m below meth c G cA A xa ka ra na ia ua va ca za pa qa X K R P L P2 L2 Tn Ti Tu Tv C Z q0 q1 q2 q3 q4 q5 x1 r0 H [] (F0 m 0 ls []) by rw [hH] at hgo; exact hgo
  generalize ([] : List Loc) = locs at hS ⊢
  unfold f_X7_isPlace at h
  refine lv_iload_n hx hb dX7_isPlace_0 rfl (lv_at hl 1 rfl) ?_
  refine lv_if_lt (tgt := 19) hx hb dX7_isPlace_1 (by decide) (fun c1 => ?_) (fun c1 => ?_)
  · have h := tx_pos c1 h
    refine lv_iconst (v := 0) hx hb dX7_isPlace_19 (by decide) ?_
    obtain rfl := tx_1 h
    exact W.zret (ty := .boolean) hx hb hr rfl (fun t ht hW => ⟨⟨_, (), rfl, rfl, by rw [ht]; exact hP, hD⟩, hS.F ht⟩) hS.2.2 dX7_isPlace_20
  · have h := tx_neg c1 h
    refine lv_iload_n hx hb dX7_isPlace_4 rfl (lv_at hl 1 rfl) ?_
    refine lv_aload_n hx hb dX7_isPlace_5 rfl (lv_at hl 0 rfl) ?_
    refine va_get (D := G) (ci := 7) (v := .ref q4) (C := RX7) (T := TX7) (N := 12) hx hb hT ku_7 hown hK hP 0 rfl rfl 1 (by decide) (hT _ kw_1_20) (fun _ h9 => h9) rfl dX7_isPlace_6 ?_
    obtain ⟨g2, h⟩ := tx_ck h
    have eg2 := of_decide_eq_true g2
    subst eg2
    refine va_get (D := G) (ci := 2) (v := .int (P 0 0)) (C := RX2) (T := TX2) (N := 19) hx hb hT ku_2 hown hK hP 9 rfl rfl 0 (by decide) (hT _ kw_32_2) (fun _ h9 => h9) rfl dX7_isPlace_9 ?_
    refine lv_icmp_ge (tgt := 19) hx hb dX7_isPlace_12 (by decide) (fun c3 => ?_) (fun c3 => ?_)
    · have h := tx_pos c3 h
      refine lv_iconst (v := 0) hx hb dX7_isPlace_19 (by decide) ?_
      obtain rfl := tx_1 h
      exact W.zret (ty := .boolean) hx hb hr rfl (fun t ht hW => ⟨⟨_, (), rfl, rfl, by rw [ht]; exact hP, hD⟩, hS.F ht⟩) hS.2.2 dX7_isPlace_20
    · have h := tx_neg c3 h
      refine lv_iconst (v := 1) hx hb dX7_isPlace_15 (by decide) ?_
      refine lv_goto (tgt := 20) hx hb dX7_isPlace_16 (by decide) ?_
      obtain rfl := tx_1 h
      exact W.zret (ty := .boolean) hx hb hr rfl (fun t ht hW => ⟨⟨_, (), rfl, rfl, by rw [ht]; exact hP, hD⟩, hS.F ht⟩) hS.2.2 dX7_isPlace_20
abbrev G_X7_isRest (p : Program) (l : Launch) (e : Env) (s : State) (m : MethodId) (below : List Frame) (meth : Method) (c : Code) (G : va_G) (cA : Nat → ClassId) (A : Nat → Prop) (xa : Nat → Nat) (ka : Nat → Nat) (ra : Nat → Nat) (na : Nat → Nat) (ia : Nat → Nat) (ua : Nat → Nat) (va : Nat → Nat) (ca : Nat → Nat) (za : Nat → Nat) (pa : Nat → Nat) (qa : Nat → Nat) (X : Tr) (K : Tr) (R : Tr) (P : Tr) (L : Lo) (P2 : Tr) (L2 : Lo) (Tn : Tr) (Ti : Tr) (Tu : Tr) (Tv : Tr) (C : Tr) (Z : Tr) (q0 : Nat) (q1 : Nat) (q2 : Nat) (q3 : Nat) (q4 : Nat) (q5 : Nat) (x1 : Int32) (r0 : Int32) (H : Heap) (locs : List Loc) (g : JFrame) : Prop := W p l e (headSpec (.code yX7_isRest cX7_isRest 5 (some .boolean) :: T0) ({ frames := 0, cells := 0, slots := 0, locals := 0 } : Room)).room s m ([.ref (xa 0), .int x1] : List Value).toArray below meth c H locs 0 0 (MQ below (tqQi G cA (fun (r : Int32) (_ : Unit) => r = r0) (fun (_ : Unit) => wX cA xa ka ra na ia ua va ca za pa qa X K R P L P2 L2 Tn Ti Tu Tv C Z q0 q1 q2 q3 q4 q5) A) ([.ref (xa 0), .int x1] : List Value).toArray s 0 0 A) g
set_option maxHeartbeats 4000000 in
set_option maxRecDepth 100000 in
theorem w_X7_isRest_L35 {p : Program} {l : Launch} {e : Env} {s : State} {m : MethodId} {below : List Frame} {meth : Method} {c : Code} {G : va_G} {cA : Nat → ClassId} {A : Nat → Prop} {xa : Nat → Nat} {ka : Nat → Nat} {ra : Nat → Nat} {na : Nat → Nat} {ia : Nat → Nat} {ua : Nat → Nat} {va : Nat → Nat} {ca : Nat → Nat} {za : Nat → Nat} {pa : Nat → Nat} {qa : Nat → Nat} {X : Tr} {K : Tr} {R : Tr} {P : Tr} {L : Lo} {P2 : Tr} {L2 : Lo} {Tn : Tr} {Ti : Tr} {Tu : Tr} {Tv : Tr} {C : Tr} {Z : Tr} {q0 : Nat} {q1 : Nat} {q2 : Nat} {q3 : Nat} {q4 : Nat} {q5 : Nat} {x1₀ : Int32} {r0 : Int32} {x1 : Int32} {x2 : Int32} {x3 : Int32} (F : tF p s m ([.ref (xa 0), .int x1₀] : List Value).toArray meth c G cA A RX7 cX7_isRest 5 (some .boolean))    (N : Nat) : ∀ (x4 : Int32) (H : Heap) (locs : List Loc) (ls : Array Slot), lpF (fun _ => none) (fB_X7_isRest_L35 pa qa X P q4 x1 x2 x3) N x4 = some r0 → va_P G vwCl (wX cA xa ka ra na ia ua va ca za pa qa X K R P L P2 L2 Tn Ti Tu Tv C Z q0 q1 q2 q3 (pa 0) q5) H → va_D A (wX cA xa ka ra na ia ua va ca za pa qa X K R P L P2 L2 Tn Ti Tu Tv C Z q0 q1 q2 q3 (pa 0) q5) → va_S A s.heap H locs → lv_has ls 5 [(0, .ref (xa 0)), (1, .int x1), (2, .int x2), (3, .int x3), (4, .int x4)] → G_X7_isRest p l e s m below meth c G cA A xa ka ra na ia ua va ca za pa qa X K R P L P2 L2 Tn Ti Tu Tv C Z q0 q1 q2 q3 q4 q5 x1₀ r0 H locs (F0 m 35 ls []) := by
  obtain ⟨hx, hb, hr, hml, hT, hown, hlocks, hK, hN, hA⟩ := id F
  induction N with
  | zero =>
    intro x4 H locs ls h
    have h : (none : Option (Int32)) = some r0 := h
    cases h
  | succ N hk35 =>
    intro x4 H locs ls h hP hD hS hl
    have h : fB_X7_isRest_L35 pa qa X P q4 x1 x2 x3 (lpF (fun _ => none) (fB_X7_isRest_L35 pa qa X P q4 x1 x2 x3) N) x4 = some r0 := h
    generalize hk35e : lpF (fun _ => none) (fB_X7_isRest_L35 pa qa X P q4 x1 x2 x3) N = k35 at h hk35
    unfold fB_X7_isRest_L35 at h
    refine lv_iload hx hb dX7_isRest_35 (lv_at hl 4 rfl) ?_
    refine lv_aload_n hx hb dX7_isRest_37 rfl (lv_at hl 0 rfl) ?_
    refine va_get (D := G) (ci := 7) (v := .ref q4) (C := RX7) (T := TX7) (N := 12) hx hb hT ku_7 hown hK hP 0 rfl rfl 1 (by decide) (hT _ kw_1_20) (fun _ h9 => h9) rfl dX7_isRest_38 ?_
    obtain ⟨g6, h⟩ := tx_ck h
    have eg6 := of_decide_eq_true g6
    subst eg6
    refine va_get (D := G) (ci := 2) (v := .int (P 0 0)) (C := RX2) (T := TX2) (N := 19) hx hb hT ku_2 hown hK hP 9 rfl rfl 0 (by decide) (hT _ kw_32_2) (fun _ h9 => h9) rfl dX7_isRest_41 ?_
    refine lv_icmp_ge (tgt := 95) hx hb dX7_isRest_44 (by decide) (fun c7 => ?_) (fun c7 => ?_)
    · have h := tx_pos c7 h
      refine lv_iconst (v := 1) hx hb dX7_isRest_95 (by decide) ?_
      obtain rfl := tx_1 h
      exact W.zret (ty := .boolean) hx hb hr rfl (fun t ht hW => ⟨⟨_, (), rfl, rfl, by rw [ht]; exact hP, hD⟩, hS.F ht⟩) hS.2.2 dX7_isRest_96
    · have h := tx_neg c7 h
      refine lv_aload_n hx hb dX7_isRest_47 rfl (lv_at hl 0 rfl) ?_
      refine va_get (D := G) (ci := 7) (v := .ref (xa 11)) (C := RX7) (T := TX7) (N := 12) hx hb hT ku_7 hown hK hP 0 rfl rfl 10 (by decide) (hT _ kw_2_15) (fun _ h9 => h9) rfl dX7_isRest_48 ?_
      refine lv_iload hx hb dX7_isRest_51 (lv_at hl 4 rfl) ?_
      refine lv_iconst (v := 5) hx hb dX7_isRest_53 (by decide) ?_
      refine lv_imul hx hb dX7_isRest_54 ?_
      refine lv_iload_n hx hb dX7_isRest_55 rfl (lv_at hl 3 rfl) ?_
      refine lv_iadd hx hb dX7_isRest_56 ?_
      obtain ⟨g8, h⟩ := tx_ck h
      refine va_iald (i := ((x4 * 5) + x3)) hx hb hK hP 2 0 rfl rfl (tx_in g8) dX7_isRest_57 ?_
      refine lv_aload_n hx hb dX7_isRest_58 rfl (lv_at hl 0 rfl) ?_
      refine va_get (D := G) (ci := 7) (v := .ref (xa 11)) (C := RX7) (T := TX7) (N := 12) hx hb hT ku_7 hown hK hP 0 rfl rfl 10 (by decide) (hT _ kw_2_15) (fun _ h9 => h9) rfl dX7_isRest_59 ?_
      refine lv_iload_n hx hb dX7_isRest_62 rfl (lv_at hl 1 rfl) ?_
      obtain ⟨g9, h⟩ := tx_ck h
      refine va_iald (i := x1) hx hb hK hP 2 0 rfl rfl (tx_in g9) dX7_isRest_63 ?_
      refine lv_icmp_lt (tgt := 87) hx hb dX7_isRest_64 (by decide) (fun c10 => ?_) (fun c10 => ?_)
      · have h := tx_pos c10 h
        refine lv_iconst (v := 0) hx hb dX7_isRest_87 (by decide) ?_
        obtain rfl := tx_1 h
        exact W.zret (ty := .boolean) hx hb hr rfl (fun t ht hW => ⟨⟨_, (), rfl, rfl, by rw [ht]; exact hP, hD⟩, hS.F ht⟩) hS.2.2 dX7_isRest_88
      · have h := tx_neg c10 h
        refine lv_aload_n hx hb dX7_isRest_67 rfl (lv_at hl 0 rfl) ?_
        refine va_get (D := G) (ci := 7) (v := .ref (xa 12)) (C := RX7) (T := TX7) (N := 12) hx hb hT ku_7 hown hK hP 0 rfl rfl 11 (by decide) (hT _ kw_2_16) (fun _ h9 => h9) rfl dX7_isRest_68 ?_
        refine lv_iload_n hx hb dX7_isRest_71 rfl (lv_at hl 2 rfl) ?_
        refine lv_iconst (v := 5) hx hb dX7_isRest_72 (by decide) ?_
        refine lv_imul hx hb dX7_isRest_73 ?_
        refine lv_iload hx hb dX7_isRest_74 (lv_at hl 4 rfl) ?_
        refine lv_iadd hx hb dX7_isRest_76 ?_
        obtain ⟨g11, h⟩ := tx_ck h
        refine va_iald (i := ((x2 * 5) + x4)) hx hb hK hP 3 0 rfl rfl (tx_in g11) dX7_isRest_77 ?_
        refine lv_aload_n hx hb dX7_isRest_78 rfl (lv_at hl 0 rfl) ?_
        refine va_get (D := G) (ci := 7) (v := .ref (xa 12)) (C := RX7) (T := TX7) (N := 12) hx hb hT ku_7 hown hK hP 0 rfl rfl 11 (by decide) (hT _ kw_2_16) (fun _ h9 => h9) rfl dX7_isRest_79 ?_
        refine lv_iload_n hx hb dX7_isRest_82 rfl (lv_at hl 1 rfl) ?_
        refine va_iald (i := x1) hx hb hK hP 3 0 rfl rfl (tx_in g9) dX7_isRest_83 ?_
        refine lv_icmp_ge (tgt := 89) hx hb dX7_isRest_84 (by decide) (fun c12 => ?_) (fun c12 => ?_)
        · have h := tx_pos c12 h
          obtain ⟨y13, ey13, h⟩ := tx_lt h
          refine lv_iinc (v := y13) (lv' := [(4, .int y13), (0, .ref (xa 0)), (1, .int x1), (2, .int x2), (3, .int x3)]) hx hb dX7_isRest_89 hl (k := 4) rfl ey13 (by decide) rfl (fun ls hl => ?_)
          refine lv_goto (tgt := 35) hx hb dX7_isRest_92 (by decide) ?_
          exact hk35 y13 H locs ls h hP hD hS (lv_sub hl [1, 2, 3, 4, 0] rfl)
        · have h := tx_neg c12 h
          refine lv_iconst (v := 0) hx hb dX7_isRest_87 (by decide) ?_
          obtain rfl := tx_1 h
          exact W.zret (ty := .boolean) hx hb hr rfl (fun t ht hW => ⟨⟨_, (), rfl, rfl, by rw [ht]; exact hP, hD⟩, hS.F ht⟩) hS.2.2 dX7_isRest_88
set_option maxHeartbeats 4000000 in
set_option maxRecDepth 100000 in
theorem c_X7_isRest (l : Launch) (G : va_G) (cA : Nat → ClassId) (sz : Nat) (xa : Nat → Nat) (ka : Nat → Nat) (ra : Nat → Nat) (na : Nat → Nat) (ia : Nat → Nat) (ua : Nat → Nat) (va : Nat → Nat) (ca : Nat → Nat) (za : Nat → Nat) (pa : Nat → Nat) (qa : Nat → Nat) (X : Tr) (K : Tr) (R : Tr) (P : Tr) (L : Lo) (P2 : Tr) (L2 : Lo) (Tn : Tr) (Ti : Tr) (Tu : Tr) (Tv : Tr) (C : Tr) (Z : Tr) (q0 : Nat) (q1 : Nat) (q2 : Nat) (q3 : Nat) (q4 : Nat) (q5 : Nat) (x1 : Int32)  (r0 : Int32) (h : f_X7_isRest pa qa X P q4 x1 = some r0) : Met l yX7_isRest (.code yX7_isRest cX7_isRest 5 (some .boolean) :: T0) ({ frames := 0, cells := 0, slots := 0, locals := 0 } : Room) (tqP G cA [.ref (xa 0), .int x1] (wX cA xa ka ra na ia ua va ca za pa qa X K R P L P2 L2 Tn Ti Tu Tv C Z q0 q1 q2 q3 q4 q5) sz) (tqQi G cA (fun (r : Int32) (_ : Unit) => r = r0) (fun (_ : Unit) => wX cA xa ka ra na ia ua va ca za pa qa X K R P L P2 L2 Tn Ti Tu Tv C Z q0 q1 q2 q3 q4 q5) (va_A (wX cA xa ka ra na ia ua va ca za pa qa X K R P L P2 L2 Tn Ti Tu Tv C Z q0 q1 q2 q3 q4 q5) sz)) 0 0 (va_A (wX cA xa ka ra na ia ua va ca za pa qa X K R P L P2 L2 Tn Ti Tu Tv C Z q0 q1 q2 q3 q4 q5) sz) := by
  refine Met.ofW (cc := cX7_isRest) (maxL := 5) (ret := (some .boolean)) (by decide) rfl ?_
  intro p e s m args below meth c s₁ B hml hv
  obtain ⟨rfl, hsz, hP, hK, hD0, hN⟩ := hv
  have hx := B.exec
  have hb := B.bytes
  have hr := B.returns
  have hts := atoms_spec (ws := .code yX7_isRest cX7_isRest 5 (some .boolean) :: T0) B.pre
  have hT : ∀ w ∈ T0, w.before _ s = true := fun w h => hts w (List.mem_cons_of_mem _ h)
  have hown : s.vm.findClass RX7 = some m.cls := findClass_of_methodNamed B.named
  have hlocks := B.notSynchronized
  subst hsz
  have hD := hD0.self (sz := s.heap.size)
  generalize hAe : va_A (wX cA xa ka ra na ia ua va ca za pa qa X K R P L P2 L2 Tn Ti Tu Tv C Z q0 q1 q2 q3 q4 q5) s.heap.size = A at hD ⊢
  have hA : ∀ q : Nat, s.heap.size ≤ q → A q := fun q h => by rw [← hAe]; exact Or.inr h
  have hS : va_S A s.heap s.heap [] := va_S.rf
  have hl := lv_entry ([.ref (xa 0), .int x1]) (n := 5) (Nat.le_of_ble_eq_true rfl)
  rw [lg_entry_eq]
  generalize (lg_sl ([.ref (xa 0), .int x1]) ++ List.replicate (5 - (lg_sl ([.ref (xa 0), .int x1])).length) Slot.unset).toArray = ls at hl ⊢
  have hl : lv_has ls 5 [(0, .ref (xa 0)), (1, .int x1)] := hl
  have F : tF p s m ([.ref (xa 0), .int x1] : List Value).toArray meth c G cA A RX7 cX7_isRest 5 (some .boolean) := ⟨hx, hb, hr, hml, hT, hown, hlocks, hK, hN, hA⟩
  obtain ⟨H, hH⟩ : ∃ z, z = s.heap := ⟨_, rfl⟩
  rw [← hH] at hP
  have hS : va_S A s.heap H [] := by rw [hH]; exact hS
  suffices hgo : G_X7_isRest p l e s m below meth c G cA A xa ka ra na ia ua va ca za pa qa X K R P L P2 L2 Tn Ti Tu Tv C Z q0 q1 q2 q3 q4 q5 x1 r0 H [] (F0 m 0 ls []) by rw [hH] at hgo; exact hgo
  generalize ([] : List Loc) = locs at hS ⊢
  unfold f_X7_isRest at h
  refine lv_iload_n hx hb dX7_isRest_0 rfl (lv_at hl 1 rfl) ?_
  refine lv_iconst (v := 5) hx hb dX7_isRest_1 (by decide) ?_
  refine lv_idiv hx hb dX7_isRest_2 (by decide) ?_
  refine lv_topi (fun y1 ey1 => ?_)
  have h := tx_let ey1 h
  refine lv_istore_n (lv' := [(2, .int y1), (0, .ref (xa 0)), (1, .int x1)]) hx hb dX7_isRest_3 rfl hl (by decide) rfl (fun ls hl => ?_)
  refine lv_iload_n hx hb dX7_isRest_4 rfl (lv_at hl 2 rfl) ?_
  refine lv_iconst (v := 5) hx hb dX7_isRest_5 (by decide) ?_
  refine lv_irem hx hb dX7_isRest_6 (by decide) ?_
  refine lv_topi (fun y2 ey2 => ?_)
  have h := tx_let ey2 h
  refine lv_istore_n (lv' := [(3, .int y2), (2, .int y1), (0, .ref (xa 0)), (1, .int x1)]) hx hb dX7_isRest_7 rfl hl (by decide) rfl (fun ls hl => ?_)
  refine lv_iload_n hx hb dX7_isRest_8 rfl (lv_at hl 1 rfl) ?_
  refine lv_aload_n hx hb dX7_isRest_9 rfl (lv_at hl 2 rfl) ?_
  refine va_get (D := G) (ci := 7) (v := .ref q4) (C := RX7) (T := TX7) (N := 12) hx hb hT ku_7 hown hK hP 0 rfl rfl 1 (by decide) (hT _ kw_1_20) (fun _ h9 => h9) rfl dX7_isRest_10 ?_
  obtain ⟨g3, h⟩ := tx_ck h
  have eg3 := of_decide_eq_true g3
  subst eg3
  refine va_get (D := G) (ci := 2) (v := .int (P 0 0)) (C := RX2) (T := TX2) (N := 19) hx hb hT ku_2 hown hK hP 9 rfl rfl 0 (by decide) (hT _ kw_32_2) (fun _ h9 => h9) rfl dX7_isRest_13 ?_
  refine lv_icmp_ge (tgt := 30) hx hb dX7_isRest_16 (by decide) (fun c4 => ?_) (fun c4 => ?_)
  · have h := tx_pos c4 h
    refine lv_iconst (v := 0) hx hb dX7_isRest_30 (by decide) ?_
    obtain rfl := tx_1 h
    exact W.zret (ty := .boolean) hx hb hr rfl (fun t ht hW => ⟨⟨_, (), rfl, rfl, by rw [ht]; exact hP, hD⟩, hS.F ht⟩) hS.2.2 dX7_isRest_31
  · have h := tx_neg c4 h
    refine lv_iload_n hx hb dX7_isRest_19 rfl (lv_at hl 0 rfl) ?_
    refine lv_aload_n hx hb dX7_isRest_20 rfl (lv_at hl 2 rfl) ?_
    refine va_get (D := G) (ci := 7) (v := .ref (pa 0)) (C := RX7) (T := TX7) (N := 12) hx hb hT ku_7 hown hK hP 0 rfl rfl 1 (by decide) (hT _ kw_1_20) (fun _ h9 => h9) rfl dX7_isRest_21 ?_
    refine va_get (D := G) (ci := 2) (v := .int (P 0 0)) (C := RX2) (T := TX2) (N := 19) hx hb hT ku_2 hown hK hP 9 rfl rfl 0 (by decide) (hT _ kw_32_2) (fun _ h9 => h9) rfl dX7_isRest_24 ?_
    refine lv_icmp_lt (tgt := 32) hx hb dX7_isRest_27 (by decide) (fun c5 => ?_) (fun c5 => ?_)
    · have h := tx_pos c5 h
      refine lv_iconst (v := 0) hx hb dX7_isRest_32 (by decide) ?_
      refine lv_istore (lv' := [(4, .int 0), (3, .int y2), (2, .int y1), (0, .ref (xa 0)), (1, .int x1)]) hx hb dX7_isRest_33 hl (by decide) rfl (fun ls hl => ?_)
      exact w_X7_isRest_L35 F 2000 0 H locs ls h hP hD hS (lv_sub hl [3, 4, 2, 1, 0] rfl)
    · have h := tx_neg c5 h
      refine lv_iconst (v := 0) hx hb dX7_isRest_30 (by decide) ?_
      obtain rfl := tx_1 h
      exact W.zret (ty := .boolean) hx hb hr rfl (fun t ht hW => ⟨⟨_, (), rfl, rfl, by rw [ht]; exact hP, hD⟩, hS.F ht⟩) hS.2.2 dX7_isRest_31
abbrev G_X7_keep (p : Program) (l : Launch) (e : Env) (s : State) (m : MethodId) (below : List Frame) (meth : Method) (c : Code) (G : va_G) (cA : Nat → ClassId) (A : Nat → Prop) (xa : Nat → Nat) (ka : Nat → Nat) (ra : Nat → Nat) (na : Nat → Nat) (ia : Nat → Nat) (ua : Nat → Nat) (va : Nat → Nat) (ca : Nat → Nat) (za : Nat → Nat) (pa : Nat → Nat) (qa : Nat → Nat) (K : Tr) (R : Tr) (P : Tr) (L : Lo) (P2 : Tr) (L2 : Lo) (Tn : Tr) (Tu : Tr) (Tv : Tr) (C : Tr) (Z : Tr) (q0 : Nat) (q2 : Nat) (q3 : Nat) (q4 : Nat) (q5 : Nat) (r0 : Int32) (X' : Tr) (Ti' : Tr) (q1' : Nat) (H : Heap) (locs : List Loc) (g : JFrame) : Prop := W p l e (headSpec (.code yX7_keep cX7_keep 1 (some .int) :: T0) ({ frames := 2, cells := 0, slots := 0, locals := 61 } : Room)).room s m ([.ref (xa 0)] : List Value).toArray below meth c H locs 0 0 (MQ below (tqQi G cA (fun (r : Int32) (_ : Unit) => r = r0) (fun (_ : Unit) => wX cA xa ka ra na ia ua va ca za pa qa (X') K R P L P2 L2 Tn (Ti') Tu Tv C Z q0 (q1') q2 q3 q4 q5) A) ([.ref (xa 0)] : List Value).toArray s 0 0 A) g
set_option maxHeartbeats 4000000 in
set_option maxRecDepth 100000 in
theorem c_X7_keep (l : Launch) (G : va_G) (cA : Nat → ClassId) (sz : Nat) (xa : Nat → Nat) (ka : Nat → Nat) (ra : Nat → Nat) (na : Nat → Nat) (ia : Nat → Nat) (ua : Nat → Nat) (va : Nat → Nat) (ca : Nat → Nat) (za : Nat → Nat) (pa : Nat → Nat) (qa : Nat → Nat) (X : Tr) (K : Tr) (R : Tr) (P : Tr) (L : Lo) (P2 : Tr) (L2 : Lo) (Tn : Tr) (Ti : Tr) (Tu : Tr) (Tv : Tr) (C : Tr) (Z : Tr) (q0 : Nat) (q1 : Nat) (q2 : Nat) (q3 : Nat) (q4 : Nat) (q5 : Nat)  (r0 : Int32) (X' : Tr) (Ti' : Tr) (q1' : Nat) (h : f_X7_keep pa qa X Tn Ti q0 q1 = some (r0, X', Ti', q1')) : Met l yX7_keep (.code yX7_keep cX7_keep 1 (some .int) :: T0) ({ frames := 2, cells := 0, slots := 0, locals := 61 } : Room) (tqP G cA [.ref (xa 0)] (wX cA xa ka ra na ia ua va ca za pa qa X K R P L P2 L2 Tn Ti Tu Tv C Z q0 q1 q2 q3 q4 q5) sz) (tqQi G cA (fun (r : Int32) (_ : Unit) => r = r0) (fun (_ : Unit) => wX cA xa ka ra na ia ua va ca za pa qa (X') K R P L P2 L2 Tn (Ti') Tu Tv C Z q0 (q1') q2 q3 q4 q5) (va_A (wX cA xa ka ra na ia ua va ca za pa qa X K R P L P2 L2 Tn Ti Tu Tv C Z q0 q1 q2 q3 q4 q5) sz)) 0 0 (va_A (wX cA xa ka ra na ia ua va ca za pa qa X K R P L P2 L2 Tn Ti Tu Tv C Z q0 q1 q2 q3 q4 q5) sz) := by
  refine Met.ofW (cc := cX7_keep) (maxL := 1) (ret := (some .int)) (by decide) rfl ?_
  intro p e s m args below meth c s₁ B hml hv
  obtain ⟨rfl, hsz, hP, hK, hD0, hN⟩ := hv
  have hx := B.exec
  have hb := B.bytes
  have hr := B.returns
  have hts := atoms_spec (ws := .code yX7_keep cX7_keep 1 (some .int) :: T0) B.pre
  have hT : ∀ w ∈ T0, w.before _ s = true := fun w h => hts w (List.mem_cons_of_mem _ h)
  have hown : s.vm.findClass RX7 = some m.cls := findClass_of_methodNamed B.named
  have hlocks := B.notSynchronized
  subst hsz
  have hD := hD0.self (sz := s.heap.size)
  generalize hAe : va_A (wX cA xa ka ra na ia ua va ca za pa qa X K R P L P2 L2 Tn Ti Tu Tv C Z q0 q1 q2 q3 q4 q5) s.heap.size = A at hD ⊢
  have hA : ∀ q : Nat, s.heap.size ≤ q → A q := fun q h => by rw [← hAe]; exact Or.inr h
  have hS : va_S A s.heap s.heap [] := va_S.rf
  have hl := lv_entry ([.ref (xa 0)]) (n := 1) (Nat.le_of_ble_eq_true rfl)
  rw [lg_entry_eq]
  generalize (lg_sl ([.ref (xa 0)]) ++ List.replicate (1 - (lg_sl ([.ref (xa 0)])).length) Slot.unset).toArray = ls at hl ⊢
  have hl : lv_has ls 1 [(0, .ref (xa 0))] := hl
  have F : tF p s m ([.ref (xa 0)] : List Value).toArray meth c G cA A RX7 cX7_keep 1 (some .int) := ⟨hx, hb, hr, hml, hT, hown, hlocks, hK, hN, hA⟩
  obtain ⟨H, hH⟩ : ∃ z, z = s.heap := ⟨_, rfl⟩
  rw [← hH] at hP
  have hS : va_S A s.heap H [] := by rw [hH]; exact hS
  suffices hgo : G_X7_keep p l e s m below meth c G cA A xa ka ra na ia ua va ca za pa qa K R P L P2 L2 Tn Tu Tv C Z q0 q2 q3 q4 q5 r0 X' Ti' q1' H [] (F0 m 0 ls []) by rw [hH] at hgo; exact hgo
  generalize ([] : List Loc) = locs at hS ⊢
  unfold f_X7_keep at h
  refine lv_aload_n hx hb dX7_keep_0 rfl (lv_at hl 0 rfl) ?_
  refine va_get (D := G) (ci := 7) (v := .ref (ia 0)) (C := RX7) (T := TX7) (N := 12) hx hb hT ku_7 hown hK hP 0 rfl rfl 3 (by decide) (hT _ kw_2_1) (fun _ h9 => h9) rfl dX7_keep_1 ?_
  refine lv_aload_n hx hb dX7_keep_4 rfl (lv_at hl 0 rfl) ?_
  refine va_get (D := G) (ci := 7) (v := .ref (na 0)) (C := RX7) (T := TX7) (N := 12) hx hb hT ku_7 hown hK hP 0 rfl rfl 2 (by decide) (hT _ kw_2_0) (fun _ h9 => h9) rfl dX7_keep_5 ?_
  obtain ⟨⟨Ti_1, q1_2⟩, hc3, h⟩ := tx_bd h
  replace h := tx_let (y := Ti_1) rfl h
  replace h := tx_let (y := q1_2) rfl h
  refine tw_cv pX_ia_na hP hD hS hA (va_runV (As := [.ref (na 0)]) (rest := []) ⟨hx, hb, hml, hown, hT⟩ (c_X6_copy l G cA H.size ia na Ti Tn q1 q0  Ti_1 q1_2 hc3) (cwV 1 hT (tq_gV kw_38_6 kw_38_7 kw_38_8 kw_1_23 kw_38_9) rfl rfl rfl (by decide +kernel) ⟨Nat.le_of_ble_eq_true rfl, Nat.le_of_ble_eq_true rfl⟩) ⟨(tw_pre pX_ia_na hP hD hK hN).1, va_recv hK hP (ci := 6) (q0 := 65) rfl rfl, (tw_pre pX_ia_na hP hD hK hN).2⟩ rfl rfl hl.1 rfl (lv_room (Nat.le_of_ble_eq_true rfl)) dX7_keep_8 ⟨Nat.le_of_ble_eq_true rfl, Nat.le_of_ble_eq_true rfl⟩) (fun _ H locs z4 hP hD hS => ?_)
  replace hP := tw_P pX_ia_na.symm hP
  replace hD := tw_D pX_ia_na.symm hD
  have hP : va_P G vwCl (wX cA xa ka ra na ia ua va ca za pa qa X K R P L P2 L2 Tn Ti_1 Tu Tv C Z q0 q1_2 q2 q3 q4 q5) H := hP
  have hD : va_D A (wX cA xa ka ra na ia ua va ca za pa qa X K R P L P2 L2 Tn Ti_1 Tu Tv C Z q0 q1_2 q2 q3 q4 q5) := hD
  refine lv_aload_n hx hb dX7_keep_11 rfl (lv_at hl 0 rfl) ?_
  refine lv_iconst (v := 1) hx hb dX7_keep_12 (by decide) ?_
  refine va_put (D := G) (ci := 7) (v := .int 1) (ty := .boolean) (C := RX7) (T := TX7) (N := 12) hx hb hT ku_7 tyX7 tyX7_ok nmX7 hown hK hP hD hS 0 rfl rfl 4 (by decide) (hT _ kw_2_2) (fun _ h9 => h9) rfl (by decide +kernel) rfl rfl (Nat.le_of_ble_eq_true rfl) dX7_keep_13 (fun H locs hP hD hS => ?_)
  obtain ⟨X_5, eX_5, h⟩ := tx_lt h
  rw [sX_xa_f4, eX_5] at hP hD
  refine lv_aload_n hx hb dX7_keep_16 rfl (lv_at hl 0 rfl) ?_
  refine va_get (D := G) (ci := 7) (v := .ref (na 0)) (C := RX7) (T := TX7) (N := 12) hx hb hT ku_7 hown hK hP 0 rfl rfl 2 (by decide) (hT _ kw_2_0) (fun _ h9 => h9) rfl dX7_keep_17 ?_
  refine va_get (D := G) (ci := 6) (v := .int (Tn 0 0)) (C := RX6) (T := TX6) (N := 20) hx hb hT ku_6 hown hK hP 53 rfl rfl 0 (by decide) (hT _ kw_40_5) (fun _ h9 => h9) rfl dX7_keep_20 ?_
  obtain ⟨rfl, rfl, rfl, rfl⟩ := tx_4 h
  exact W.iret hx hb hr (fun t ht hW => ⟨⟨_, (), rfl, rfl, by rw [ht]; exact hP, hD⟩, hS.F ht⟩) hS.2.2 dX7_keep_23
abbrev G_X7_known (p : Program) (l : Launch) (e : Env) (s : State) (m : MethodId) (below : List Frame) (meth : Method) (c : Code) (G : va_G) (cA : Nat → ClassId) (A : Nat → Prop) (xa : Nat → Nat) (ka : Nat → Nat) (ra : Nat → Nat) (na : Nat → Nat) (ia : Nat → Nat) (ua : Nat → Nat) (va : Nat → Nat) (ca : Nat → Nat) (za : Nat → Nat) (pa : Nat → Nat) (qa : Nat → Nat) (X : Tr) (K : Tr) (R : Tr) (P : Tr) (L : Lo) (P2 : Tr) (L2 : Lo) (Tn : Tr) (Ti : Tr) (Tu : Tr) (Tv : Tr) (C : Tr) (q0 : Nat) (q1 : Nat) (q2 : Nat) (q3 : Nat) (q4 : Nat) (q5 : Nat) (x1 : Int32) (r0 : Int32) (Z' : Tr) (H : Heap) (locs : List Loc) (g : JFrame) : Prop := W p l e (headSpec (.code yX7_known cX7_known 2 (some .boolean) :: T0) ({ frames := 0, cells := 0, slots := 0, locals := 0 } : Room)).room s m ([.ref (xa 0), .int x1] : List Value).toArray below meth c H locs 0 0 (MQ below (tqQi G cA (fun (r : Int32) (_ : Unit) => r = r0) (fun (_ : Unit) => wX cA xa ka ra na ia ua va ca za pa qa X K R P L P2 L2 Tn Ti Tu Tv C (Z') q0 q1 q2 q3 q4 q5) A) ([.ref (xa 0), .int x1] : List Value).toArray s 0 0 A) g
set_option maxHeartbeats 4000000 in
set_option maxRecDepth 100000 in
theorem c_X7_known (l : Launch) (G : va_G) (cA : Nat → ClassId) (sz : Nat) (xa : Nat → Nat) (ka : Nat → Nat) (ra : Nat → Nat) (na : Nat → Nat) (ia : Nat → Nat) (ua : Nat → Nat) (va : Nat → Nat) (ca : Nat → Nat) (za : Nat → Nat) (pa : Nat → Nat) (qa : Nat → Nat) (X : Tr) (K : Tr) (R : Tr) (P : Tr) (L : Lo) (P2 : Tr) (L2 : Lo) (Tn : Tr) (Ti : Tr) (Tu : Tr) (Tv : Tr) (C : Tr) (Z : Tr) (q0 : Nat) (q1 : Nat) (q2 : Nat) (q3 : Nat) (q4 : Nat) (q5 : Nat) (x1 : Int32)  (r0 : Int32) (Z' : Tr) (h : f_X7_known pa qa Z x1 = some (r0, Z')) : Met l yX7_known (.code yX7_known cX7_known 2 (some .boolean) :: T0) ({ frames := 0, cells := 0, slots := 0, locals := 0 } : Room) (tqP G cA [.ref (xa 0), .int x1] (wX cA xa ka ra na ia ua va ca za pa qa X K R P L P2 L2 Tn Ti Tu Tv C Z q0 q1 q2 q3 q4 q5) sz) (tqQi G cA (fun (r : Int32) (_ : Unit) => r = r0) (fun (_ : Unit) => wX cA xa ka ra na ia ua va ca za pa qa X K R P L P2 L2 Tn Ti Tu Tv C (Z') q0 q1 q2 q3 q4 q5) (va_A (wX cA xa ka ra na ia ua va ca za pa qa X K R P L P2 L2 Tn Ti Tu Tv C Z q0 q1 q2 q3 q4 q5) sz)) 0 0 (va_A (wX cA xa ka ra na ia ua va ca za pa qa X K R P L P2 L2 Tn Ti Tu Tv C Z q0 q1 q2 q3 q4 q5) sz) := by
  refine Met.ofW (cc := cX7_known) (maxL := 2) (ret := (some .boolean)) (by decide) rfl ?_
  intro p e s m args below meth c s₁ B hml hv
  obtain ⟨rfl, hsz, hP, hK, hD0, hN⟩ := hv
  have hx := B.exec
  have hb := B.bytes
  have hr := B.returns
  have hts := atoms_spec (ws := .code yX7_known cX7_known 2 (some .boolean) :: T0) B.pre
  have hT : ∀ w ∈ T0, w.before _ s = true := fun w h => hts w (List.mem_cons_of_mem _ h)
  have hown : s.vm.findClass RX7 = some m.cls := findClass_of_methodNamed B.named
  have hlocks := B.notSynchronized
  subst hsz
  have hD := hD0.self (sz := s.heap.size)
  generalize hAe : va_A (wX cA xa ka ra na ia ua va ca za pa qa X K R P L P2 L2 Tn Ti Tu Tv C Z q0 q1 q2 q3 q4 q5) s.heap.size = A at hD ⊢
  have hA : ∀ q : Nat, s.heap.size ≤ q → A q := fun q h => by rw [← hAe]; exact Or.inr h
  have hS : va_S A s.heap s.heap [] := va_S.rf
  have hl := lv_entry ([.ref (xa 0), .int x1]) (n := 2) (Nat.le_of_ble_eq_true rfl)
  rw [lg_entry_eq]
  generalize (lg_sl ([.ref (xa 0), .int x1]) ++ List.replicate (2 - (lg_sl ([.ref (xa 0), .int x1])).length) Slot.unset).toArray = ls at hl ⊢
  have hl : lv_has ls 2 [(0, .ref (xa 0)), (1, .int x1)] := hl
  have F : tF p s m ([.ref (xa 0), .int x1] : List Value).toArray meth c G cA A RX7 cX7_known 2 (some .boolean) := ⟨hx, hb, hr, hml, hT, hown, hlocks, hK, hN, hA⟩
  obtain ⟨H, hH⟩ : ∃ z, z = s.heap := ⟨_, rfl⟩
  rw [← hH] at hP
  have hS : va_S A s.heap H [] := by rw [hH]; exact hS
  suffices hgo : G_X7_known p l e s m below meth c G cA A xa ka ra na ia ua va ca za pa qa X K R P L P2 L2 Tn Ti Tu Tv C q0 q1 q2 q3 q4 q5 x1 r0 Z' H [] (F0 m 0 ls []) by rw [hH] at hgo; exact hgo
  generalize ([] : List Loc) = locs at hS ⊢
  unfold f_X7_known at h
  refine lv_iload_n hx hb dX7_known_0 rfl (lv_at hl 1 rfl) ?_
  refine lv_iconst (v := (-1)) hx hb dX7_known_1 (by decide) ?_
  refine lv_icmp_lt (tgt := 16) hx hb dX7_known_2 (by decide) (fun c1 => ?_) (fun c1 => ?_)
  · have h := tx_pos c1 h
    refine lv_iconst (v := 0) hx hb dX7_known_16 (by decide) ?_
    obtain ⟨rfl, rfl⟩ := tx_2 h
    exact W.zret (ty := .boolean) hx hb hr rfl (fun t ht hW => ⟨⟨_, (), rfl, rfl, by rw [ht]; exact hP, hD⟩, hS.F ht⟩) hS.2.2 dX7_known_17
  · have h := tx_neg c1 h
    refine lv_iload_n hx hb dX7_known_5 rfl (lv_at hl 1 rfl) ?_
    refine lv_aload_n hx hb dX7_known_6 rfl (lv_at hl 0 rfl) ?_
    refine va_get (D := G) (ci := 7) (v := .ref (za 0)) (C := RX7) (T := TX7) (N := 12) hx hb hT ku_7 hown hK hP 0 rfl rfl 8 (by decide) (hT _ kw_2_12) (fun _ h9 => h9) rfl dX7_known_7 ?_
    refine va_get (D := G) (ci := 4) (v := .int (Z 0 0)) (C := RX4) (T := TX4) (N := 7) hx hb hT ku_4 hown hK hP 103 rfl rfl 0 (by decide) (hT _ kw_54_17) (fun _ h9 => h9) rfl dX7_known_10 ?_
    refine lv_icmp_le (tgt := 18) hx hb dX7_known_13 (by decide) (fun c2 => ?_) (fun c2 => ?_)
    · have h := tx_pos c2 h
      refine lv_aload_n hx hb dX7_known_18 rfl (lv_at hl 0 rfl) ?_
      refine va_get (D := G) (ci := 7) (v := .ref (za 0)) (C := RX7) (T := TX7) (N := 12) hx hb hT ku_7 hown hK hP 0 rfl rfl 8 (by decide) (hT _ kw_2_12) (fun _ h9 => h9) rfl dX7_known_19 ?_
      refine lv_iload_n hx hb dX7_known_22 rfl (lv_at hl 1 rfl) ?_
      refine va_put (D := G) (ci := 4) (v := .int x1) (ty := .int) (C := RX4) (T := TX4) (N := 7) hx hb hT ku_4 tyX4 tyX4_ok nmX4 hown hK hP hD hS 103 rfl rfl 1 (by decide) (hT _ kw_55_2) (fun _ h9 => h9) rfl (by decide +kernel) rfl rfl (Nat.le_of_ble_eq_true rfl) dX7_known_23 (fun H locs hP hD hS => ?_)
      obtain ⟨Z_3, eZ_3, h⟩ := tx_lt h
      rw [sX_za_f1, eZ_3] at hP hD
      refine lv_iconst (v := 1) hx hb dX7_known_26 (by decide) ?_
      obtain ⟨rfl, rfl⟩ := tx_2 h
      exact W.zret (ty := .boolean) hx hb hr rfl (fun t ht hW => ⟨⟨_, (), rfl, rfl, by rw [ht]; exact hP, hD⟩, hS.F ht⟩) hS.2.2 dX7_known_27
    · have h := tx_neg c2 h
      refine lv_iconst (v := 0) hx hb dX7_known_16 (by decide) ?_
      obtain ⟨rfl, rfl⟩ := tx_2 h
      exact W.zret (ty := .boolean) hx hb hr rfl (fun t ht hW => ⟨⟨_, (), rfl, rfl, by rw [ht]; exact hP, hD⟩, hS.F ht⟩) hS.2.2 dX7_known_17
abbrev G_X7_law (p : Program) (l : Launch) (e : Env) (s : State) (m : MethodId) (below : List Frame) (meth : Method) (c : Code) (G : va_G) (cA : Nat → ClassId) (A : Nat → Prop) (xa : Nat → Nat) (ka : Nat → Nat) (ra : Nat → Nat) (na : Nat → Nat) (ia : Nat → Nat) (ua : Nat → Nat) (va : Nat → Nat) (ca : Nat → Nat) (za : Nat → Nat) (pa : Nat → Nat) (qa : Nat → Nat) (X : Tr) (K : Tr) (R : Tr) (P : Tr) (P2 : Tr) (L2 : Lo) (Ti : Tr) (Tu : Tr) (Tv : Tr) (C : Tr) (Z : Tr) (q0 : Nat) (q1 : Nat) (q2 : Nat) (q3 : Nat) (q4 : Nat) (q5 : Nat) (x1 : Int32) (x2 : Int32) (r0 : Int64) (L' : Lo) (Tn' : Tr) (H : Heap) (locs : List Loc) (g : JFrame) : Prop := W p l e (headSpec (.code yX7_law cX7_law 3 (some .long) :: T0) ({ frames := 3, cells := 0, slots := 0, locals := 78 } : Room)).room s m ([.ref (xa 0), .int x1, .int x2] : List Value).toArray below meth c H locs 0 0 (MQ below (tqQl G cA (fun (r : Int64) (_ : Unit) => r = r0) (fun (_ : Unit) => wX cA xa ka ra na ia ua va ca za pa qa X K R P (L') P2 L2 (Tn') Ti Tu Tv C Z q0 q1 q2 q3 q4 q5) A) ([.ref (xa 0), .int x1, .int x2] : List Value).toArray s 0 0 A) g
set_option maxHeartbeats 4000000 in
set_option maxRecDepth 100000 in
theorem c_X7_law (l : Launch) (G : va_G) (cA : Nat → ClassId) (sz : Nat) (xa : Nat → Nat) (ka : Nat → Nat) (ra : Nat → Nat) (na : Nat → Nat) (ia : Nat → Nat) (ua : Nat → Nat) (va : Nat → Nat) (ca : Nat → Nat) (za : Nat → Nat) (pa : Nat → Nat) (qa : Nat → Nat) (X : Tr) (K : Tr) (R : Tr) (P : Tr) (L : Lo) (P2 : Tr) (L2 : Lo) (Tn : Tr) (Ti : Tr) (Tu : Tr) (Tv : Tr) (C : Tr) (Z : Tr) (q0 : Nat) (q1 : Nat) (q2 : Nat) (q3 : Nat) (q4 : Nat) (q5 : Nat) (x1 : Int32) (x2 : Int32)  (r0 : Int64) (L' : Lo) (Tn' : Tr) (h : f_X7_law pa qa P L Tn q0 q4 x1 x2 = some (r0, L', Tn')) : Met l yX7_law (.code yX7_law cX7_law 3 (some .long) :: T0) ({ frames := 3, cells := 0, slots := 0, locals := 78 } : Room) (tqP G cA [.ref (xa 0), .int x1, .int x2] (wX cA xa ka ra na ia ua va ca za pa qa X K R P L P2 L2 Tn Ti Tu Tv C Z q0 q1 q2 q3 q4 q5) sz) (tqQl G cA (fun (r : Int64) (_ : Unit) => r = r0) (fun (_ : Unit) => wX cA xa ka ra na ia ua va ca za pa qa X K R P (L') P2 L2 (Tn') Ti Tu Tv C Z q0 q1 q2 q3 q4 q5) (va_A (wX cA xa ka ra na ia ua va ca za pa qa X K R P L P2 L2 Tn Ti Tu Tv C Z q0 q1 q2 q3 q4 q5) sz)) 0 0 (va_A (wX cA xa ka ra na ia ua va ca za pa qa X K R P L P2 L2 Tn Ti Tu Tv C Z q0 q1 q2 q3 q4 q5) sz) := by
  refine Met.ofW (cc := cX7_law) (maxL := 3) (ret := (some .long)) (by decide) rfl ?_
  intro p e s m args below meth c s₁ B hml hv
  obtain ⟨rfl, hsz, hP, hK, hD0, hN⟩ := hv
  have hx := B.exec
  have hb := B.bytes
  have hr := B.returns
  have hts := atoms_spec (ws := .code yX7_law cX7_law 3 (some .long) :: T0) B.pre
  have hT : ∀ w ∈ T0, w.before _ s = true := fun w h => hts w (List.mem_cons_of_mem _ h)
  have hown : s.vm.findClass RX7 = some m.cls := findClass_of_methodNamed B.named
  have hlocks := B.notSynchronized
  subst hsz
  have hD := hD0.self (sz := s.heap.size)
  generalize hAe : va_A (wX cA xa ka ra na ia ua va ca za pa qa X K R P L P2 L2 Tn Ti Tu Tv C Z q0 q1 q2 q3 q4 q5) s.heap.size = A at hD ⊢
  have hA : ∀ q : Nat, s.heap.size ≤ q → A q := fun q h => by rw [← hAe]; exact Or.inr h
  have hS : va_S A s.heap s.heap [] := va_S.rf
  have hl := lv_entry ([.ref (xa 0), .int x1, .int x2]) (n := 3) (Nat.le_of_ble_eq_true rfl)
  rw [lg_entry_eq]
  generalize (lg_sl ([.ref (xa 0), .int x1, .int x2]) ++ List.replicate (3 - (lg_sl ([.ref (xa 0), .int x1, .int x2])).length) Slot.unset).toArray = ls at hl ⊢
  have hl : lv_has ls 3 [(0, .ref (xa 0)), (1, .int x1), (2, .int x2)] := hl
  have F : tF p s m ([.ref (xa 0), .int x1, .int x2] : List Value).toArray meth c G cA A RX7 cX7_law 3 (some .long) := ⟨hx, hb, hr, hml, hT, hown, hlocks, hK, hN, hA⟩
  obtain ⟨H, hH⟩ : ∃ z, z = s.heap := ⟨_, rfl⟩
  rw [← hH] at hP
  have hS : va_S A s.heap H [] := by rw [hH]; exact hS
  suffices hgo : G_X7_law p l e s m below meth c G cA A xa ka ra na ia ua va ca za pa qa X K R P P2 L2 Ti Tu Tv C Z q0 q1 q2 q3 q4 q5 x1 x2 r0 L' Tn' H [] (F0 m 0 ls []) by rw [hH] at hgo; exact hgo
  generalize ([] : List Loc) = locs at hS ⊢
  unfold f_X7_law at h
  refine lv_iload_n hx hb dX7_law_0 rfl (lv_at hl 1 rfl) ?_
  refine lv_if_lt (tgt := 17) hx hb dX7_law_1 (by decide) (fun c1 => ?_) (fun c1 => ?_)
  · have h := tx_pos c1 h
    refine lv_ldc2 (v := (-9223372036854775808)) hx hb hown (hT _ kw_33_8) dX7_law_17 ?_
    obtain ⟨rfl, rfl, rfl⟩ := tx_3 h
    exact W.lret hx hb hr (fun t ht hW => ⟨⟨_, (), rfl, rfl, by rw [ht]; exact hP, hD⟩, hS.F ht⟩) hS.2.2 dX7_law_20
  · have h := tx_neg c1 h
    refine lv_iload_n hx hb dX7_law_4 rfl (lv_at hl 1 rfl) ?_
    refine lv_iconst (v := 3) hx hb dX7_law_5 (by decide) ?_
    refine lv_icmp_ge (tgt := 17) hx hb dX7_law_6 (by decide) (fun c2 => ?_) (fun c2 => ?_)
    · have h := tx_pos c2 h
      refine lv_ldc2 (v := (-9223372036854775808)) hx hb hown (hT _ kw_33_8) dX7_law_17 ?_
      obtain ⟨rfl, rfl, rfl⟩ := tx_3 h
      exact W.lret hx hb hr (fun t ht hW => ⟨⟨_, (), rfl, rfl, by rw [ht]; exact hP, hD⟩, hS.F ht⟩) hS.2.2 dX7_law_20
    · have h := tx_neg c2 h
      refine lv_aload_n hx hb dX7_law_9 rfl (lv_at hl 0 rfl) ?_
      refine lv_iload_n hx hb dX7_law_10 rfl (lv_at hl 2 rfl) ?_
      obtain ⟨r3, hc4, h⟩ := tx_bd h
      refine tw_ci tw_all hP hD hS hA (va_runV (As := [.int x2]) (rest := []) ⟨hx, hb, hml, hown, hT⟩ (c_X7_isPiece l G cA H.size xa ka ra na ia ua va ca za pa qa X K R P L P2 L2 Tn Ti Tu Tv C Z q0 q1 q2 q3 q4 q5 x2  r3 hc4) (cwV 1 hT (tq_gV kw_30_5 kw_30_6 kw_30_7 kw_1_2 kw_30_8) rfl rfl rfl (by decide +kernel) ⟨Nat.le_of_ble_eq_true rfl, Nat.le_of_ble_eq_true rfl⟩) ⟨(tw_pre tw_all hP hD hK hN).1, va_recv hK hP (ci := 7) (q0 := 0) rfl rfl, (tw_pre tw_all hP hD hK hN).2⟩ rfl rfl hl.1 rfl (lv_room (Nat.le_of_ble_eq_true rfl)) dX7_law_11 ⟨Nat.le_of_ble_eq_true rfl, Nat.le_of_ble_eq_true rfl⟩) (fun _ _ H locs z5 hP hD hS => ?_)
      subst z5
      rw [List.append_nil] at hP hD
      have hP : va_P G vwCl (wX cA xa ka ra na ia ua va ca za pa qa X K R P L P2 L2 Tn Ti Tu Tv C Z q0 q1 q2 q3 q4 q5) H := hP
      have hD : va_D A (wX cA xa ka ra na ia ua va ca za pa qa X K R P L P2 L2 Tn Ti Tu Tv C Z q0 q1 q2 q3 q4 q5) := hD
      refine lv_if_ne (tgt := 21) hx hb dX7_law_14 (by decide) (fun c6 => ?_) (fun c6 => ?_)
      · have h := tx_neg c6 h
        refine lv_aload_n hx hb dX7_law_21 rfl (lv_at hl 0 rfl) ?_
        refine va_get (D := G) (ci := 7) (v := .ref (na 0)) (C := RX7) (T := TX7) (N := 12) hx hb hT ku_7 hown hK hP 0 rfl rfl 2 (by decide) (hT _ kw_2_0) (fun _ h9 => h9) rfl dX7_law_22 ?_
        refine lv_iload_n hx hb dX7_law_25 rfl (lv_at hl 1 rfl) ?_
        refine lv_iload_n hx hb dX7_law_26 rfl (lv_at hl 2 rfl) ?_
        refine lv_aload_n hx hb dX7_law_27 rfl (lv_at hl 0 rfl) ?_
        refine va_get (D := G) (ci := 7) (v := .ref (na 0)) (C := RX7) (T := TX7) (N := 12) hx hb hT ku_7 hown hK hP 0 rfl rfl 2 (by decide) (hT _ kw_2_0) (fun _ h9 => h9) rfl dX7_law_28 ?_
        refine va_get (D := G) (ci := 6) (v := .ref (na 10)) (C := RX6) (T := TX6) (N := 20) hx hb hT ku_6 hown hK hP 53 rfl rfl 9 (by decide) (hT _ kw_29_0) (fun _ h9 => h9) rfl dX7_law_31 ?_
        refine lv_aload_n hx hb dX7_law_34 rfl (lv_at hl 0 rfl) ?_
        refine va_get (D := G) (ci := 7) (v := .ref q4) (C := RX7) (T := TX7) (N := 12) hx hb hT ku_7 hown hK hP 0 rfl rfl 1 (by decide) (hT _ kw_1_20) (fun _ h9 => h9) rfl dX7_law_35 ?_
        obtain ⟨g7, h⟩ := tx_ck h
        have eg7 := of_decide_eq_true g7
        subst eg7
        refine va_get (D := G) (ci := 2) (v := .ref (pa 14)) (C := RX2) (T := TX2) (N := 19) hx hb hT ku_2 hown hK hP 9 rfl rfl 13 (by decide) (hT _ kw_30_0) (fun _ h9 => h9) rfl dX7_law_38 ?_
        refine lv_iload_n hx hb dX7_law_41 rfl (lv_at hl 2 rfl) ?_
        obtain ⟨g8, h⟩ := tx_ck h
        refine va_iald (i := x2) hx hb hK hP 16 0 rfl rfl (tx_in g8) dX7_law_42 ?_
        obtain ⟨g9, h⟩ := tx_ck h
        refine va_iald (i := (P 14 x2.toNatClampNeg)) hx hb hK hP 55 0 rfl rfl (tx_in g9) dX7_law_43 ?_
        obtain ⟨g10, h⟩ := tx_ck h
        have eg10 := of_decide_eq_true g10
        subst eg10
        obtain ⟨⟨r11, Tn_12, L_13⟩, hc14, h⟩ := tx_bd h
        replace h := tx_let (y := r11) rfl h
        replace h := tx_let (y := Tn_12) rfl h
        replace h := tx_let (y := L_13) rfl h
        refine tw_cl pX_na hP hD hS hA (va_runV (As := [.int x1, .int x2, .int (Tn 10 (P 14 x2.toNatClampNeg).toNatClampNeg)]) (rest := []) ⟨hx, hb, hml, hown, hT⟩ (c_X6_worked l G cA H.size na pa Tn P L x1 x2 (Tn 10 (P 14 x2.toNatClampNeg).toNatClampNeg)  r11 Tn_12 L_13 hc14) (cwV 3 hT (tq_gV kw_33_9 kw_33_10 kw_33_11 kw_1_23 kw_33_12) rfl rfl rfl (by decide +kernel) ⟨Nat.le_of_ble_eq_true rfl, Nat.le_of_ble_eq_true rfl⟩) ⟨(tw_pre pX_na hP hD hK hN).1, va_recv hK hP (ci := 6) (q0 := 53) rfl rfl, (tw_pre pX_na hP hD hK hN).2⟩ rfl rfl hl.1 rfl (lv_room (Nat.le_of_ble_eq_true rfl)) dX7_law_44 ⟨Nat.le_of_ble_eq_true rfl, Nat.le_of_ble_eq_true rfl⟩) (fun _ _ H locs z15 hP hD hS => ?_)
        subst z15
        replace hP := tw_P pX_na.symm hP
        replace hD := tw_D pX_na.symm hD
        have hP : va_P G vwCl (wX cA xa ka ra na ia ua va ca za pa qa X K R P L_13 P2 L2 Tn_12 Ti Tu Tv C Z (pa 0) q1 q2 q3 (pa 0) q5) H := hP
        have hD : va_D A (wX cA xa ka ra na ia ua va ca za pa qa X K R P L_13 P2 L2 Tn_12 Ti Tu Tv C Z (pa 0) q1 q2 q3 (pa 0) q5) := hD
        obtain ⟨rfl, rfl, rfl⟩ := tx_3 h
        exact W.lret hx hb hr (fun t ht hW => ⟨⟨_, (), rfl, rfl, by rw [ht]; exact hP, hD⟩, hS.F ht⟩) hS.2.2 dX7_law_47
      · have h := tx_pos c6 h
        refine lv_ldc2 (v := (-9223372036854775808)) hx hb hown (hT _ kw_33_8) dX7_law_17 ?_
        obtain ⟨rfl, rfl, rfl⟩ := tx_3 h
        exact W.lret hx hb hr (fun t ht hW => ⟨⟨_, (), rfl, rfl, by rw [ht]; exact hP, hD⟩, hS.F ht⟩) hS.2.2 dX7_law_20
abbrev G_X7_listComing (p : Program) (l : Launch) (e : Env) (s : State) (m : MethodId) (below : List Frame) (meth : Method) (c : Code) (G : va_G) (cA : Nat → ClassId) (A : Nat → Prop) (xa : Nat → Nat) (ka : Nat → Nat) (ra : Nat → Nat) (na : Nat → Nat) (ia : Nat → Nat) (ua : Nat → Nat) (va : Nat → Nat) (ca : Nat → Nat) (za : Nat → Nat) (pa : Nat → Nat) (qa : Nat → Nat) (K : Tr) (R : Tr) (P : Tr) (L : Lo) (P2 : Tr) (L2 : Lo) (Tn : Tr) (Ti : Tr) (Tu : Tr) (Tv : Tr) (C : Tr) (Z : Tr) (q0 : Nat) (q1 : Nat) (q2 : Nat) (q3 : Nat) (q4 : Nat) (q5 : Nat) (r0 : Int32) (X' : Tr) (H : Heap) (locs : List Loc) (g : JFrame) : Prop := W p l e (headSpec (.code yX7_listComing cX7_listComing 3 (some .int) :: T0) ({ frames := 2, cells := 0, slots := 0, locals := 42 } : Room)).room s m ([.ref (xa 0)] : List Value).toArray below meth c H locs 0 0 (MQ below (tqQi G cA (fun (r : Int32) (_ : Unit) => r = r0) (fun (_ : Unit) => wX cA xa ka ra na ia ua va ca za pa qa (X') K R P L P2 L2 Tn Ti Tu Tv C Z q0 q1 q2 q3 q4 q5) A) ([.ref (xa 0)] : List Value).toArray s 0 0 A) g
set_option maxHeartbeats 4000000 in
set_option maxRecDepth 100000 in
theorem w_X7_listComing_L4 {p : Program} {l : Launch} {e : Env} {s : State} {m : MethodId} {below : List Frame} {meth : Method} {c : Code} {G : va_G} {cA : Nat → ClassId} {A : Nat → Prop} {xa : Nat → Nat} {ka : Nat → Nat} {ra : Nat → Nat} {na : Nat → Nat} {ia : Nat → Nat} {ua : Nat → Nat} {va : Nat → Nat} {ca : Nat → Nat} {za : Nat → Nat} {pa : Nat → Nat} {qa : Nat → Nat} {K : Tr} {R : Tr} {P : Tr} {L : Lo} {P2 : Tr} {L2 : Lo} {Tn : Tr} {Ti : Tr} {Tu : Tr} {Tv : Tr} {C : Tr} {Z : Tr} {q0 : Nat} {q1 : Nat} {q2 : Nat} {q3 : Nat} {q4 : Nat} {q5 : Nat} {r0 : Int32} {X' : Tr} (F : tF p s m ([.ref (xa 0)] : List Value).toArray meth c G cA A RX7 cX7_listComing 3 (some .int))    (N : Nat) : ∀ (x1 : Int32) (x2 : Int32) (X : Tr) (H : Heap) (locs : List Loc) (ls : Array Slot), lpF (fun _ _ _ => none) (fB_X7_listComing_L4 pa qa P Tn q4) N x1 x2 X = some (r0, X') → va_P G vwCl (wX cA xa ka ra na ia ua va ca za pa qa X K R P L P2 L2 Tn Ti Tu Tv C Z q0 q1 q2 q3 (pa 0) q5) H → va_D A (wX cA xa ka ra na ia ua va ca za pa qa X K R P L P2 L2 Tn Ti Tu Tv C Z q0 q1 q2 q3 (pa 0) q5) → va_S A s.heap H locs → lv_has ls 3 [(0, .ref (xa 0)), (1, .int x1), (2, .int x2)] → G_X7_listComing p l e s m below meth c G cA A xa ka ra na ia ua va ca za pa qa K R P L P2 L2 Tn Ti Tu Tv C Z q0 q1 q2 q3 q4 q5 r0 X' H locs (F0 m 4 ls []) := by
  obtain ⟨hx, hb, hr, hml, hT, hown, hlocks, hK, hN, hA⟩ := id F
  induction N with
  | zero =>
    intro x1 x2 X H locs ls h
    have h : (none : Option (Int32 × Tr)) = some (r0, X') := h
    cases h
  | succ N hk4 =>
    intro x1 x2 X H locs ls h hP hD hS hl
    have h : fB_X7_listComing_L4 pa qa P Tn q4 (lpF (fun _ _ _ => none) (fB_X7_listComing_L4 pa qa P Tn q4) N) x1 x2 X = some (r0, X') := h
    generalize hk4e : lpF (fun _ _ _ => none) (fB_X7_listComing_L4 pa qa P Tn q4) N = k4 at h hk4
    unfold fB_X7_listComing_L4 at h
    refine lv_iload_n hx hb dX7_listComing_4 rfl (lv_at hl 2 rfl) ?_
    refine lv_aload_n hx hb dX7_listComing_5 rfl (lv_at hl 0 rfl) ?_
    refine va_get (D := G) (ci := 7) (v := .ref q4) (C := RX7) (T := TX7) (N := 12) hx hb hT ku_7 hown hK hP 0 rfl rfl 1 (by decide) (hT _ kw_1_20) (fun _ h9 => h9) rfl dX7_listComing_6 ?_
    obtain ⟨g1, h⟩ := tx_ck h
    have eg1 := of_decide_eq_true g1
    subst eg1
    refine va_get (D := G) (ci := 2) (v := .int (P 0 2)) (C := RX2) (T := TX2) (N := 19) hx hb hT ku_2 hown hK hP 9 rfl rfl 2 (by decide) (hT _ kw_30_9) (fun _ h9 => h9) rfl dX7_listComing_9 ?_
    refine lv_icmp_ge (tgt := 39) hx hb dX7_listComing_12 (by decide) (fun c2 => ?_) (fun c2 => ?_)
    · have h := tx_pos c2 h
      refine lv_iload_n hx hb dX7_listComing_39 rfl (lv_at hl 1 rfl) ?_
      obtain ⟨rfl, rfl⟩ := tx_2 h
      exact W.iret hx hb hr (fun t ht hW => ⟨⟨_, (), rfl, rfl, by rw [ht]; exact hP, hD⟩, hS.F ht⟩) hS.2.2 dX7_listComing_40
    · have h := tx_neg c2 h
      refine lv_aload_n hx hb dX7_listComing_15 rfl (lv_at hl 0 rfl) ?_
      refine lv_iload_n hx hb dX7_listComing_16 rfl (lv_at hl 2 rfl) ?_
      obtain ⟨r3, hc4, h⟩ := tx_bd h
      refine tw_ci tw_all hP hD hS hA (va_runV (As := [.int x2]) (rest := []) ⟨hx, hb, hml, hown, hT⟩ (c_X7_comesNow l G cA H.size xa ka ra na ia ua va ca za pa qa X K R P L P2 L2 Tn Ti Tu Tv C Z q0 q1 q2 q3 (pa 0) q5 x2  r3 hc4) (cwV 1 hT (tq_gV kw_46_7 kw_46_8 kw_46_9 kw_1_2 kw_46_10) rfl rfl rfl (by decide +kernel) ⟨Nat.le_of_ble_eq_true rfl, Nat.le_of_ble_eq_true rfl⟩) ⟨(tw_pre tw_all hP hD hK hN).1, va_recv hK hP (ci := 7) (q0 := 0) rfl rfl, (tw_pre tw_all hP hD hK hN).2⟩ rfl rfl hl.1 rfl (lv_room (Nat.le_of_ble_eq_true rfl)) dX7_listComing_17 ⟨Nat.le_of_ble_eq_true rfl, Nat.le_of_ble_eq_true rfl⟩) (fun _ _ H locs z5 hP hD hS => ?_)
      subst z5
      rw [List.append_nil] at hP hD
      have hP : va_P G vwCl (wX cA xa ka ra na ia ua va ca za pa qa X K R P L P2 L2 Tn Ti Tu Tv C Z q0 q1 q2 q3 (pa 0) q5) H := hP
      have hD : va_D A (wX cA xa ka ra na ia ua va ca za pa qa X K R P L P2 L2 Tn Ti Tu Tv C Z q0 q1 q2 q3 (pa 0) q5) := hD
      refine lv_if_eq (tgt := 33) hx hb dX7_listComing_20 (by decide) (fun c6 => ?_) (fun c6 => ?_)
      · have h := tx_pos c6 h
        obtain ⟨y7, ey7, h⟩ := tx_lt h
        refine lv_iinc (v := y7) (lv' := [(2, .int y7), (0, .ref (xa 0)), (1, .int x1)]) hx hb dX7_listComing_33 hl (k := 2) rfl ey7 (by decide) rfl (fun ls hl => ?_)
        refine lv_goto (tgt := 4) hx hb dX7_listComing_36 (by decide) ?_
        exact hk4 x1 y7 X H locs ls h hP hD hS (lv_sub hl [1, 2, 0] rfl)
      · have h := tx_neg c6 h
        refine lv_aload_n hx hb dX7_listComing_23 rfl (lv_at hl 0 rfl) ?_
        refine va_get (D := G) (ci := 7) (v := .ref (xa 10)) (C := RX7) (T := TX7) (N := 12) hx hb hT ku_7 hown hK hP 0 rfl rfl 9 (by decide) (hT _ kw_2_14) (fun _ h9 => h9) rfl dX7_listComing_24 ?_
        refine lv_iload_n hx hb dX7_listComing_27 rfl (lv_at hl 1 rfl) ?_
        refine lv_iload_n hx hb dX7_listComing_28 rfl (lv_at hl 2 rfl) ?_
        obtain ⟨g8, h⟩ := tx_ck h
        refine va_iast (i := x1) hx hb hK hP hD hS 1 0 rfl rfl (tx_in g8) dX7_listComing_29 (fun H locs hP hD hS => ?_)
        obtain ⟨X_9, eX_9, h⟩ := tx_lt h
        rw [sX_xa_a9, eX_9] at hP hD
        obtain ⟨y10, ey10, h⟩ := tx_lt h
        refine lv_iinc (v := y10) (lv' := [(1, .int y10), (0, .ref (xa 0)), (2, .int x2)]) hx hb dX7_listComing_30 hl (k := 1) rfl ey10 (by decide) rfl (fun ls hl => ?_)
        obtain ⟨y11, ey11, h⟩ := tx_lt h
        refine lv_iinc (v := y11) (lv' := [(2, .int y11), (1, .int y10), (0, .ref (xa 0))]) hx hb dX7_listComing_33 hl (k := 2) rfl ey11 (by decide) rfl (fun ls hl => ?_)
        refine lv_goto (tgt := 4) hx hb dX7_listComing_36 (by decide) ?_
        exact hk4 y10 y11 X_9 H locs ls h hP hD hS (lv_sub hl [2, 1, 0] rfl)
set_option maxHeartbeats 4000000 in
set_option maxRecDepth 100000 in
theorem c_X7_listComing (l : Launch) (G : va_G) (cA : Nat → ClassId) (sz : Nat) (xa : Nat → Nat) (ka : Nat → Nat) (ra : Nat → Nat) (na : Nat → Nat) (ia : Nat → Nat) (ua : Nat → Nat) (va : Nat → Nat) (ca : Nat → Nat) (za : Nat → Nat) (pa : Nat → Nat) (qa : Nat → Nat) (X : Tr) (K : Tr) (R : Tr) (P : Tr) (L : Lo) (P2 : Tr) (L2 : Lo) (Tn : Tr) (Ti : Tr) (Tu : Tr) (Tv : Tr) (C : Tr) (Z : Tr) (q0 : Nat) (q1 : Nat) (q2 : Nat) (q3 : Nat) (q4 : Nat) (q5 : Nat)  (r0 : Int32) (X' : Tr) (h : f_X7_listComing pa qa X P Tn q4 = some (r0, X')) : Met l yX7_listComing (.code yX7_listComing cX7_listComing 3 (some .int) :: T0) ({ frames := 2, cells := 0, slots := 0, locals := 42 } : Room) (tqP G cA [.ref (xa 0)] (wX cA xa ka ra na ia ua va ca za pa qa X K R P L P2 L2 Tn Ti Tu Tv C Z q0 q1 q2 q3 q4 q5) sz) (tqQi G cA (fun (r : Int32) (_ : Unit) => r = r0) (fun (_ : Unit) => wX cA xa ka ra na ia ua va ca za pa qa (X') K R P L P2 L2 Tn Ti Tu Tv C Z q0 q1 q2 q3 q4 q5) (va_A (wX cA xa ka ra na ia ua va ca za pa qa X K R P L P2 L2 Tn Ti Tu Tv C Z q0 q1 q2 q3 q4 q5) sz)) 0 0 (va_A (wX cA xa ka ra na ia ua va ca za pa qa X K R P L P2 L2 Tn Ti Tu Tv C Z q0 q1 q2 q3 q4 q5) sz) := by
  refine Met.ofW (cc := cX7_listComing) (maxL := 3) (ret := (some .int)) (by decide) rfl ?_
  intro p e s m args below meth c s₁ B hml hv
  obtain ⟨rfl, hsz, hP, hK, hD0, hN⟩ := hv
  have hx := B.exec
  have hb := B.bytes
  have hr := B.returns
  have hts := atoms_spec (ws := .code yX7_listComing cX7_listComing 3 (some .int) :: T0) B.pre
  have hT : ∀ w ∈ T0, w.before _ s = true := fun w h => hts w (List.mem_cons_of_mem _ h)
  have hown : s.vm.findClass RX7 = some m.cls := findClass_of_methodNamed B.named
  have hlocks := B.notSynchronized
  subst hsz
  have hD := hD0.self (sz := s.heap.size)
  generalize hAe : va_A (wX cA xa ka ra na ia ua va ca za pa qa X K R P L P2 L2 Tn Ti Tu Tv C Z q0 q1 q2 q3 q4 q5) s.heap.size = A at hD ⊢
  have hA : ∀ q : Nat, s.heap.size ≤ q → A q := fun q h => by rw [← hAe]; exact Or.inr h
  have hS : va_S A s.heap s.heap [] := va_S.rf
  have hl := lv_entry ([.ref (xa 0)]) (n := 3) (Nat.le_of_ble_eq_true rfl)
  rw [lg_entry_eq]
  generalize (lg_sl ([.ref (xa 0)]) ++ List.replicate (3 - (lg_sl ([.ref (xa 0)])).length) Slot.unset).toArray = ls at hl ⊢
  have hl : lv_has ls 3 [(0, .ref (xa 0))] := hl
  have F : tF p s m ([.ref (xa 0)] : List Value).toArray meth c G cA A RX7 cX7_listComing 3 (some .int) := ⟨hx, hb, hr, hml, hT, hown, hlocks, hK, hN, hA⟩
  obtain ⟨H, hH⟩ : ∃ z, z = s.heap := ⟨_, rfl⟩
  rw [← hH] at hP
  have hS : va_S A s.heap H [] := by rw [hH]; exact hS
  suffices hgo : G_X7_listComing p l e s m below meth c G cA A xa ka ra na ia ua va ca za pa qa K R P L P2 L2 Tn Ti Tu Tv C Z q0 q1 q2 q3 q4 q5 r0 X' H [] (F0 m 0 ls []) by rw [hH] at hgo; exact hgo
  generalize ([] : List Loc) = locs at hS ⊢
  unfold f_X7_listComing at h
  refine lv_iconst (v := 0) hx hb dX7_listComing_0 (by decide) ?_
  refine lv_istore_n (lv' := [(1, .int 0), (0, .ref (xa 0))]) hx hb dX7_listComing_1 rfl hl (by decide) rfl (fun ls hl => ?_)
  refine lv_iconst (v := 0) hx hb dX7_listComing_2 (by decide) ?_
  refine lv_istore_n (lv' := [(2, .int 0), (1, .int 0), (0, .ref (xa 0))]) hx hb dX7_listComing_3 rfl hl (by decide) rfl (fun ls hl => ?_)
  exact w_X7_listComing_L4 F 2000 0 0 X H locs ls h hP hD hS (lv_sub hl [2, 1, 0] rfl)
abbrev G_X7_least (p : Program) (l : Launch) (e : Env) (s : State) (m : MethodId) (below : List Frame) (meth : Method) (c : Code) (G : va_G) (cA : Nat → ClassId) (A : Nat → Prop) (xa : Nat → Nat) (ka : Nat → Nat) (ra : Nat → Nat) (na : Nat → Nat) (ia : Nat → Nat) (ua : Nat → Nat) (va : Nat → Nat) (ca : Nat → Nat) (za : Nat → Nat) (pa : Nat → Nat) (qa : Nat → Nat) (K : Tr) (R : Tr) (P : Tr) (P2 : Tr) (L2 : Lo) (Tn : Tr) (Ti : Tr) (C : Tr) (Z : Tr) (q0 : Nat) (q1 : Nat) (q4 : Nat) (q5 : Nat) (x1 : Int32) (r0 : Int32) (X' : Tr) (L' : Lo) (Tu' : Tr) (Tv' : Tr) (q2' : Nat) (q3' : Nat) (H : Heap) (locs : List Loc) (g : JFrame) : Prop := W p l e (headSpec (.code yX7_least cX7_least 4 (some .int) :: T0) ({ frames := 7, cells := 0, slots := 0, locals := 178 } : Room)).room s m ([.ref (xa 0), .int x1] : List Value).toArray below meth c H locs 0 0 (MQ below (tqQi G cA (fun (r : Int32) (_ : Unit) => r = r0) (fun (_ : Unit) => wX cA xa ka ra na ia ua va ca za pa qa (X') K R P (L') P2 L2 Tn Ti (Tu') (Tv') C Z q0 q1 (q2') (q3') q4 q5) A) ([.ref (xa 0), .int x1] : List Value).toArray s 0 0 A) g
set_option maxHeartbeats 4000000 in
set_option maxRecDepth 100000 in
theorem c_X7_least (l : Launch) (G : va_G) (cA : Nat → ClassId) (sz : Nat) (xa : Nat → Nat) (ka : Nat → Nat) (ra : Nat → Nat) (na : Nat → Nat) (ia : Nat → Nat) (ua : Nat → Nat) (va : Nat → Nat) (ca : Nat → Nat) (za : Nat → Nat) (pa : Nat → Nat) (qa : Nat → Nat) (X : Tr) (K : Tr) (R : Tr) (P : Tr) (L : Lo) (P2 : Tr) (L2 : Lo) (Tn : Tr) (Ti : Tr) (Tu : Tr) (Tv : Tr) (C : Tr) (Z : Tr) (q0 : Nat) (q1 : Nat) (q2 : Nat) (q3 : Nat) (q4 : Nat) (q5 : Nat) (x1 : Int32)  (r0 : Int32) (X' : Tr) (L' : Lo) (Tu' : Tr) (Tv' : Tr) (q2' : Nat) (q3' : Nat) (h : f_X7_least pa qa X P L Tn Tu Tv q0 q2 q3 q4 x1 = some (r0, X', L', Tu', Tv', q2', q3')) : Met l yX7_least (.code yX7_least cX7_least 4 (some .int) :: T0) ({ frames := 7, cells := 0, slots := 0, locals := 178 } : Room) (tqP G cA [.ref (xa 0), .int x1] (wX cA xa ka ra na ia ua va ca za pa qa X K R P L P2 L2 Tn Ti Tu Tv C Z q0 q1 q2 q3 q4 q5) sz) (tqQi G cA (fun (r : Int32) (_ : Unit) => r = r0) (fun (_ : Unit) => wX cA xa ka ra na ia ua va ca za pa qa (X') K R P (L') P2 L2 Tn Ti (Tu') (Tv') C Z q0 q1 (q2') (q3') q4 q5) (va_A (wX cA xa ka ra na ia ua va ca za pa qa X K R P L P2 L2 Tn Ti Tu Tv C Z q0 q1 q2 q3 q4 q5) sz)) 0 0 (va_A (wX cA xa ka ra na ia ua va ca za pa qa X K R P L P2 L2 Tn Ti Tu Tv C Z q0 q1 q2 q3 q4 q5) sz) := by
  refine Met.ofW (cc := cX7_least) (maxL := 4) (ret := (some .int)) (by decide) rfl ?_
  intro p e s m args below meth c s₁ B hml hv
  obtain ⟨rfl, hsz, hP, hK, hD0, hN⟩ := hv
  have hx := B.exec
  have hb := B.bytes
  have hr := B.returns
  have hts := atoms_spec (ws := .code yX7_least cX7_least 4 (some .int) :: T0) B.pre
  have hT : ∀ w ∈ T0, w.before _ s = true := fun w h => hts w (List.mem_cons_of_mem _ h)
  have hown : s.vm.findClass RX7 = some m.cls := findClass_of_methodNamed B.named
  have hlocks := B.notSynchronized
  subst hsz
  have hD := hD0.self (sz := s.heap.size)
  generalize hAe : va_A (wX cA xa ka ra na ia ua va ca za pa qa X K R P L P2 L2 Tn Ti Tu Tv C Z q0 q1 q2 q3 q4 q5) s.heap.size = A at hD ⊢
  have hA : ∀ q : Nat, s.heap.size ≤ q → A q := fun q h => by rw [← hAe]; exact Or.inr h
  have hS : va_S A s.heap s.heap [] := va_S.rf
  have hl := lv_entry ([.ref (xa 0), .int x1]) (n := 4) (Nat.le_of_ble_eq_true rfl)
  rw [lg_entry_eq]
  generalize (lg_sl ([.ref (xa 0), .int x1]) ++ List.replicate (4 - (lg_sl ([.ref (xa 0), .int x1])).length) Slot.unset).toArray = ls at hl ⊢
  have hl : lv_has ls 4 [(0, .ref (xa 0)), (1, .int x1)] := hl
  have F : tF p s m ([.ref (xa 0), .int x1] : List Value).toArray meth c G cA A RX7 cX7_least 4 (some .int) := ⟨hx, hb, hr, hml, hT, hown, hlocks, hK, hN, hA⟩
  obtain ⟨H, hH⟩ : ∃ z, z = s.heap := ⟨_, rfl⟩
  rw [← hH] at hP
  have hS : va_S A s.heap H [] := by rw [hH]; exact hS
  suffices hgo : G_X7_least p l e s m below meth c G cA A xa ka ra na ia ua va ca za pa qa K R P P2 L2 Tn Ti C Z q0 q1 q4 q5 x1 r0 X' L' Tu' Tv' q2' q3' H [] (F0 m 0 ls []) by rw [hH] at hgo; exact hgo
  generalize ([] : List Loc) = locs at hS ⊢
  unfold f_X7_least at h
  refine lv_iload_n hx hb dX7_least_0 rfl (lv_at hl 1 rfl) ?_
  refine lv_if_lt (tgt := 21) hx hb dX7_least_1 (by decide) (fun c1 => ?_) (fun c1 => ?_)
  · have h := tx_pos c1 h
    refine lv_iconst (v := (-1)) hx hb dX7_least_21 (by decide) ?_
    obtain ⟨rfl, rfl, rfl, rfl, rfl, rfl, rfl⟩ := tx_7 h
    exact W.iret hx hb hr (fun t ht hW => ⟨⟨_, (), rfl, rfl, by rw [ht]; exact hP, hD⟩, hS.F ht⟩) hS.2.2 dX7_least_22
  · have h := tx_neg c1 h
    refine lv_iload_n hx hb dX7_least_4 rfl (lv_at hl 1 rfl) ?_
    refine lv_iconst (v := 4) hx hb dX7_least_5 (by decide) ?_
    refine lv_icmp_gt (tgt := 21) hx hb dX7_least_6 (by decide) (fun c2 => ?_) (fun c2 => ?_)
    · have h := tx_pos c2 h
      refine lv_iconst (v := (-1)) hx hb dX7_least_21 (by decide) ?_
      obtain ⟨rfl, rfl, rfl, rfl, rfl, rfl, rfl⟩ := tx_7 h
      exact W.iret hx hb hr (fun t ht hW => ⟨⟨_, (), rfl, rfl, by rw [ht]; exact hP, hD⟩, hS.F ht⟩) hS.2.2 dX7_least_22
    · have h := tx_neg c2 h
      refine lv_aload_n hx hb dX7_least_9 rfl (lv_at hl 0 rfl) ?_
      refine va_get (D := G) (ci := 7) (v := .ref (na 0)) (C := RX7) (T := TX7) (N := 12) hx hb hT ku_7 hown hK hP 0 rfl rfl 2 (by decide) (hT _ kw_2_0) (fun _ h9 => h9) rfl dX7_least_10 ?_
      refine va_get (D := G) (ci := 6) (v := .int (Tn 0 0)) (C := RX6) (T := TX6) (N := 20) hx hb hT ku_6 hown hK hP 53 rfl rfl 0 (by decide) (hT _ kw_40_5) (fun _ h9 => h9) rfl dX7_least_13 ?_
      refine lv_bipush (v := 20) hx hb dX7_least_16 (by decide) ?_
      refine lv_icmp_le (tgt := 23) hx hb dX7_least_18 (by decide) (fun c3 => ?_) (fun c3 => ?_)
      · have h := tx_pos c3 h
        refine lv_aload_n hx hb dX7_least_23 rfl (lv_at hl 0 rfl) ?_
        obtain ⟨⟨r4, X_5⟩, hc6, h⟩ := tx_bd h
        replace h := tx_let (y := r4) rfl h
        replace h := tx_let (y := X_5) rfl h
        refine tw_ci tw_all hP hD hS hA (va_runV (As := []) (rest := []) ⟨hx, hb, hml, hown, hT⟩ (c_X7_listComing l G cA H.size xa ka ra na ia ua va ca za pa qa X K R P L P2 L2 Tn Ti Tu Tv C Z q0 q1 q2 q3 q4 q5  r4 X_5 hc6) (cwV 0 hT (tq_gV kw_46_3 kw_46_4 kw_46_5 kw_1_2 kw_46_6) rfl rfl rfl (by decide +kernel) ⟨Nat.le_of_ble_eq_true rfl, Nat.le_of_ble_eq_true rfl⟩) ⟨(tw_pre tw_all hP hD hK hN).1, va_recv hK hP (ci := 7) (q0 := 0) rfl rfl, (tw_pre tw_all hP hD hK hN).2⟩ rfl rfl hl.1 rfl (lv_room (Nat.le_of_ble_eq_true rfl)) dX7_least_24 ⟨Nat.le_of_ble_eq_true rfl, Nat.le_of_ble_eq_true rfl⟩) (fun _ _ H locs z7 hP hD hS => ?_)
        subst z7
        rw [List.append_nil] at hP hD
        have hP : va_P G vwCl (wX cA xa ka ra na ia ua va ca za pa qa X_5 K R P L P2 L2 Tn Ti Tu Tv C Z q0 q1 q2 q3 q4 q5) H := hP
        have hD : va_D A (wX cA xa ka ra na ia ua va ca za pa qa X_5 K R P L P2 L2 Tn Ti Tu Tv C Z q0 q1 q2 q3 q4 q5) := hD
        refine lv_istore_n (lv' := [(2, .int r4), (0, .ref (xa 0)), (1, .int x1)]) hx hb dX7_least_27 rfl hl (by decide) rfl (fun ls hl => ?_)
        refine lv_iload_n hx hb dX7_least_28 rfl (lv_at hl 0 rfl) ?_
        refine lv_iconst (v := 4) hx hb dX7_least_29 (by decide) ?_
        refine lv_icmp_le (tgt := 36) hx hb dX7_least_30 (by decide) (fun c8 => ?_) (fun c8 => ?_)
        · have h := tx_pos c8 h
          refine lv_aload_n hx hb dX7_least_36 rfl (lv_at hl 1 rfl) ?_
          refine lv_iload_n hx hb dX7_least_37 rfl (lv_at hl 0 rfl) ?_
          obtain ⟨⟨r9, L_10, Tu_11, Tv_12, q2_13, q3_14⟩, hc15, h⟩ := tx_bd h
          replace h := tx_let (y := r9) rfl h
          replace h := tx_let (y := L_10) rfl h
          replace h := tx_let (y := Tu_11) rfl h
          replace h := tx_let (y := Tv_12) rfl h
          replace h := tx_let (y := q2_13) rfl h
          replace h := tx_let (y := q3_14) rfl h
          refine tw_ci tw_all hP hD hS hA (va_runV (As := [.int r4]) (rest := []) ⟨hx, hb, hml, hown, hT⟩ (c_X7_findLeast l G cA H.size xa ka ra na ia ua va ca za pa qa X_5 K R P L P2 L2 Tn Ti Tu Tv C Z q0 q1 q2 q3 q4 q5 r4  r9 L_10 Tu_11 Tv_12 q2_13 q3_14 hc15) (cwV 1 hT (tq_gV kw_46_11 kw_46_12 kw_46_13 kw_1_2 kw_46_14) rfl rfl rfl (by decide +kernel) ⟨Nat.le_of_ble_eq_true rfl, Nat.le_of_ble_eq_true rfl⟩) ⟨(tw_pre tw_all hP hD hK hN).1, va_recv hK hP (ci := 7) (q0 := 0) rfl rfl, (tw_pre tw_all hP hD hK hN).2⟩ rfl rfl hl.1 rfl (lv_room (Nat.le_of_ble_eq_true rfl)) dX7_least_38 ⟨Nat.le_of_ble_eq_true rfl, Nat.le_of_ble_eq_true rfl⟩) (fun _ _ H locs z16 hP hD hS => ?_)
          subst z16
          rw [List.append_nil] at hP hD
          have hP : va_P G vwCl (wX cA xa ka ra na ia ua va ca za pa qa X_5 K R P L_10 P2 L2 Tn Ti Tu_11 Tv_12 C Z q0 q1 q2_13 q3_14 q4 q5) H := hP
          have hD : va_D A (wX cA xa ka ra na ia ua va ca za pa qa X_5 K R P L_10 P2 L2 Tn Ti Tu_11 Tv_12 C Z q0 q1 q2_13 q3_14 q4 q5) := hD
          refine lv_istore_n (lv' := [(3, .int r9), (2, .int r4), (0, .ref (xa 0)), (1, .int x1)]) hx hb dX7_least_41 rfl hl (by decide) rfl (fun ls hl => ?_)
          refine lv_iload_n hx hb dX7_least_42 rfl (lv_at hl 0 rfl) ?_
          refine lv_if_ge (tgt := 49) hx hb dX7_least_43 (by decide) (fun c17 => ?_) (fun c17 => ?_)
          · have h := tx_pos c17 h
            refine lv_iload_n hx hb dX7_least_49 rfl (lv_at hl 3 rfl) ?_
            refine lv_if_ne (tgt := 59) hx hb dX7_least_50 (by decide) (fun c18 => ?_) (fun c18 => ?_)
            · have h := tx_neg c18 h
              refine lv_iload_n hx hb dX7_least_59 rfl (lv_at hl 3 rfl) ?_
              refine lv_iload_n hx hb dX7_least_60 rfl (lv_at hl 1 rfl) ?_
              refine lv_icmp_le (tgt := 69) hx hb dX7_least_61 (by decide) (fun c19 => ?_) (fun c19 => ?_)
              · have h := tx_pos c19 h
                refine lv_aload_n hx hb dX7_least_69 rfl (lv_at hl 2 rfl) ?_
                refine lv_iload_n hx hb dX7_least_70 rfl (lv_at hl 0 rfl) ?_
                refine lv_sipush (v := 1024) hx hb dX7_least_71 (by decide) ?_
                refine lv_irem hx hb dX7_least_74 (by decide) ?_
                refine lv_iload_n hx hb dX7_least_75 rfl (lv_at hl 1 rfl) ?_
                refine lv_iload_n hx hb dX7_least_76 rfl (lv_at hl 3 rfl) ?_
                refine lv_isub hx hb dX7_least_77 ?_
                obtain ⟨r20, hc21, h⟩ := tx_bd h
                refine tw_ci tw_all hP hD hS hA (va_runV (As := [.int (r9 - r9 / 1024 * 1024), .int (r4 - x1)]) (rest := []) ⟨hx, hb, hml, hown, hT⟩ (c_X7_digit l G cA H.size xa ka ra na ia ua va ca za pa qa X_5 K R P L_10 P2 L2 Tn Ti Tu_11 Tv_12 C Z q0 q1 q2_13 q3_14 q4 q5 (r9 - r9 / 1024 * 1024) (r4 - x1)  r20 hc21) (cwV 2 hT (tq_gV kw_47_0 kw_47_1 kw_47_2 kw_1_2 kw_47_3) rfl rfl rfl (by decide +kernel) ⟨Nat.le_of_ble_eq_true rfl, Nat.le_of_ble_eq_true rfl⟩) ⟨(tw_pre tw_all hP hD hK hN).1, va_recv hK hP (ci := 7) (q0 := 0) rfl rfl, (tw_pre tw_all hP hD hK hN).2⟩ rfl rfl hl.1 rfl (lv_room (Nat.le_of_ble_eq_true rfl)) dX7_least_78 ⟨Nat.le_of_ble_eq_true rfl, Nat.le_of_ble_eq_true rfl⟩) (fun _ _ H locs z22 hP hD hS => ?_)
                subst z22
                rw [List.append_nil] at hP hD
                have hP : va_P G vwCl (wX cA xa ka ra na ia ua va ca za pa qa X_5 K R P L_10 P2 L2 Tn Ti Tu_11 Tv_12 C Z q0 q1 q2_13 q3_14 q4 q5) H := hP
                have hD : va_D A (wX cA xa ka ra na ia ua va ca za pa qa X_5 K R P L_10 P2 L2 Tn Ti Tu_11 Tv_12 C Z q0 q1 q2_13 q3_14 q4 q5) := hD
                obtain ⟨rfl, rfl, rfl, rfl, rfl, rfl, rfl⟩ := tx_7 h
                exact W.iret hx hb hr (fun t ht hW => ⟨⟨_, (), rfl, rfl, by rw [ht]; exact hP, hD⟩, hS.F ht⟩) hS.2.2 dX7_least_81
              · have h := tx_neg c19 h
                refine lv_bipush (v := (-2)) hx hb dX7_least_64 (by decide) ?_
                refine lv_goto (tgt := 81) hx hb dX7_least_66 (by decide) ?_
                obtain ⟨rfl, rfl, rfl, rfl, rfl, rfl, rfl⟩ := tx_7 h
                exact W.iret hx hb hr (fun t ht hW => ⟨⟨_, (), rfl, rfl, by rw [ht]; exact hP, hD⟩, hS.F ht⟩) hS.2.2 dX7_least_81
            · have h := tx_pos c18 h
              refine lv_iload_n hx hb dX7_least_53 rfl (lv_at hl 0 rfl) ?_
              refine lv_sipush (v := 1024) hx hb dX7_least_54 (by decide) ?_
              refine lv_idiv hx hb dX7_least_57 (by decide) ?_
              obtain ⟨rfl, rfl, rfl, rfl, rfl, rfl, rfl⟩ := tx_7 h
              exact W.iret hx hb hr (fun t ht hW => ⟨⟨_, (), rfl, rfl, by rw [ht]; exact hP, hD⟩, hS.F ht⟩) hS.2.2 dX7_least_58
          · have h := tx_neg c17 h
            refine lv_bipush (v := (-3)) hx hb dX7_least_46 (by decide) ?_
            obtain ⟨rfl, rfl, rfl, rfl, rfl, rfl, rfl⟩ := tx_7 h
            exact W.iret hx hb hr (fun t ht hW => ⟨⟨_, (), rfl, rfl, by rw [ht]; exact hP, hD⟩, hS.F ht⟩) hS.2.2 dX7_least_48
        · have h := tx_neg c8 h
          refine lv_bipush (v := (-4)) hx hb dX7_least_33 (by decide) ?_
          obtain ⟨rfl, rfl, rfl, rfl, rfl, rfl, rfl⟩ := tx_7 h
          exact W.iret hx hb hr (fun t ht hW => ⟨⟨_, (), rfl, rfl, by rw [ht]; exact hP, hD⟩, hS.F ht⟩) hS.2.2 dX7_least_35
      · have h := tx_neg c3 h
        refine lv_iconst (v := (-1)) hx hb dX7_least_21 (by decide) ?_
        obtain ⟨rfl, rfl, rfl, rfl, rfl, rfl, rfl⟩ := tx_7 h
        exact W.iret hx hb hr (fun t ht hW => ⟨⟨_, (), rfl, rfl, by rw [ht]; exact hP, hD⟩, hS.F ht⟩) hS.2.2 dX7_least_22
abbrev G_X7_mine (p : Program) (l : Launch) (e : Env) (s : State) (m : MethodId) (below : List Frame) (meth : Method) (c : Code) (G : va_G) (cA : Nat → ClassId) (A : Nat → Prop) (xa : Nat → Nat) (ka : Nat → Nat) (ra : Nat → Nat) (na : Nat → Nat) (ia : Nat → Nat) (ua : Nat → Nat) (va : Nat → Nat) (ca : Nat → Nat) (za : Nat → Nat) (pa : Nat → Nat) (qa : Nat → Nat) (X : Tr) (K : Tr) (R : Tr) (P : Tr) (P2 : Tr) (L2 : Lo) (Tn : Tr) (Ti : Tr) (Tv : Tr) (C : Tr) (Z : Tr) (q0 : Nat) (q1 : Nat) (q3 : Nat) (q4 : Nat) (q5 : Nat) (x1 : Int32) (x2 : Int32) (r0 : Int32) (L' : Lo) (Tu' : Tr) (q2' : Nat) (H : Heap) (locs : List Loc) (g : JFrame) : Prop := W p l e (headSpec (.code yX7_mine cX7_mine 4 (some .int) :: T0) ({ frames := 7, cells := 0, slots := 0, locals := 179 } : Room)).room s m ([.ref (xa 0), .int x1, .int x2] : List Value).toArray below meth c H locs 0 0 (MQ below (tqQi G cA (fun (r : Int32) (_ : Unit) => r = r0) (fun (_ : Unit) => wX cA xa ka ra na ia ua va ca za pa qa X K R P (L') P2 L2 Tn Ti (Tu') Tv C Z q0 q1 (q2') q3 q4 q5) A) ([.ref (xa 0), .int x1, .int x2] : List Value).toArray s 0 0 A) g
set_option maxHeartbeats 4000000 in
set_option maxRecDepth 100000 in
theorem w_X7_mine_J31 {p : Program} {l : Launch} {e : Env} {s : State} {m : MethodId} {below : List Frame} {meth : Method} {c : Code} {G : va_G} {cA : Nat → ClassId} {A : Nat → Prop} {xa : Nat → Nat} {ka : Nat → Nat} {ra : Nat → Nat} {na : Nat → Nat} {ia : Nat → Nat} {ua : Nat → Nat} {va : Nat → Nat} {ca : Nat → Nat} {za : Nat → Nat} {pa : Nat → Nat} {qa : Nat → Nat} {X : Tr} {K : Tr} {R : Tr} {P : Tr} {P2 : Tr} {L2 : Lo} {Tn : Tr} {Ti : Tr} {Tv : Tr} {C : Tr} {Z : Tr} {q0 : Nat} {q1 : Nat} {q3 : Nat} {q4 : Nat} {q5 : Nat} {x1₀ : Int32} {x2₀ : Int32} {r0 : Int32} {L' : Lo} {Tu' : Tr} {q2' : Nat} (F : tF p s m ([.ref (xa 0), .int x1₀, .int x2₀] : List Value).toArray meth c G cA A RX7 cX7_mine 4 (some .int))    (x2 : Int32) (s0 : Int32) (s1 : Int32) (L : Lo) (Tu : Tr) (q2 : Nat) (H : Heap) (locs : List Loc) (ls : Array Slot) (h : fJ_X7_mine_J31 pa qa P Tn q0 q4 x2 s0 s1 L Tu q2 = some (r0, L', Tu', q2')) (hP : va_P G vwCl (wX cA xa ka ra na ia ua va ca za pa qa X K R P L_9 P2 L2 Tn Ti Tu_10 Tv C Z q0 q1 q2_11 q3 q4 q5) H) (hD : va_D A (wX cA xa ka ra na ia ua va ca za pa qa X K R P L_9 P2 L2 Tn Ti Tu_10 Tv C Z q0 q1 q2_11 q3 q4 q5)) (hS : va_S A s.heap H locs) (hl : lv_has ls 4 [(3, .int r8), (2, .int x2)]) : G_X7_mine p l e s m below meth c G cA A xa ka ra na ia ua va ca za pa qa X K R P P2 L2 Tn Ti Tv C Z q0 q1 q3 q4 q5 x1₀ x2₀ r0 L' Tu' q2' H locs (F0 m 31 ls []) := by
  obtain ⟨hx, hb, hr, hml, hT, hown, hlocks, hK, hN, hA⟩ := id F
  unfold fJ_X7_mine_J31 at h
  obtain ⟨⟨r8, L_9, Tu_10, q2_11⟩, hc12, h⟩ := tx_bd h
  replace h := tx_let (y := r8) rfl h
  replace h := tx_let (y := L_9) rfl h
  replace h := tx_let (y := Tu_10) rfl h
  replace h := tx_let (y := q2_11) rfl h
  refine tw_ci tw_all hP hD hS hA (va_runV (As := [.int s1, .int s0]) (rest := []) ⟨hx, hb, hml, hown, hT⟩ (c_X7_findMine l G cA H.size xa ka ra na ia ua va ca za pa qa X K R P L P2 L2 Tn Ti Tu Tv C Z q0 q1 q2 q3 q4 q5 s1 s0  r8 L_9 Tu_10 q2_11 hc12) (cwV 2 hT (tq_gV kw_48_17 kw_48_18 kw_48_19 kw_1_2 kw_48_20) rfl rfl rfl (by decide +kernel) ⟨Nat.le_of_ble_eq_true rfl, Nat.le_of_ble_eq_true rfl⟩) ⟨(tw_pre tw_all hP hD hK hN).1, va_recv hK hP (ci := 7) (q0 := 0) rfl rfl, (tw_pre tw_all hP hD hK hN).2⟩ rfl rfl hl.1 rfl (lv_room (Nat.le_of_ble_eq_true rfl)) dX7_mine_31 ⟨Nat.le_of_ble_eq_true rfl, Nat.le_of_ble_eq_true rfl⟩) (fun _ _ H locs z13 hP hD hS => ?_)
  subst z13
  rw [List.append_nil] at hP hD
  have hP : va_P G vwCl (wX cA xa ka ra na ia ua va ca za pa qa X K R P L_9 P2 L2 Tn Ti Tu_10 Tv C Z q0 q1 q2_11 q3 q4 q5) H := hP
  have hD : va_D A (wX cA xa ka ra na ia ua va ca za pa qa X K R P L_9 P2 L2 Tn Ti Tu_10 Tv C Z q0 q1 q2_11 q3 q4 q5) := hD
  refine lv_istore_n (lv' := [(3, .int r8), (2, .int x2)]) hx hb dX7_mine_34 rfl hl (by decide) rfl (fun ls hl => ?_)
  refine lv_iload_n hx hb dX7_mine_35 rfl (lv_at hl 0 rfl) ?_
  refine lv_if_ge (tgt := 42) hx hb dX7_mine_36 (by decide) (fun c14 => ?_) (fun c14 => ?_)
  · have h := tx_pos c14 h
    refine lv_iload_n hx hb dX7_mine_42 rfl (lv_at hl 1 rfl) ?_
    refine lv_iconst (v := 2) hx hb dX7_mine_43 (by decide) ?_
    refine lv_irem hx hb dX7_mine_44 (by decide) ?_
    refine lv_if_ne (tgt := 54) hx hb dX7_mine_45 (by decide) (fun c15 => ?_) (fun c15 => ?_)
    · have h := tx_neg c15 h
      refine lv_iload_n hx hb dX7_mine_54 rfl (lv_at hl 0 rfl) ?_
      refine lv_iconst (v := 5) hx hb dX7_mine_55 (by decide) ?_
      refine lv_idiv hx hb dX7_mine_56 (by decide) ?_
      obtain ⟨rfl, rfl, rfl, rfl⟩ := tx_4 h
      exact W.iret hx hb hr (fun t ht hW => ⟨⟨_, (), rfl, rfl, by rw [ht]; exact hP, hD⟩, hS.F ht⟩) hS.2.2 dX7_mine_57
    · have h := tx_pos c15 h
      refine lv_iload_n hx hb dX7_mine_48 rfl (lv_at hl 0 rfl) ?_
      refine lv_iconst (v := 5) hx hb dX7_mine_49 (by decide) ?_
      refine lv_irem hx hb dX7_mine_50 (by decide) ?_
      refine lv_goto (tgt := 57) hx hb dX7_mine_51 (by decide) ?_
      obtain ⟨rfl, rfl, rfl, rfl⟩ := tx_4 h
      exact W.iret hx hb hr (fun t ht hW => ⟨⟨_, (), rfl, rfl, by rw [ht]; exact hP, hD⟩, hS.F ht⟩) hS.2.2 dX7_mine_57
  · have h := tx_neg c14 h
    refine lv_bipush (v := (-2)) hx hb dX7_mine_39 (by decide) ?_
    obtain ⟨rfl, rfl, rfl, rfl⟩ := tx_4 h
    exact W.iret hx hb hr (fun t ht hW => ⟨⟨_, (), rfl, rfl, by rw [ht]; exact hP, hD⟩, hS.F ht⟩) hS.2.2 dX7_mine_41
set_option maxHeartbeats 4000000 in
set_option maxRecDepth 100000 in
theorem c_X7_mine (l : Launch) (G : va_G) (cA : Nat → ClassId) (sz : Nat) (xa : Nat → Nat) (ka : Nat → Nat) (ra : Nat → Nat) (na : Nat → Nat) (ia : Nat → Nat) (ua : Nat → Nat) (va : Nat → Nat) (ca : Nat → Nat) (za : Nat → Nat) (pa : Nat → Nat) (qa : Nat → Nat) (X : Tr) (K : Tr) (R : Tr) (P : Tr) (L : Lo) (P2 : Tr) (L2 : Lo) (Tn : Tr) (Ti : Tr) (Tu : Tr) (Tv : Tr) (C : Tr) (Z : Tr) (q0 : Nat) (q1 : Nat) (q2 : Nat) (q3 : Nat) (q4 : Nat) (q5 : Nat) (x1 : Int32) (x2 : Int32)  (r0 : Int32) (L' : Lo) (Tu' : Tr) (q2' : Nat) (h : f_X7_mine pa qa P L Tn Tu q0 q2 q4 x1 x2 = some (r0, L', Tu', q2')) : Met l yX7_mine (.code yX7_mine cX7_mine 4 (some .int) :: T0) ({ frames := 7, cells := 0, slots := 0, locals := 179 } : Room) (tqP G cA [.ref (xa 0), .int x1, .int x2] (wX cA xa ka ra na ia ua va ca za pa qa X K R P L P2 L2 Tn Ti Tu Tv C Z q0 q1 q2 q3 q4 q5) sz) (tqQi G cA (fun (r : Int32) (_ : Unit) => r = r0) (fun (_ : Unit) => wX cA xa ka ra na ia ua va ca za pa qa X K R P (L') P2 L2 Tn Ti (Tu') Tv C Z q0 q1 (q2') q3 q4 q5) (va_A (wX cA xa ka ra na ia ua va ca za pa qa X K R P L P2 L2 Tn Ti Tu Tv C Z q0 q1 q2 q3 q4 q5) sz)) 0 0 (va_A (wX cA xa ka ra na ia ua va ca za pa qa X K R P L P2 L2 Tn Ti Tu Tv C Z q0 q1 q2 q3 q4 q5) sz) := by
  refine Met.ofW (cc := cX7_mine) (maxL := 4) (ret := (some .int)) (by decide) rfl ?_
  intro p e s m args below meth c s₁ B hml hv
  obtain ⟨rfl, hsz, hP, hK, hD0, hN⟩ := hv
  have hx := B.exec
  have hb := B.bytes
  have hr := B.returns
  have hts := atoms_spec (ws := .code yX7_mine cX7_mine 4 (some .int) :: T0) B.pre
  have hT : ∀ w ∈ T0, w.before _ s = true := fun w h => hts w (List.mem_cons_of_mem _ h)
  have hown : s.vm.findClass RX7 = some m.cls := findClass_of_methodNamed B.named
  have hlocks := B.notSynchronized
  subst hsz
  have hD := hD0.self (sz := s.heap.size)
  generalize hAe : va_A (wX cA xa ka ra na ia ua va ca za pa qa X K R P L P2 L2 Tn Ti Tu Tv C Z q0 q1 q2 q3 q4 q5) s.heap.size = A at hD ⊢
  have hA : ∀ q : Nat, s.heap.size ≤ q → A q := fun q h => by rw [← hAe]; exact Or.inr h
  have hS : va_S A s.heap s.heap [] := va_S.rf
  have hl := lv_entry ([.ref (xa 0), .int x1, .int x2]) (n := 4) (Nat.le_of_ble_eq_true rfl)
  rw [lg_entry_eq]
  generalize (lg_sl ([.ref (xa 0), .int x1, .int x2]) ++ List.replicate (4 - (lg_sl ([.ref (xa 0), .int x1, .int x2])).length) Slot.unset).toArray = ls at hl ⊢
  have hl : lv_has ls 4 [(0, .ref (xa 0)), (1, .int x1), (2, .int x2)] := hl
  have F : tF p s m ([.ref (xa 0), .int x1, .int x2] : List Value).toArray meth c G cA A RX7 cX7_mine 4 (some .int) := ⟨hx, hb, hr, hml, hT, hown, hlocks, hK, hN, hA⟩
  obtain ⟨H, hH⟩ : ∃ z, z = s.heap := ⟨_, rfl⟩
  rw [← hH] at hP
  have hS : va_S A s.heap H [] := by rw [hH]; exact hS
  suffices hgo : G_X7_mine p l e s m below meth c G cA A xa ka ra na ia ua va ca za pa qa X K R P P2 L2 Tn Ti Tv C Z q0 q1 q3 q4 q5 x1 x2 r0 L' Tu' q2' H [] (F0 m 0 ls []) by rw [hH] at hgo; exact hgo
  generalize ([] : List Loc) = locs at hS ⊢
  unfold f_X7_mine at h
  refine lv_iload_n hx hb dX7_mine_0 rfl (lv_at hl 2 rfl) ?_
  refine lv_if_lt (tgt := 17) hx hb dX7_mine_1 (by decide) (fun c1 => ?_) (fun c1 => ?_)
  · have h := tx_pos c1 h
    refine lv_iconst (v := (-1)) hx hb dX7_mine_17 (by decide) ?_
    obtain ⟨rfl, rfl, rfl, rfl⟩ := tx_4 h
    exact W.iret hx hb hr (fun t ht hW => ⟨⟨_, (), rfl, rfl, by rw [ht]; exact hP, hD⟩, hS.F ht⟩) hS.2.2 dX7_mine_18
  · have h := tx_neg c1 h
    refine lv_iload_n hx hb dX7_mine_4 rfl (lv_at hl 2 rfl) ?_
    refine lv_iconst (v := 3) hx hb dX7_mine_5 (by decide) ?_
    refine lv_icmp_gt (tgt := 17) hx hb dX7_mine_6 (by decide) (fun c2 => ?_) (fun c2 => ?_)
    · have h := tx_pos c2 h
      refine lv_iconst (v := (-1)) hx hb dX7_mine_17 (by decide) ?_
      obtain ⟨rfl, rfl, rfl, rfl⟩ := tx_4 h
      exact W.iret hx hb hr (fun t ht hW => ⟨⟨_, (), rfl, rfl, by rw [ht]; exact hP, hD⟩, hS.F ht⟩) hS.2.2 dX7_mine_18
    · have h := tx_neg c2 h
      refine lv_aload_n hx hb dX7_mine_9 rfl (lv_at hl 0 rfl) ?_
      refine lv_iload_n hx hb dX7_mine_10 rfl (lv_at hl 1 rfl) ?_
      obtain ⟨r3, hc4, h⟩ := tx_bd h
      refine tw_ci tw_all hP hD hS hA (va_runV (As := [.int x1]) (rest := []) ⟨hx, hb, hml, hown, hT⟩ (c_X7_comesNow l G cA H.size xa ka ra na ia ua va ca za pa qa X K R P L P2 L2 Tn Ti Tu Tv C Z q0 q1 q2 q3 q4 q5 x1  r3 hc4) (cwV 1 hT (tq_gV kw_46_7 kw_46_8 kw_46_9 kw_1_2 kw_46_10) rfl rfl rfl (by decide +kernel) ⟨Nat.le_of_ble_eq_true rfl, Nat.le_of_ble_eq_true rfl⟩) ⟨(tw_pre tw_all hP hD hK hN).1, va_recv hK hP (ci := 7) (q0 := 0) rfl rfl, (tw_pre tw_all hP hD hK hN).2⟩ rfl rfl hl.1 rfl (lv_room (Nat.le_of_ble_eq_true rfl)) dX7_mine_11 ⟨Nat.le_of_ble_eq_true rfl, Nat.le_of_ble_eq_true rfl⟩) (fun _ _ H locs z5 hP hD hS => ?_)
      subst z5
      rw [List.append_nil] at hP hD
      have hP : va_P G vwCl (wX cA xa ka ra na ia ua va ca za pa qa X K R P L P2 L2 Tn Ti Tu Tv C Z q0 q1 q2 q3 q4 q5) H := hP
      have hD : va_D A (wX cA xa ka ra na ia ua va ca za pa qa X K R P L P2 L2 Tn Ti Tu Tv C Z q0 q1 q2 q3 q4 q5) := hD
      refine lv_if_ne (tgt := 19) hx hb dX7_mine_14 (by decide) (fun c6 => ?_) (fun c6 => ?_)
      · have h := tx_neg c6 h
        refine lv_aload_n hx hb dX7_mine_19 rfl (lv_at hl 0 rfl) ?_
        refine lv_iload_n hx hb dX7_mine_20 rfl (lv_at hl 1 rfl) ?_
        refine lv_iload_n hx hb dX7_mine_21 rfl (lv_at hl 2 rfl) ?_
        refine lv_iconst (v := 2) hx hb dX7_mine_22 (by decide) ?_
        refine lv_icmp_lt (tgt := 30) hx hb dX7_mine_23 (by decide) (fun c7 => ?_) (fun c7 => ?_)
        · have h := tx_pos c7 h
          refine lv_iconst (v := 0) hx hb dX7_mine_30 (by decide) ?_
          exact w_X7_mine_J31 F x2 0 x1 L Tu q2 H locs ls h hP hD hS (lv_sub hl [2] rfl)
        · have h := tx_neg c7 h
          refine lv_iconst (v := 1) hx hb dX7_mine_26 (by decide) ?_
          refine lv_goto (tgt := 31) hx hb dX7_mine_27 (by decide) ?_
          exact w_X7_mine_J31 F x2 1 x1 L Tu q2 H locs ls h hP hD hS (lv_sub hl [2] rfl)
      · have h := tx_pos c6 h
        refine lv_iconst (v := (-1)) hx hb dX7_mine_17 (by decide) ?_
        obtain ⟨rfl, rfl, rfl, rfl⟩ := tx_4 h
        exact W.iret hx hb hr (fun t ht hW => ⟨⟨_, (), rfl, rfl, by rw [ht]; exact hP, hD⟩, hS.F ht⟩) hS.2.2 dX7_mine_18
