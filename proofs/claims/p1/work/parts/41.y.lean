/-! person: thrown by the class, caught by the law's own method -/
abbrev tqIO : String := "java/lang/IndexOutOfBoundsException"
abbrev XW : List Cond := (vx_atS RX7 119 "java/lang/IndexOutOfBoundsException" ["java/lang/RuntimeException", "java/lang/Exception"]).filter goodWord
abbrev T1 : List Cond := T0 ++ XW
theorem tq_good1 : ∀ w ∈ T1, goodWord w = true := fun w h => (List.mem_append.mp h).elim (tq_good w) (fun q => (List.mem_filter.mp q).2)
theorem tq_T1 {w : Cond} (h : w ∈ T0) : w ∈ T1 := List.mem_append_left _ h
def tqX (sP : Nat) (A : Nat → Prop) (U : State) (H : Heap) : Prop := vk_R "RackTrain" 117 "no such person" sP U ∧ va_Nw (.castable tqIO tqIO) U ∧ (va_Nw (.declares (Bundle.initS "java/lang/RuntimeException")) U ∧ va_Nw (.declares (Bundle.initS "java/lang/Exception")) U ∧ va_Nw (.declares (Bundle.initS Bundle.tN)) U) ∧ vx_Zq Bundle.tN "UNASSIGNED_STACK" Bundle.steD A U H ∧ vx_Zq Bundle.tN "SUPPRESSED_SENTINEL" Bundle.listD A U H
theorem tqX.warm {sP : Nat} {A : Nat → Prop} {s U : State} {H : Heap} (hW : s.WarmedH U.vm) (h : tqX sP A s H) : tqX sP A U H := ⟨h.1.warm hW, va_Nw.warmC hW h.2.1, ⟨va_Nw.warmD hW h.2.2.1.1, va_Nw.warmD hW h.2.2.1.2.1, va_Nw.warmD hW h.2.2.1.2.2⟩, h.2.2.2.1.moved hW.alike, h.2.2.2.2.moved hW.alike⟩
theorem tqX.call {sP : Nat} {A : Nat → Prop} {U : State} {H : Heap} {g : JFrame} {mk : MethodId} {a : Array Value} (h : tqX sP A U H) : tqX sP A (U.calling g mk a) H := ⟨vk_R.same (u := U) rfl h.1, va_Nw.same rfl rfl h.2.1, ⟨va_Nw.same rfl rfl h.2.2.1.1, va_Nw.same rfl rfl h.2.2.1.2.1, va_Nw.same rfl rfl h.2.2.1.2.2⟩, vx_Zq.moved (u := U) (Vm.Alike.refl U.vm) h.2.2.2.1, vx_Zq.moved (u := U) (Vm.Alike.refl U.vm) h.2.2.2.2⟩
theorem tqX.kept {sP : Nat} {A : Nat → Prop} {U : State} {H H1 : Heap} (h : tqX sP A U H) (hq : ∀ a : Nat, a < H.size → ¬ A a → H1[a]? = H[a]?) : tqX sP A U H1 := ⟨h.1, h.2.1, h.2.2.1, h.2.2.2.1.kept hq, h.2.2.2.2.kept hq⟩
theorem tqX.narrow {sP : Nat} {A B : Nat → Prop} {U : State} {H : Heap} (h : tqX sP A U H) (hAB : ∀ q, B q → A q) : tqX sP B U H := ⟨h.1, h.2.1, h.2.2.1, h.2.2.2.1.narrow hAB, h.2.2.2.2.narrow hAB⟩
def tqP3 (G : va_G) (cA : Nat → ClassId) (sP : Nat) (av : List Value) (ws : va_W) (sz : Nat) : Array Value → State → Prop := va_Pc av (fun U => U.heap.size = sz ∧ va_P G vwCl ws U.heap ∧ va_K G vwCl (tyL cA) U ∧ va_D (fun _ => True) ws ∧ tqN U ∧ tqX sP (va_A ws sz) U U.heap)
theorem tqP3.blind {G : va_G} {cA : Nat → ClassId} {sP : Nat} {av : List Value} {ws : va_W} {sz : Nat} : FrameBlind (tqP3 G cA sP av ws sz) := fun _ U _ _ q => ⟨q.1, q.2.1, q.2.2.1, va_K.moved (u := U) (Vm.Alike.refl U.vm) q.2.2.2.1, q.2.2.2.2.1, q.2.2.2.2.2.1.call, q.2.2.2.2.2.2.call⟩
theorem tq_pre3 {s : State} {H : Heap} {locs : List Loc} {G : va_G} {cA : Nat → ClassId} {ws wc : va_W} {A : Nat → Prop} {sP : Nat} {isC : List Nat} {av : List Value} (hP : va_P G vwCl ws H) (hD : va_D A ws) (hK : va_K G vwCl (tyL cA) s) (hN : tqN s) (hC : isC.map (fun i => ws[i]?) = wc.map some) (hn : va_nd isC = true) (hS : va_S A s.heap H locs) (hA : ∀ q : Nat, s.heap.size ≤ q → A q) (hXx : tqX sP A s s.heap) : PreS s H (tqP3 G cA sP av wc H.size) av := by
  obtain ⟨hP1, hD1⟩ := tq_cut hP hD hC hn
  have hFc := va_free (wc := wc) hD hS hA isC hC
  exact ⟨tqP3.blind, fun U hU hW => ⟨rfl, by rw [hU], by rw [hU]; exact hP1, va_K.moved hW.alike hK, hD1, hN.warm hW, by rw [hU]; exact ((hXx.kept hS.2.1).narrow hFc).warm hW⟩⟩
set_option maxHeartbeats 4000000 in
set_option maxRecDepth 100000 in
theorem c_X7_person (l : Launch) (hst : l.stackTraces = false) (G : va_G) (cA : Nat → ClassId) (sz : Nat) (h0 : Nat) (x y : Int32) (fs : List Value) (pa : Nat) (ps : List Value) (sP : Nat) (hf : fh fs 12 [(1, .ref pa)]) (hp : fh ps 19 [(1, .int 0)]) : vx_Met l yX7_person (.code yX7_person cX7_person 3 (some .int) :: T1) ({ frames := 6, cells := 1, slots := 6, locals := 90 }) (tqP3 G cA sP [.ref h0, .int x, .int y] [(h0, .inr (7, fs)), (pa, .inr (2, ps))] sz) (va_Qi (fun (_ : Int32) (_ : Unit) => False) (fun _ _ => True) (va_A [(h0, .inr (7, fs)), (pa, .inr (2, ps))] sz)) (vx_X (fun (_ : Unit) => True) (fun E _ _ => E = tqIO) (va_A [(h0, .inr (7, fs)), (pa, .inr (2, ps))] sz)) 1 6 (va_A [(h0, .inr (7, fs)), (pa, .inr (2, ps))] sz) := by
  refine vx_ofW (cc := cX7_person) (maxL := 3) (ret := (some .int)) (by decide) rfl ?_
  intro p e s m args below meth c s₁ B hml htab hv
  obtain ⟨rfl, hsz, hP, hK, hD0, hN, hXx⟩ := hv
  have hx := B.exec
  have hb := B.bytes
  have hr := B.returns
  have hts := atoms_spec (ws := .code yX7_person cX7_person 3 (some .int) :: T1) B.pre
  have hT1 : ∀ w ∈ T1, w.before _ s = true := fun w h => hts w (List.mem_cons_of_mem _ h)
  have hT : ∀ w ∈ T0, w.before _ s = true := fun w h => hT1 w (tq_T1 h)
  have hown : s.vm.findClass RX7 = some m.cls := findClass_of_methodNamed B.named
  have hlocks := B.notSynchronized
  subst hsz
  have hD := hD0.self (sz := s.heap.size)
  generalize hAe : va_A [(h0, .inr (7, fs)), (pa, .inr (2, ps))] s.heap.size = A at hD hXx ⊢
  have hA : ∀ q : Nat, s.heap.size ≤ q → A q := fun q h => by rw [← hAe]; exact Or.inr h
  have hS : va_S A s.heap s.heap [] := va_S.rf
  have hl := lv_entry ([.ref h0, .int x, .int y]) (n := 3) (Nat.le_of_ble_eq_true rfl)
  rw [lg_entry_eq]
  generalize (lg_sl ([.ref h0, .int x, .int y]) ++ List.replicate (3 - (lg_sl ([.ref h0, .int x, .int y])).length) Slot.unset).toArray = ls at hl ⊢
  have hl : lv_has ls 3 [(0, .ref h0), (1, .int x), (2, .int y)] := hl
  obtain ⟨H, hH⟩ : ∃ z, z = s.heap := ⟨_, rfl⟩
  rw [← hH] at hP
  have hS : va_S A s.heap H [] := by rw [hH]; exact hS
  suffices hgo : W p l e _ s m _ below meth c H [] 0 0 _ _ by rw [hH] at hgo; exact hgo
  refine lv_aload_n hx hb dX7_person_0 rfl (lv_at hl 0 rfl) ?_
  refine lv_iload_n hx hb dX7_person_1 rfl (lv_at hl 1 rfl) ?_
  refine tq_ci (wr := []) hP hD hS hA [0, 1] [] rfl rfl (by decide) (by decide) (va_runV (As := [.int x]) (rest := []) ⟨hx, hb, hml, hown, hT⟩ (c_X7_isPerson l G cA H.size h0 x fs pa ps (fh_sub hf [0] rfl) (fh_sub hp [0] rfl)) (cwV 1 hT (tq_gV kw_29_3 kw_29_4 kw_29_5 kw_1_2 kw_29_6) rfl rfl rfl (by decide +kernel) ⟨Nat.le_of_ble_eq_true rfl, Nat.le_of_ble_eq_true rfl⟩) ⟨(tq_pre (isC := [0, 1]) hP hD hK hN rfl (by decide)).1, va_recv hK hP (ci := 7) (q0 := 0) rfl rfl, (tq_pre (isC := [0, 1]) hP hD hK hN rfl (by decide)).2⟩ rfl rfl hl.1 rfl (lv_room (Nat.le_of_ble_eq_true rfl)) dX7_person_2 ⟨Nat.le_of_ble_eq_true rfl, Nat.le_of_ble_eq_true rfl⟩) (fun r u H locs hw hP hD hS => ?_)
  refine W.widen (k := 0) (n := 0) (Nat.le_of_ble_eq_true rfl) (Nat.le_of_ble_eq_true rfl) ?_
  subst hw
  refine lv_if_ne (tgt := 18) hx hb dX7_person_5 (by decide) (fun c1 => absurd (by decide) c1) (fun c1 => ?_)
  refine vx_throwS (text := "no such person") (names := ["java/lang/RuntimeException", "java/lang/Exception"]) (cls := tqIO) (own := RX7) (sa := sP) (is := 117) (ic := 119) (ik := 115) hx hb hst hown (by decide +kernel) (by decide +kernel) (hT _ kw_28_18) (hT _ kw_28_19) hXx.1 (vx_hat (B := [.castable tqIO tqIO, .declares (Bundle.initS "java/lang/RuntimeException"), .declares (Bundle.initS "java/lang/Exception"), .declares (Bundle.initS Bundle.tN)]) (fun w h => hT1 w (List.mem_append_right _ h)) (by decide +kernel) (vx_c (va_Nw.use rfl hXx.2.1) (vx_c (va_Nw.use rfl hXx.2.2.1.1) (vx_c (va_Nw.use rfl hXx.2.2.1.2.1) (vx_c (va_Nw.use rfl hXx.2.2.1.2.2) vx_n))))) (by decide +kernel) hXx.2.2.2.1 hXx.2.2.2.2 hS (hl.1.trans hml.symm) dX7_person_8 dX7_person_11 dX7_person_12 dX7_person_14 dX7_person_17 (fun z hz => (htab z hz).elim) (by decide) (by decide) (by decide) (by decide) hlocks ?_ (fun z hz => hS.2.2 z hz) (by decide) (by decide)
  intro t hvm h1 h2
  exact ⟨(), trivial, rfl, Nat.le_trans hS.1 h1, fun q hq hn => by rw [h2 q (Nat.lt_of_lt_of_le hq hS.1)]; exact hS.2.1 q hq hn⟩
set_option maxHeartbeats 4000000 in
set_option maxRecDepth 100000 in
theorem c_L_person (l : Launch) (hst : l.stackTraces = false) (G : va_G) (cA : Nat → ClassId) (sz : Nat) (h0 : Nat) (x y : Int32) (oa : Nat) (fs : List Value) (pa : Nat) (ps : List Value) (sP : Nat) (hf : fh fs 12 [(1, .ref pa)]) (hp : fh ps 19 [(1, .int 0)]) : Met l yL_person (.codeWith yL_person cL_person 5 (some .int) [(0, 10, 13, 13), (0, 10, 17, 15)] :: T1) ({ frames := 7, cells := 1, slots := 6, locals := 120 }) (tqP3 G cA sP [.ref h0, .int x, .int y, .ref oa] [(h0, .inr (7, fs)), (pa, .inr (2, ps))] sz) (tqQi G cA (fun (r : Int32) (_ : Unit) => r = 1) (fun _ => []) (va_A [(h0, .inr (7, fs)), (pa, .inr (2, ps))] sz)) 1 6 (va_A [(h0, .inr (7, fs)), (pa, .inr (2, ps))] sz) := by
  refine va_MetW (cc := cL_person) (maxL := 5) (ret := (some .int)) (hh := [(0, 10, 13, 13), (0, 10, 17, 15)]) (by decide) rfl ?_
  intro p e s m args below meth c s₁ B hml hv
  obtain ⟨rfl, hsz, hP, hK, hD0, hN, hXx⟩ := hv
  have hx := B.exec
  have hb := B.bytes
  have hr := B.returns
  have hts := atoms_spec (ws := .codeWith yL_person cL_person 5 (some .int) [(0, 10, 13, 13), (0, 10, 17, 15)] :: T1) B.pre
  have htab := vx_table (x := yL_person) B (hts _ List.mem_cons_self)
  have hT1 : ∀ w ∈ T1, w.before _ s = true := fun w h => hts w (List.mem_cons_of_mem _ h)
  have hT : ∀ w ∈ T0, w.before _ s = true := fun w h => hT1 w (tq_T1 h)
  have hown : s.vm.findClass RL = some m.cls := findClass_of_methodNamed B.named
  have hlocks := B.notSynchronized
  subst hsz
  have hD := hD0.self (sz := s.heap.size)
  generalize hAe : va_A [(h0, .inr (7, fs)), (pa, .inr (2, ps))] s.heap.size = A at hD hXx ⊢
  have hA : ∀ q : Nat, s.heap.size ≤ q → A q := fun q h => by rw [← hAe]; exact Or.inr h
  have hS : va_S A s.heap s.heap [] := va_S.rf
  have hl := lv_entry ([.ref h0, .int x, .int y, .ref oa]) (n := 5) (Nat.le_of_ble_eq_true rfl)
  rw [lg_entry_eq]
  generalize (lg_sl ([.ref h0, .int x, .int y, .ref oa]) ++ List.replicate (5 - (lg_sl ([.ref h0, .int x, .int y, .ref oa])).length) Slot.unset).toArray = ls at hl ⊢
  have hl : lv_has ls 5 [(0, .ref h0), (1, .int x), (2, .int y), (3, .ref oa)] := hl
  obtain ⟨H, hH⟩ : ∃ z, z = s.heap := ⟨_, rfl⟩
  rw [← hH] at hP
  have hS : va_S A s.heap H [] := by rw [hH]; exact hS
  suffices hgo : W p l e _ s m _ below meth c H [] 0 0 _ _ by rw [hH] at hgo; exact hgo
  refine lv_aload_n hx hb dL_person_0 rfl (lv_at hl 3 rfl) ?_
  refine lv_iconst (v := 0) hx hb dL_person_1 (by decide) ?_
  refine lv_aload_n hx hb dL_person_2 rfl (lv_at hl 0 rfl) ?_
  refine lv_iload_n hx hb dL_person_3 rfl (lv_at hl 1 rfl) ?_
  refine lv_iload_n hx hb dL_person_4 rfl (lv_at hl 2 rfl) ?_
  have hFc := va_free (wc := [(h0, .inr (7, fs)), (pa, .inr (2, ps))]) hD hS hA [0, 1] rfl
  have hpre := tq_pre3 (isC := [0, 1]) (wc := [(h0, .inr (7, fs)), (pa, .inr (2, ps))]) (av := [.ref h0, .int x, .int y]) hP hD hK hN rfl (by decide) hS hA hXx
  have hG : GoodIn T1 (wsV RL 7 RX7 yX7_person (.code yX7_person cX7_person 3 (some .int) :: T1)) := by
    have key : ∀ w ∈ wsV RL 7 RX7 yX7_person (.code yX7_person cX7_person 3 (some .int) :: T1), w ∈ T1 := by
      intro w hw
      simp only [wsV, List.cons_append, List.nil_append, List.mem_cons] at hw
      rcases hw with rfl | rfl | rfl | rfl | rfl | hw
      · exact tq_T1 kw_28_14
      · exact tq_T1 kw_28_15
      · exact tq_T1 kw_28_16
      · exact tq_T1 kw_1_2
      · exact tq_T1 kw_28_17
      · exact hw
    exact fun w hw => ⟨key w hw, good_of_word (tq_good1 w (key w hw))⟩
  refine vx_calli (vx_runV (As := [.int x, .int y]) (rest := [.int 0, .ref oa]) ⟨hx, hb, hml, hown, hT1⟩ (c_X7_person l hst G cA H.size h0 x y fs pa ps sP hf hp) (cwV 2 hT1 hG rfl rfl rfl (by decide +kernel) ⟨Nat.le_of_ble_eq_true rfl, Nat.le_of_ble_eq_true rfl⟩) ⟨hpre.1, va_recv hK hP (ci := 7) (q0 := 0) rfl rfl, hpre.2⟩ rfl rfl hl.1 rfl (lv_room (Nat.le_of_ble_eq_true rfl)) dL_person_5 ⟨Nat.le_of_ble_eq_true rfl, Nat.le_of_ble_eq_true rfl⟩) hS (fun q _ h => hFc q h) hFc (fun q _ h => hFc q h) (fun E ce q9 u t H1 locs1 ht hvm _ hE hz hk1 hS1 hce hcv hcl => ?_) (fun r u t H1 locs1 ht hvm hw hB hz1 hk1 hS => hw.elim)
  subst hE
  refine tq_catch (own := RL) (name := tqIO) (E := tqIO) (ce := ce) hown ⟨0, 10, 13, 13⟩ [⟨0, 10, 17, 15⟩] htab (by decide) (by decide) (hT _ kw_28_12) (va_Nw.use rfl hXx.2.1) hce hcv hcl ?_
  refine W.widen (k := 1) (n := 6) (Nat.le_of_ble_eq_true rfl) (Nat.le_of_ble_eq_true rfl) ?_
  refine lv_astore (lv' := [(4, .ref q9), (0, .ref h0), (1, .int x), (2, .int y), (3, .ref oa)]) hx hb dL_person_13 hl (by decide) rfl (fun ls hl => ?_)
  refine lv_iconst (v := 1) hx hb dL_person_15 (by decide) ?_
  have hP9 : va_P G vwCl [] H1 := fun k q h => by simp at h
  have hD9 : va_D A [] := ⟨fun i j p q h => by simp at h, fun k q h => by simp at h⟩
  exact W.iret (v := 1) hx hb hr (fun t ht hW => ⟨⟨1, (), rfl, rfl, by rw [ht]; exact hP9, hD9⟩, hS1.F ht⟩) hS1.2.2 dL_person_16
