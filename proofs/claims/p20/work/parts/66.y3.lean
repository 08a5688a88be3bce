theorem wl_cons {α : Type} {a : α} {l : List α} : (a :: l).Perm (l ++ [a]) := (List.perm_append_singleton a l).symm
set_option maxHeartbeats 4000000 in
set_option maxRecDepth 100000 in
theorem c_L_person (l : Launch) (hst : l.stackTraces = false) (G : va_G) (cA : Nat → ClassId) (sz : Nat) (xa : Nat → Nat) (ka : Nat → Nat) (ra : Nat → Nat) (na : Nat → Nat) (ia : Nat → Nat) (ua : Nat → Nat) (va : Nat → Nat) (ca : Nat → Nat) (za : Nat → Nat) (pa : Nat → Nat) (qa : Nat → Nat) (X : Tr) (K : Tr) (R : Tr) (P : Tr) (L : Lo) (P2 : Tr) (L2 : Lo) (Tn : Tr) (Ti : Tr) (Tu : Tr) (Tv : Tr) (C : Tr) (Z : Tr) (q0 : Nat) (q1 : Nat) (q2 : Nat) (q3 : Nat) (q4 : Nat) (q5 : Nat) (oa : Nat) (og : Nat → Int64) (x1 x2 : Int32) (sP sQ : Nat) (r0 : Int32) (h : f_X7_person pa qa P Tn q4 x1 x2 = some r0) : Met l yL_person (.codeWith yL_person cL_person 5 (some .int) [(0, 10, 13, 13), (0, 10, 17, 15)] :: T1) ({ frames := 7, cells := 1, slots := 6, locals := 120 }) (tqP3 G cA sP sQ [.ref (xa 0), .int x1, .int x2, .ref oa] ((oa, .inl (cA 2, 1, .inr (.inl og))) :: wX cA xa ka ra na ia ua va ca za pa qa X K R P L P2 L2 Tn Ti Tu Tv C Z q0 q1 q2 q3 q4 q5) sz) (tqQi G cA (fun (_ : Int32) (_ : Nat → Int64) => True) (fun u => (oa, .inl (cA 2, 1, .inr (.inl u))) :: wX cA xa ka ra na ia ua va ca za pa qa X K R P L P2 L2 Tn Ti Tu Tv C Z q0 q1 q2 q3 q4 q5) (va_A ((oa, .inl (cA 2, 1, .inr (.inl og))) :: wX cA xa ka ra na ia ua va ca za pa qa X K R P L P2 L2 Tn Ti Tu Tv C Z q0 q1 q2 q3 q4 q5) sz)) 1 6 (va_A ((oa, .inl (cA 2, 1, .inr (.inl og))) :: wX cA xa ka ra na ia ua va ca za pa qa X K R P L P2 L2 Tn Ti Tu Tv C Z q0 q1 q2 q3 q4 q5) sz) := by
  refine va_MetW (cc := cL_person) (maxL := 5) (ret := (some .int)) (hh := [(0, 10, 13, 13), (0, 10, 17, 15)]) (by decide) rfl ?_
  intro p e s m args below meth c s₁ B hml hv
  obtain ⟨rfl, hsz, hP, hK, hD0, hN, hXx⟩ := hv
  have hx := B.exec
  have hb := B.bytes
  have hr := B.returns
  have hts := atoms_spec (ws := .codeWith yL_person cL_person 5 (some .int) [(0, 10, 13, 13), (0, 10, 17, 15)] :: T1) B.pre
  have htab := vx_table (x := yL_person) B (hts _ List.mem_cons_self)
  have hT1 : ∀ w ∈ T1, w.before _ s = true := fun w h => hts w (List.mem_cons_of_mem _ h)
  have hT : ∀ w ∈ T0, w.before _ s = true := fun w h => hT1 w (tq_T1 h)
  have hown : s.vm.findClass RL = some m.cls := findClass_of_methodNamed B.named
  have hlocks := B.notSynchronized
  subst hsz
  have hD := hD0.self (sz := s.heap.size)
  obtain ⟨wx, hwx⟩ : ∃ z, z = wX cA xa ka ra na ia ua va ca za pa qa X K R P L P2 L2 Tn Ti Tu Tv C Z q0 q1 q2 q3 q4 q5 := ⟨_, rfl⟩
  rw [← hwx] at hP hD0 hD hXx ⊢
  generalize hAe : va_A ((oa, .inl (cA 2, 1, .inr (.inl og))) :: wx) s.heap.size = A at hD hXx ⊢
  have hA : ∀ q : Nat, s.heap.size ≤ q → A q := fun q h => by rw [← hAe]; exact Or.inr h
  have hS : va_S A s.heap s.heap [] := va_S.rf
  have hl := lv_entry ([.ref (xa 0), .int x1, .int x2, .ref oa]) (n := 5) (Nat.le_of_ble_eq_true rfl)
  rw [lg_entry_eq]
  generalize (lg_sl ([.ref (xa 0), .int x1, .int x2, .ref oa]) ++ List.replicate (5 - (lg_sl ([.ref (xa 0), .int x1, .int x2, .ref oa])).length) Slot.unset).toArray = ls at hl ⊢
  have hl : lv_has ls 5 [(0, .ref (xa 0)), (1, .int x1), (2, .int x2), (3, .ref oa)] := hl
  obtain ⟨H, hH⟩ : ∃ z, z = s.heap := ⟨_, rfl⟩
  rw [← hH] at hP
  have hS : va_S A s.heap H [] := by rw [hH]; exact hS
  suffices hgo : W p l e _ s m _ below meth c H [] 0 0 _ _ by rw [hH] at hgo; exact hgo
  refine lv_aload_n hx hb dL_person_0 rfl (lv_at hl 3 rfl) ?_
  refine lv_iconst (v := 0) hx hb dL_person_1 (by decide) ?_
  refine lv_aload_n hx hb dL_person_2 rfl (lv_at hl 0 rfl) ?_
  refine lv_iload_n hx hb dL_person_3 rfl (lv_at hl 1 rfl) ?_
  refine lv_iload_n hx hb dL_person_4 rfl (lv_at hl 2 rfl) ?_
  have hp1 : List.Perm ((oa, .inl (cA 2, 1, .inr (.inl og))) :: wx) (wx ++ [(oa, .inl (cA 2, 1, .inr (.inl og)))]) := wl_cons
  have hFc := tw_free hp1 hD hS hA
  have hpre := tw_pre3 (av := [.ref (xa 0), .int x1, .int x2]) hp1 hP hD hK hN hS hA hXx
  have hDc := (tw_cut hp1 hP hD).2.1
  have hDt : va_D (fun _ => True) wx := hDc.weaken (fun _ _ _ _ => trivial)
  have hDs : va_D (va_A wx H.size) wx := hDt.self (sz := H.size)
  have hrec : ∃ cell : Cell, H[xa 0]? = some cell ∧ cell.vm.isStatics = false ∧ s.vm.findClass RX7 = some cell.cls := by
    have h9 := (tw_cut hp1 hP hD).1
    rw [hwx] at h9
    exact va_recv hK h9 (ci := 7) (q0 := 0) rfl rfl
  have hG : GoodIn T1 (wsV RL 7 RX7 yX7_person (.code yX7_person cX7_person 3 (some .int) :: T1)) := by
    have key : ∀ w ∈ wsV RL 7 RX7 yX7_person (.code yX7_person cX7_person 3 (some .int) :: T1), w ∈ T1 := by
      intro w hw
      simp only [wsV, List.cons_append, List.nil_append, List.mem_cons] at hw
      rcases hw with rfl | rfl | rfl | rfl | rfl | hw
      · exact tq_T1 kw_28_14
      · exact tq_T1 kw_28_15
      · exact tq_T1 kw_28_16
      · exact tq_T1 kw_1_2
      · exact tq_T1 kw_28_17
      · exact hw
    exact fun w hw => ⟨key w hw, good_of_word (tq_good1 w (key w hw))⟩
  have hM := c_X7_person l hst G cA H.size xa ka ra na ia ua va ca za pa qa X K R P L P2 L2 Tn Ti Tu Tv C Z q0 q1 q2 q3 q4 q5 x1 x2 sP sQ r0 h
  rw [← hwx] at hM
  refine vx_calli (vx_runV (As := [.int x1, .int x2]) (rest := [.int 0, .ref oa]) ⟨hx, hb, hml, hown, hT1⟩ hM (cwV 2 hT1 hG rfl rfl rfl (by decide +kernel) ⟨Nat.le_of_ble_eq_true rfl, Nat.le_of_ble_eq_true rfl⟩) ⟨hpre.1, hrec, hpre.2⟩ rfl rfl hl.1 rfl (lv_room (Nat.le_of_ble_eq_true rfl)) dL_person_5 ⟨Nat.le_of_ble_eq_true rfl, Nat.le_of_ble_eq_true rfl⟩) hS (fun q _ h => hFc q h) hFc (fun q _ h => hFc q h) (fun E ce q9 u t H1 locs1 ht hvm _ hE hz hk1 hS1 hce hcv hcl => ?_) (fun r u t H1 locs1 ht hvm hw hB hz1 hk1 hS => ?_)
  · obtain ⟨hE, hP1⟩ := hE
    rw [ht] at hP1
    obtain ⟨hP2, hD2⟩ := tw_join hp1 hP hD hk1 hFc hP1 hDs
    have hP2 := tw_P hp1.symm hP2
    have hD2 := tw_D hp1.symm hD2
    rcases hE with hE | hE
    · subst hE
      refine tq_catch (own := RL) (name := tqIO) (E := tqIO) (ce := ce) hown ⟨0, 10, 13, 13⟩ [⟨0, 10, 17, 15⟩] htab (by decide) (by decide) (hT _ kw_28_12) (va_Nw.use rfl hXx.2.1.1) hce hcv hcl ?_
      refine W.widen (k := 1) (n := 6) (Nat.le_of_ble_eq_true rfl) (Nat.le_of_ble_eq_true rfl) ?_
      refine lv_astore (lv' := [(4, .ref q9), (0, .ref (xa 0)), (1, .int x1), (2, .int x2), (3, .ref oa)]) hx hb dL_person_13 hl (by decide) rfl (fun ls hl => ?_)
      refine lv_iconst (v := 1) hx hb dL_person_15 (by decide) ?_
      exact W.iret (v := 1) hx hb hr (fun t ht hW => ⟨⟨1, og, rfl, trivial, by rw [ht]; exact hP2, hD2⟩, hS1.F ht⟩) hS1.2.2 dL_person_16
    · subst hE
      refine tq_catch2 (own := RL) (nameY := tqIO) (name := tqNE) (E := tqNE) (ce := ce) hown ⟨0, 10, 13, 13⟩ ⟨0, 10, 17, 15⟩ htab (by decide) (by decide) (by decide) (by decide) (hT _ kw_28_12) hXx.2.1.2.2 (hT _ kw_28_13) (va_Nw.use rfl hXx.2.1.2.1) hce hcv hcl ?_
      refine W.widen (k := 1) (n := 6) (Nat.le_of_ble_eq_true rfl) (Nat.le_of_ble_eq_true rfl) ?_
      refine lv_astore (lv' := [(4, .ref q9), (0, .ref (xa 0)), (1, .int x1), (2, .int x2), (3, .ref oa)]) hx hb dL_person_17 hl (by decide) rfl (fun ls hl => ?_)
      refine lv_iconst (v := 2) hx hb dL_person_19 (by decide) ?_
      exact W.iret (v := 2) hx hb hr (fun t ht hW => ⟨⟨2, og, rfl, trivial, by rw [ht]; exact hP2, hD2⟩, hS1.F ht⟩) hS1.2.2 dL_person_20
  · obtain ⟨hP1, hD1⟩ := hB
    rw [ht] at hP1
    obtain ⟨hP2, hD2⟩ := tw_join hp1 hP hD hk1 hFc hP1 hD1
    have hP := tw_P hp1.symm hP2
    have hD := tw_D hp1.symm hD2
    refine W.widen (k := 1) (n := 6) (Nat.le_of_ble_eq_true rfl) (Nat.le_of_ble_eq_true rfl) ?_
    refine lv_i2l hx hb dL_person_8 rfl ?_
    refine va_last (i := 0) hx hb hK hP hD hS 0 2 rfl rfl (tq_in (by decide)) dL_person_9 (fun H locs hP hD hS => ?_)
    refine lv_goto (tgt := 21) hx hb dL_person_10 (by decide) ?_
    refine lv_iconst (v := 0) hx hb dL_person_21 (by decide) ?_
    exact W.iret (v := 0) hx hb hr (fun t ht hW => ⟨⟨0, vp_updL og (0 : Int32).toNatClampNeg r.toInt64, rfl, trivial, by rw [ht]; exact hP, hD⟩, hS.F ht⟩) hS.2.2 dL_person_22
