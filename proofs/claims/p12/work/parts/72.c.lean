/-! the words, as the constructor of Tokens packs them: the class tells 'or' ahead of 'and' -/
def wrX (j : Nat) : Int32 := if 103 ≤ j ∧ j ≤ 109 then List.getD [111, 114, 32, 97, 110, 100, 32] (j - 103) 0 else wr j
def wrdS : Nat → Int32 × Int32 × Int32
  | 0 => (0, 0, 0)
  | i + 1 => bif wrX i == 32 then ((wrdS i).1 + 1, 0, 0) else ((wrdS i).1, ((wrdS i).2.1 <<< ((5 : Int32) &&& 31)) ||| ((wrX i - 97) + 1), (wrdS i).2.2 + 1)
def wrdI (ii wd le si : Int32) (fw : Nat → Int32) : Prop := (wd, le, si) = wrdS ii.toNatClampNeg ∧ ∀ k, k < wd.toNatClampNeg → fw k = wv k
theorem ws_32 : ∀ i, i < 153 → wrX i = 32 → ((wrdS i).2.1 <<< (((5 : Int32) * ((6 : Int32) - (wrdS i).2.2)) &&& 31)) = wv (wrdS i).1.toNatClampNeg := by decide +kernel
theorem ws_ch : ∀ i, i < 153 → (((wrX i) &&& 255).toUInt32 % 65536).toInt32 = wrX i := by decide +kernel
theorem ws_end : (wrdS 153).1 = 29 := by decide +kernel
theorem wrdI_0 {fw : Nat → Int32} : wrdI 0 0 0 0 fw := ⟨rfl, fun k hk => absurd hk (Nat.not_lt_zero k)⟩
theorem wrdI_e2 {ii wd le si : Int32} {fw : Nat → Int32} (h : wrdI ii wd le si fw) (hw : 0 ≤ wd.toInt ∧ wd.toInt ≤ 29) (h29 : 29 ≤ wd.toInt) : ∀ k, k < 29 → fw k = wv k := fun k hk => h.2 k (by rw [i_cn (n := 29) (by omega)]; exact hk)
theorem wrdI_e1 {ii wd le si : Int32} {fw : Nat → Int32} (h : wrdI ii wd le si fw) (hi : 0 ≤ ii.toInt ∧ ii.toInt ≤ 153) (h3 : 153 ≤ ii.toInt) : ∀ k, k < 29 → fw k = wv k := fun k hk => by
  have e := h.1
  rw [i_cn (x := ii) (n := 153) (by omega)] at e
  have e1 : wd = 29 := by rw [← ws_end, ← e]
  refine h.2 k ?_
  rw [e1]; exact hk
theorem wrdI_r {fb : Nat → Int32} (hfb : ∀ j, j < 153 → fb j = wrX j) {ii r : Int32} (hi : 0 ≤ ii.toInt ∧ ii.toInt ≤ 153) (hl : ii.toInt < 153) (hr : r = (((fb ii.toNatClampNeg) &&& 255).toUInt32 % 65536).toInt32) : r = wrX ii.toNatClampNeg := by
  have hn : ii.toNatClampNeg < 153 := by simp only [i_cl]; omega
  rw [hr, hfb _ hn]; exact ws_ch _ hn
theorem wrdI_n {ii x : Int32} (hi : 0 ≤ ii.toInt ∧ ii.toInt ≤ 153) (e : x = ii + Int32.ofInt 1) : x.toNatClampNeg = ii.toNatClampNeg + 1 := by
  have z : x.toInt = ii.toInt + 1 := by rw [e]; exact i_addK rfl (by decide) (by omega) (by omega)
  simp only [i_cl]; omega
theorem wrdI_s1 {fb : Nat → Int32} (hfb : ∀ j, j < 153 → fb j = wrX j) {ii wd le si r x123 x124 x125 : Int32} {fw : Nat → Int32} (h : wrdI ii wd le si fw) (hi : 0 ≤ ii.toInt ∧ ii.toInt ≤ 153) (hl : ii.toInt < 153) (hr : r = (((fb ii.toNatClampNeg) &&& 255).toUInt32 % 65536).toInt32) (c : ¬ r = 32) (e1 : x123 = (le <<< ((5 : Int32) &&& 31)) ||| ((r - 97) + 1)) (e2 : x124 = si + Int32.ofInt 1) (e3 : x125 = ii + Int32.ofInt 1) : wrdI x125 wd x123 x124 fw := by
  have er := wrdI_r hfb hi hl hr
  refine ⟨?_, h.2⟩
  rw [wrdI_n hi e3]
  have hb : (wrX ii.toNatClampNeg == 32) = false := by rw [← er]; exact beq_false_of_ne c
  have e : wrdS (ii.toNatClampNeg + 1) = bif wrX ii.toNatClampNeg == 32 then ((wrdS ii.toNatClampNeg).1 + 1, 0, 0) else ((wrdS ii.toNatClampNeg).1, ((wrdS ii.toNatClampNeg).2.1 <<< ((5 : Int32) &&& 31)) ||| ((wrX ii.toNatClampNeg - 97) + 1), (wrdS ii.toNatClampNeg).2.2 + 1) := rfl
  rw [e, hb, ← h.1, ← er, e1, e2]
  rfl
theorem wrdI_s2 {fb : Nat → Int32} (hfb : ∀ j, j < 153 → fb j = wrX j) {ii wd le si r x131 x132 : Int32} {fw f130 : Nat → Int32} (h : wrdI ii wd le si fw) (hi : 0 ≤ ii.toInt ∧ ii.toInt ≤ 153) (hl : ii.toInt < 153) (hw : 0 ≤ wd.toInt ∧ wd.toInt ≤ 29) (hw2 : wd.toInt < 29) (hr : r = (((fb ii.toNatClampNeg) &&& 255).toUInt32 % 65536).toInt32) (c : r = 32) (e1 : f130 = upd fw wd.toNatClampNeg (le <<< (((5 : Int32) * ((6 : Int32) - si)) &&& 31))) (e2 : x131 = wd + Int32.ofInt 1) (e3 : x132 = ii + Int32.ofInt 1) : wrdI x132 x131 0 0 f130 := by
  have er := wrdI_r hfb hi hl hr
  have hn : ii.toNatClampNeg < 153 := by simp only [i_cl]; omega
  have w32 : wrX ii.toNatClampNeg = 32 := er.symm.trans c
  have zw : x131.toNatClampNeg = wd.toNatClampNeg + 1 := by
    have z : x131.toInt = wd.toInt + 1 := by rw [e2]; exact i_addK rfl (by decide) (by omega) (by omega)
    simp only [i_cl]; omega
  constructor
  · rw [wrdI_n hi e3]
    have hb : (wrX ii.toNatClampNeg == 32) = true := by rw [w32]; rfl
    have e : wrdS (ii.toNatClampNeg + 1) = bif wrX ii.toNatClampNeg == 32 then ((wrdS ii.toNatClampNeg).1 + 1, 0, 0) else ((wrdS ii.toNatClampNeg).1, ((wrdS ii.toNatClampNeg).2.1 <<< ((5 : Int32) &&& 31)) ||| ((wrX ii.toNatClampNeg - 97) + 1), (wrdS ii.toNatClampNeg).2.2 + 1) := rfl
    rw [e, hb, ← h.1, e2]
    rfl
  · intro k hk
    rw [zw] at hk
    rw [e1]
    have v := ws_32 _ hn w32
    rw [← h.1] at v
    rcases Nat.lt_succ_iff_lt_or_eq.mp hk with g | g
    · have : upd fw wd.toNatClampNeg (le <<< (((5 : Int32) * ((6 : Int32) - si)) &&& 31)) k = fw k := by simp [upd, Nat.ne_of_lt g]
      rw [this]; exact h.2 k g
    · have : upd fw wd.toNatClampNeg (le <<< (((5 : Int32) * ((6 : Int32) - si)) &&& 31)) k = (le <<< (((5 : Int32) * ((6 : Int32) - si)) &&& 31)) := by rw [g]; simp [upd]
      rw [this, g]; exact v
set_option maxHeartbeats 4000000 in
set_option maxRecDepth 100000 in
theorem c_X5_init (l : Launch) (G : va_G) (cA : Nat → ClassId) (sz : Nat) (h0 : Nat) (fs : List Value) (sA : Nat) (vA : Nat) (fb : Nat → Int32) (hfb : ∀ j, j < 153 → fb j = wrX j) (hf : fh fs 8 [(0, .int 0), (1, .int 0), (2, .int 0), (3, .int 0), (4, .null), (5, .null), (6, .int 0), (7, .int 0)]) : Met l yX5_init (.code yX5_init cX5_init 6 none :: T0) ({ frames := 4, cells := 2, slots := 729, locals := 85 }) (tqP2 G cA sA vA fb [.ref h0] [(h0, .inr (5, fs))] sz) (tqQv G cA (fun (u : List Value × Nat × (Nat → Int32) × Nat × (Nat → Int32)) => (fo fs u.1 [5, 4] ∧ fh u.1 8 [(5, .ref u.2.2.2.1), (4, .ref u.2.1)]) ∧ ∀ k, k < 29 → u.2.2.2.2 k = wv k) (fun (u : List Value × Nat × (Nat → Int32) × Nat × (Nat → Int32)) => [(h0, .inr (5, u.1)), (u.2.1, .inl (cA 3, 700, .inl u.2.2.1)), (u.2.2.2.1, .inl (cA 0, 29, .inl u.2.2.2.2))]) (va_A [(h0, .inr (5, fs))] sz)) 2 729 (va_A [(h0, .inr (5, fs))] sz) := by
  refine Met.ofW (cc := cX5_init) (maxL := 6) (ret := none) (by decide) rfl ?_
  intro p e s m args below meth c s₁ B hml hv
  obtain ⟨rfl, hsz, hP, hK, hD0, hN, hSt, hR⟩ := hv
  have hx := B.exec
  have hb := B.bytes
  have hr := B.returns
  have hts := atoms_spec (ws := .code yX5_init cX5_init 6 none :: T0) B.pre
  have hT : ∀ w ∈ T0, w.before _ s = true := fun w h => hts w (List.mem_cons_of_mem _ h)
  have hown : s.vm.findClass RX5 = some m.cls := findClass_of_methodNamed B.named
  have hlocks := B.notSynchronized
  have hin : meth.name = "<init>" := (name_of_methodNamed B.named B.method).1
  subst hsz
  have hD := hD0.self (sz := s.heap.size)
  generalize hAe : va_A [(h0, .inr (5, fs))] s.heap.size = A at hD hSt ⊢
  have hA : ∀ q : Nat, s.heap.size ≤ q → A q := fun q h => by rw [← hAe]; exact Or.inr h
  have hS : va_S A s.heap s.heap [] := va_S.rf
  have hl := lv_entry ([.ref h0]) (n := 6) (Nat.le_of_ble_eq_true rfl)
  rw [lg_entry_eq]
  generalize (lg_sl ([.ref h0]) ++ List.replicate (6 - (lg_sl ([.ref h0])).length) Slot.unset).toArray = ls at hl ⊢
  have hl : lv_has ls 6 [(0, .ref h0)] := hl
  obtain ⟨H, hH⟩ : ∃ z, z = s.heap := ⟨_, rfl⟩
  rw [← hH] at hP
  have hS : va_S A s.heap H [] := by rw [hH]; exact hS
  suffices hgo : W p l e _ s m _ below meth c H [] 0 0 _ _ by rw [hH] at hgo; exact hgo
  have hO := hN.2.2.2.2
  have ho_hf := fo_refl fs
  refine lv_aload_n hx hb dX5_init_0 rfl (lv_at hl 0 rfl) ?_
  refine W.objInit hx hb hown (hT _ kw_3_9) (hT _ kw_1_11) (hT _ kw_1_12) rfl (by rw [hml]; exact hl.1) rfl dX5_init_1 (Nat.le_of_ble_eq_true rfl) (Nat.le_of_ble_eq_true rfl) ?_
  refine W.eq (g2 := F0 m 4 ls []) rfl ?_
  refine lv_aload_n hx hb dX5_init_4 rfl (lv_at hl 0 rfl) ?_
  refine lv_sipush (v := 700) hx hb dX5_init_5 (by decide) ?_
  refine tq_newa (atype := .byte) (ty := .byte) (n := 700) (N' := 700) (a0 := (700, .inl (fun _ => 0))) hx hb (hT _ kw_3_10) rfl hK hP hD hS hA 3 (cA 3) rfl (fun _ => rfl) (by decide) (by decide) (by decide) (Nat.le_of_ble_eq_true rfl) (Nat.le_of_ble_eq_true rfl) dX5_init_8 (fun q101 H hP hD hS => ?_)
  have hP : va_P G vwCl [(h0, .inr (5, fs)), (q101, .inl (cA 3, 700, .inl ((fun _ => 0))))] H := hP
  have hD : va_D A [(h0, .inr (5, fs)), (q101, .inl (cA 3, 700, .inl ((fun _ => 0))))] := hD
  refine W.widen (k := 1) (n := 700) (Nat.le_of_ble_eq_true rfl) (Nat.le_of_ble_eq_true rfl) ?_
  obtain ⟨f102, ef102⟩ : ∃ z : Nat → Int32, z = (fun _ => 0) := ⟨_, rfl⟩
  rw [← ef102] at hP hD
  refine va_putF (D := G) (ci := 5) (v := .ref q101) (ty := (.array .byte)) (C := RX5) (T := TX5) (N := 8) hx hb hT ku_5 tyX5 tyX5_ok nmX5 hown hK hP hD hS 0 rfl rfl 4 (by decide) (hT _ kw_3_11) (fun _ h9 => h9) rfl hin rfl (by decide +kernel) rfl rfl (fh_lt hf (by decide)) dX5_init_10 (fun H locs hP hD hS => ?_)
  have hP : va_P G vwCl [(h0, .inr (5, (fs.set 4 (.ref q101)))), (q101, .inl (cA 3, 700, .inl f102))] H := hP
  have hD : va_D A [(h0, .inr (5, (fs.set 4 (.ref q101)))), (q101, .inl (cA 3, 700, .inl f102))] := hD
  have hf := fh_set (l' := [(4, .ref q101), (0, .int 0), (1, .int 0), (2, .int 0), (3, .int 0), (5, .null), (6, .int 0), (7, .int 0)]) hf 4 (.ref q101) (by decide) rfl
  have ho104 := fo_set ho_hf 4 (.ref q101)
  generalize (fs.set 4 (.ref q101)) = fs103 at hP hD hf ho104
  refine lv_aload_n hx hb dX5_init_13 rfl (lv_at hl 0 rfl) ?_
  refine lv_bipush (v := 29) hx hb dX5_init_14 (by decide) ?_
  refine tq_newa (atype := .int) (ty := .int) (n := 29) (N' := 29) (a0 := (29, .inl (fun _ => 0))) hx hb (hT _ kw_2_13) rfl hK hP hD hS hA 0 (cA 0) rfl (fun _ => rfl) (by decide) (by decide) (by decide) (Nat.le_of_ble_eq_true rfl) (Nat.le_of_ble_eq_true rfl) dX5_init_16 (fun q105 H hP hD hS => ?_)
  have hP : va_P G vwCl [(h0, .inr (5, fs103)), (q101, .inl (cA 3, 700, .inl f102)), (q105, .inl (cA 0, 29, .inl ((fun _ => 0))))] H := hP
  have hD : va_D A [(h0, .inr (5, fs103)), (q101, .inl (cA 3, 700, .inl f102)), (q105, .inl (cA 0, 29, .inl ((fun _ => 0))))] := hD
  refine W.widen (k := 2) (n := 729) (Nat.le_of_ble_eq_true rfl) (Nat.le_of_ble_eq_true rfl) ?_
  obtain ⟨f106, ef106⟩ : ∃ z : Nat → Int32, z = (fun _ => 0) := ⟨_, rfl⟩
  rw [← ef106] at hP hD
  refine va_putF (D := G) (ci := 5) (v := .ref q105) (ty := (.array .int)) (C := RX5) (T := TX5) (N := 8) hx hb hT ku_5 tyX5 tyX5_ok nmX5 hown hK hP hD hS 0 rfl rfl 5 (by decide) (hT _ kw_3_12) (fun _ h9 => h9) rfl hin rfl (by decide +kernel) rfl rfl (fh_lt hf (by decide)) dX5_init_18 (fun H locs hP hD hS => ?_)
  have hP : va_P G vwCl [(h0, .inr (5, (fs103.set 5 (.ref q105)))), (q101, .inl (cA 3, 700, .inl f102)), (q105, .inl (cA 0, 29, .inl f106))] H := hP
  have hD : va_D A [(h0, .inr (5, (fs103.set 5 (.ref q105)))), (q101, .inl (cA 3, 700, .inl f102)), (q105, .inl (cA 0, 29, .inl f106))] := hD
  have hf := fh_set (l' := [(5, .ref q105), (4, .ref q101), (0, .int 0), (1, .int 0), (2, .int 0), (3, .int 0), (6, .int 0), (7, .int 0)]) hf 5 (.ref q105) (by decide) rfl
  have ho108 := fo_set ho104 5 (.ref q105)
  generalize (fs103.set 5 (.ref q105)) = fs107 at hP hD hf ho108
  refine lv_iconst (v := 0) hx hb dX5_init_21 (by decide) ?_
  refine lv_istore_n (lv' := [(1, .int 0), (0, .ref h0)]) hx hb dX5_init_22 rfl hl (by decide) rfl (fun ls hl => ?_)
  refine lv_iconst (v := 0) hx hb dX5_init_23 (by decide) ?_
  refine lv_istore_n (lv' := [(2, .int 0), (1, .int 0), (0, .ref h0)]) hx hb dX5_init_24 rfl hl (by decide) rfl (fun ls hl => ?_)
  refine lv_iconst (v := 0) hx hb dX5_init_25 (by decide) ?_
  refine lv_istore_n (lv' := [(3, .int 0), (2, .int 0), (1, .int 0), (0, .ref h0)]) hx hb dX5_init_26 rfl hl (by decide) rfl (fun ls hl => ?_)
  refine lv_iconst (v := 0) hx hb dX5_init_27 (by decide) ?_
  refine lv_istore (lv' := [(4, .int 0), (3, .int 0), (2, .int 0), (1, .int 0), (0, .ref h0)]) hx hb dX5_init_28 hl (by decide) rfl (fun ls hl => ?_)
  have loop : ∀ (n : Nat) (wd le si ii : Int32) (fw : Nat → Int32) (H : Heap) (locs : List Loc) (ls : Array Slot), (0 ≤ ii.toInt ∧ ii.toInt ≤ 153) → (0 ≤ wd.toInt ∧ wd.toInt ≤ 29) → (153 < ii.toInt + n) → wrdI ii wd le si fw → va_P G vwCl [(h0, .inr (5, fs107)), (q101, .inl (cA 3, 700, .inl f102)), (q105, .inl (cA 0, 29, .inl fw))] H → va_D A [(h0, .inr (5, fs107)), (q101, .inl (cA 3, 700, .inl f102)), (q105, .inl (cA 0, 29, .inl fw))] → va_S A s.heap H locs → lv_has ls 6 [(4, .int ii), (3, .int si), (2, .int le), (1, .int wd), (0, .ref h0)] → W p l e (headSpec (.code yX5_init cX5_init 6 none :: T0) ({ frames := 4, cells := 2, slots := 729, locals := 85 })).room s m ([.ref h0] : List Value).toArray below meth c H locs 2 729 (MQ below (tqQv G cA (fun (u : List Value × Nat × (Nat → Int32) × Nat × (Nat → Int32)) => (fo fs u.1 [5, 4] ∧ fh u.1 8 [(5, .ref u.2.2.2.1), (4, .ref u.2.1)]) ∧ ∀ k, k < 29 → u.2.2.2.2 k = wv k) (fun (u : List Value × Nat × (Nat → Int32) × Nat × (Nat → Int32)) => [(h0, .inr (5, u.1)), (u.2.1, .inl (cA 3, 700, .inl u.2.2.1)), (u.2.2.2.1, .inl (cA 0, 29, .inl u.2.2.2.2))]) A) ([.ref h0] : List Value).toArray s 2 729 A) (F0 m 30 ls []) := by
    intro n
    induction n with
    | zero => intro wd le si ii fw H locs ls h1 h2 h3 _; exfalso; omega
    | succ n ih =>
      intro wd le si ii fw H locs ls hi hw hn hI hP hD hS hl
      refine lv_iload hx hb dX5_init_30 (lv_at hl 0 rfl) ?_
      refine va_ldcS (tx := tqTX) hx hb hown hR dX5_init_32 ?_
      refine tq_ci (wr := [(h0, .inr (5, fs107)), (q101, .inl (cA 3, 700, .inl f102)), (q105, .inl (cA 0, 29, .inl fw))]) hP hD hS hA [] [0, 1, 2] rfl rfl (by decide) (by decide) (va_runV (As := []) (rest := [.int ii]) ⟨hx, hb, hml, hown, hT⟩ (c_J0_length_8abf5 l G cA H.size sA vA fb ) (cwV 0 hT (tq_gV kw_3_13 kw_3_14 kw_3_15 kw_3_16 kw_3_17) rfl rfl rfl (by decide +kernel) ⟨Nat.le_of_ble_eq_true rfl, Nat.le_of_ble_eq_true rfl⟩) ⟨(tq_pre2 (isC := []) hP hD hK hN rfl (by decide) hS hA hSt hR).1, va_Orecv hSt.1 hS, (tq_pre2 (isC := []) hP hD hK hN rfl (by decide) hS hA hSt hR).2⟩ rfl rfl hl.1 rfl (lv_room (Nat.le_of_ble_eq_true rfl)) dX5_init_34 ⟨Nat.le_of_ble_eq_true rfl, Nat.le_of_ble_eq_true rfl⟩) (fun r109 u110 H locs hw111 hP hD hS => ?_)
      refine W.widen (k := 2) (n := 729) (Nat.le_of_ble_eq_true rfl) (Nat.le_of_ble_eq_true rfl) ?_
      have hr112 := hw111
      subst hr112
      have hP : va_P G vwCl [(h0, .inr (5, fs107)), (q101, .inl (cA 3, 700, .inl f102)), (q105, .inl (cA 0, 29, .inl fw))] H := hP
      have hD : va_D A [(h0, .inr (5, fs107)), (q101, .inl (cA 3, 700, .inl f102)), (q105, .inl (cA 0, 29, .inl fw))] := hD
      refine lv_icmp_ge (tgt := 107) hx hb dX5_init_37 (by decide) (fun c113 => ?_) (fun c113 => ?_)
      · have k113 := tq_le (a := 153) (b := ii.toInt) (by decide) rfl c113
        have qho108 := fo_mono (k2 := [5, 4]) ho108 (by decide)
        exact W.vret hx hb hr (fun t ht hW => ⟨⟨(fs107, q101, f102, q105, fw), rfl, ⟨⟨qho108, fh_sub hf [0, 1] rfl⟩, wrdI_e1 hI hi (by omega)⟩, by rw [ht]; exact hP, hD⟩, hS.F ht⟩) hS.2.2 dX5_init_107
      · have k113 := tq_len (a := 153) (b := ii.toInt) (by decide) rfl c113
        refine lv_iload_n hx hb dX5_init_40 rfl (lv_at hl 3 rfl) ?_
        refine lv_bipush (v := 29) hx hb dX5_init_41 (by decide) ?_
        refine lv_icmp_ge (tgt := 107) hx hb dX5_init_43 (by decide) (fun c114 => ?_) (fun c114 => ?_)
        · have k114 := tq_le (a := 29) (b := wd.toInt) (by decide) rfl c114
          have qho108 := fo_mono (k2 := [5, 4]) ho108 (by decide)
          exact W.vret hx hb hr (fun t ht hW => ⟨⟨(fs107, q101, f102, q105, fw), rfl, ⟨⟨qho108, fh_sub hf [0, 1] rfl⟩, wrdI_e2 hI hw (by omega)⟩, by rw [ht]; exact hP, hD⟩, hS.F ht⟩) hS.2.2 dX5_init_107
        · have k114 := tq_len (a := 29) (b := wd.toInt) (by decide) rfl c114
          refine va_ldcS (tx := tqTX) hx hb hown hR dX5_init_46 ?_
          refine lv_iload hx hb dX5_init_48 (lv_at hl 0 rfl) ?_
          refine tq_ci (wr := [(h0, .inr (5, fs107)), (q101, .inl (cA 3, 700, .inl f102)), (q105, .inl (cA 0, 29, .inl fw))]) hP hD hS hA [] [0, 1, 2] rfl rfl (by decide) (by decide) (va_runV (As := [.int ii]) (rest := []) ⟨hx, hb, hml, hown, hT⟩ (c_J0_charAt_5068e l G cA H.size sA ii vA fb (by omega)) (cwV 1 hT (tq_gV kw_4_1 kw_4_2 kw_4_3 kw_3_16 kw_4_4) rfl rfl rfl (by decide +kernel) ⟨Nat.le_of_ble_eq_true rfl, Nat.le_of_ble_eq_true rfl⟩) ⟨(tq_pre2 (isC := []) hP hD hK hN rfl (by decide) hS hA hSt hR).1, va_Orecv hSt.1 hS, (tq_pre2 (isC := []) hP hD hK hN rfl (by decide) hS hA hSt hR).2⟩ rfl rfl hl.1 rfl (lv_room (Nat.le_of_ble_eq_true rfl)) dX5_init_50 ⟨Nat.le_of_ble_eq_true rfl, Nat.le_of_ble_eq_true rfl⟩) (fun r115 u116 H locs hw117 hP hD hS => ?_)
          refine W.widen (k := 2) (n := 729) (Nat.le_of_ble_eq_true rfl) (Nat.le_of_ble_eq_true rfl) ?_
          have hp118 := hw117.2
          have hP : va_P G vwCl [(h0, .inr (5, fs107)), (q101, .inl (cA 3, 700, .inl f102)), (q105, .inl (cA 0, 29, .inl fw))] H := hP
          have hD : va_D A [(h0, .inr (5, fs107)), (q101, .inl (cA 3, 700, .inl f102)), (q105, .inl (cA 0, 29, .inl fw))] := hD
          refine lv_istore (lv' := [(5, .int r115), (4, .int ii), (3, .int si), (2, .int le), (1, .int wd), (0, .ref h0)]) hx hb dX5_init_53 hl (by decide) rfl (fun ls hl => ?_)
          refine lv_iload hx hb dX5_init_55 (lv_at hl 0 rfl) ?_
          refine lv_bipush (v := 32) hx hb dX5_init_57 (by decide) ?_
          refine lv_icmp_ne (tgt := 86) hx hb dX5_init_59 (by decide) (fun c119 => ?_) (fun c119 => ?_)
          · have k119 := tq_eqn (a := r115.toInt) (b := 32) rfl (by decide) c119
            refine lv_iload_n hx hb dX5_init_86 rfl (lv_at hl 3 rfl) ?_
            refine lv_iconst (v := 5) hx hb dX5_init_87 (by decide) ?_
            refine lv_ishl hx hb dX5_init_88 ?_
            refine lv_topi (fun x120 ex120 => ?_)
            refine lv_iload hx hb dX5_init_89 (lv_at hl 0 rfl) ?_
            refine lv_bipush (v := 97) hx hb dX5_init_91 (by decide) ?_
            refine lv_isub hx hb dX5_init_93 ?_
            refine lv_topi (fun x121 ex121 => ?_)
            refine lv_iconst (v := 1) hx hb dX5_init_94 (by decide) ?_
            refine lv_iadd hx hb dX5_init_95 ?_
            refine lv_topi (fun x122 ex122 => ?_)
            refine lv_ior hx hb dX5_init_96 ?_
            refine lv_topi (fun x123 ex123 => ?_)
            refine lv_istore_n (lv' := [(2, .int x123), (5, .int r115), (4, .int ii), (3, .int si), (1, .int wd), (0, .ref h0)]) hx hb dX5_init_97 rfl hl (by decide) rfl (fun ls hl => ?_)
            obtain ⟨x124, ex124⟩ : ∃ y : Int32, y = si + Int32.ofInt 1 := ⟨_, rfl⟩
            refine lv_iinc (v := x124) (lv' := [(3, .int x124), (2, .int x123), (5, .int r115), (4, .int ii), (1, .int wd), (0, .ref h0)]) hx hb dX5_init_98 hl (k := 3) rfl ex124.symm (by decide) rfl (fun ls hl => ?_)
            obtain ⟨x125, ex125⟩ : ∃ y : Int32, y = ii + Int32.ofInt 1 := ⟨_, rfl⟩
            refine lv_iinc (v := x125) (lv' := [(4, .int x125), (3, .int x124), (2, .int x123), (5, .int r115), (1, .int wd), (0, .ref h0)]) hx hb dX5_init_101 hl (k := 3) rfl ex125.symm (by decide) rfl (fun ls hl => ?_)
            refine lv_goto (tgt := 30) hx hb dX5_init_104 (by decide) ?_
            have qii := tq_inc ex125 (by omega) (by omega)
            exact ih wd x123 x124 x125 fw H locs ls ⟨by omega, by omega⟩ ⟨by omega, by omega⟩ (by omega) (wrdI_s1 hfb hI hi (by omega) hp118 c119 (by rw [ex123, ex120, ex122, ex121]) ex124 ex125) hP hD hS (lv_sub hl [0, 1, 2, 4, 5] rfl)
          · have k119 := tq_eq (a := r115.toInt) (b := 32) rfl (by decide) c119
            refine lv_aload_n hx hb dX5_init_62 rfl (lv_at hl 5 rfl) ?_
            refine va_get (D := G) (ci := 5) (v := .ref q105) (C := RX5) (T := TX5) (N := 8) hx hb hT ku_5 hown hK hP 0 rfl rfl 5 (by decide) (hT _ kw_3_12) (fun _ h9 => h9) (fh_at hf 0 rfl) dX5_init_63 ?_
            refine lv_iload_n hx hb dX5_init_66 rfl (lv_at hl 4 rfl) ?_
            refine lv_iload_n hx hb dX5_init_67 rfl (lv_at hl 3 rfl) ?_
            refine lv_iconst (v := 5) hx hb dX5_init_68 (by decide) ?_
            refine lv_bipush (v := 6) hx hb dX5_init_69 (by decide) ?_
            refine lv_iload_n hx hb dX5_init_71 rfl (lv_at hl 2 rfl) ?_
            refine lv_isub hx hb dX5_init_72 ?_
            refine lv_topi (fun x126 ex126 => ?_)
            refine lv_imul hx hb dX5_init_73 ?_
            refine lv_topi (fun x127 ex127 => ?_)
            refine lv_ishl hx hb dX5_init_74 ?_
            refine lv_topi (fun x128 ex128 => ?_)
            have hin129 : vp_in wd 29 := vp_in_iff.mpr ⟨by omega, by omega⟩
            refine va_iast (i := wd) hx hb hK hP hD hS 2 0 rfl rfl hin129 dX5_init_75 (fun H locs hP hD hS => ?_)
            have hP : va_P G vwCl [(h0, .inr (5, fs107)), (q101, .inl (cA 3, 700, .inl f102)), (q105, .inl (cA 0, 29, .inl ((upd fw (wd : Int32).toNatClampNeg x128))))] H := hP
            have hD : va_D A [(h0, .inr (5, fs107)), (q101, .inl (cA 3, 700, .inl f102)), (q105, .inl (cA 0, 29, .inl ((upd fw (wd : Int32).toNatClampNeg x128))))] := hD
            obtain ⟨f130, ef130⟩ : ∃ z : Nat → Int32, z = (upd fw (wd : Int32).toNatClampNeg x128) := ⟨_, rfl⟩
            rw [← ef130] at hP hD
            obtain ⟨x131, ex131⟩ : ∃ y : Int32, y = wd + Int32.ofInt 1 := ⟨_, rfl⟩
            refine lv_iinc (v := x131) (lv' := [(1, .int x131), (5, .int r115), (4, .int ii), (3, .int si), (2, .int le), (0, .ref h0)]) hx hb dX5_init_76 hl (k := 4) rfl ex131.symm (by decide) rfl (fun ls hl => ?_)
            refine lv_iconst (v := 0) hx hb dX5_init_79 (by decide) ?_
            refine lv_istore_n (lv' := [(2, .int 0), (1, .int x131), (5, .int r115), (4, .int ii), (3, .int si), (0, .ref h0)]) hx hb dX5_init_80 rfl hl (by decide) rfl (fun ls hl => ?_)
            refine lv_iconst (v := 0) hx hb dX5_init_81 (by decide) ?_
            refine lv_istore_n (lv' := [(3, .int 0), (2, .int 0), (1, .int x131), (5, .int r115), (4, .int ii), (0, .ref h0)]) hx hb dX5_init_82 rfl hl (by decide) rfl (fun ls hl => ?_)
            refine lv_goto (tgt := 101) hx hb dX5_init_83 (by decide) ?_
            obtain ⟨x132, ex132⟩ : ∃ y : Int32, y = ii + Int32.ofInt 1 := ⟨_, rfl⟩
            refine lv_iinc (v := x132) (lv' := [(4, .int x132), (3, .int 0), (2, .int 0), (1, .int x131), (5, .int r115), (0, .ref h0)]) hx hb dX5_init_101 hl (k := 4) rfl ex132.symm (by decide) rfl (fun ls hl => ?_)
            refine lv_goto (tgt := 30) hx hb dX5_init_104 (by decide) ?_
            have qii := tq_inc ex132 (by omega) (by omega)
            have qwd := tq_inc ex131 (by omega) (by omega)
            exact ih x131 0 0 x132 f130 H locs ls ⟨by omega, by omega⟩ ⟨by omega, by omega⟩ (by omega) (wrdI_s2 hfb hI hi (by omega) hw (by omega) hp118 c119 (by rw [ef130, ex128, ex127, ex126]) ex131 ex132) hP hD hS (lv_sub hl [0, 1, 2, 3, 5] rfl)
  exact loop 154 0 0 0 0 f106 H locs ls (by decide) (by decide) (by decide) wrdI_0 hP hD hS (lv_sub hl [0, 1, 2, 3, 4] rfl)

theorem tw_pre2 {s : State} {H : Heap} {locs : List Loc} {A : Nat → Prop} {G : va_G} {cA : Nat → ClassId} {ws wc wr : va_W} {sA vA : Nat} {fb : Nat → Int32} {av : List Value} (hp : ws.Perm (wc ++ wr)) (hP : va_P G vwCl ws H) (hD : va_D A ws) (hK : va_K G vwCl (tyL cA) s) (hN : tqN s) (hS : va_S A s.heap H locs) (hA : ∀ q : Nat, s.heap.size ≤ q → A q) (hSt : tqS sA vA fb A s s.heap) (hR : vk_R "RackTrain$Tokens" 19 tqTX sA s) : PreS s H (tqP2 G cA sA vA fb av wc H.size) av := by
  obtain ⟨hP1, hD1, -⟩ := tw_cut hp hP hD
  have hFc := tw_free hp hD hS hA
  exact ⟨tqP2.blind, fun U hU hW => ⟨rfl, by rw [hU], by rw [hU]; exact hP1, va_K.moved hW.alike hK, hD1.weaken (fun _ _ _ _ => trivial), hN.warm hW, by rw [hU]; exact ((hSt.kept hS.2.1).narrow hFc).moved hW.alike, hR.warm hW⟩⟩
theorem x5_list {u : List Value} {q1 q2 : Nat} (h : fo [.int 0, .int 0, .int 0, .int 0, .null, .null, .int 0, .int 0] u [5, 4] ∧ fh u 8 [(5, .ref q2), (4, .ref q1)]) : u = [.int 0, .int 0, .int 0, .int 0, .ref q1, .ref q2, .int 0, .int 0] := by
  obtain ⟨⟨h1, h2⟩, h3, h4⟩ := h
  have g0 := h2 0 (by decide)
  have g1 := h2 1 (by decide)
  have g2 := h2 2 (by decide)
  have g3 := h2 3 (by decide)
  have g6 := h2 6 (by decide)
  have g7 := h2 7 (by decide)
  have g4 : u[4]? = some (.ref q1) := h4 (4, .ref q1) (by simp)
  have g5 : u[5]? = some (.ref q2) := h4 (5, .ref q2) (by simp)
  apply List.ext_getElem?
  intro i
  match i with
  | 0 => exact g0
  | 1 => exact g1
  | 2 => exact g2
  | 3 => exact g3
  | 4 => exact g4
  | 5 => exact g5
  | 6 => exact g6
  | 7 => exact g7
  | k + 8 => rw [List.getElem?_eq_none (by omega), List.getElem?_eq_none (by simp)]
