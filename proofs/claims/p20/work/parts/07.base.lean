/-! the words of all the tables, one list for every contract -/
abbrev T0 : List Cond := wsL_law0
theorem tq_good : ∀ w ∈ T0, goodWord w = true := List.all_eq_true.mp (by decide +kernel)
theorem tq_gV {own C : String} {idx n : Nat} {y : MethodName} {bytes : ByteArray} {ret : Option FieldType} (h1 : Cond.methodLink own idx y ∈ T0) (h2 : Cond.instanceMethod y ∈ T0) (h3 : Cond.selects C y y ∈ T0) (h4 : Cond.initialized C ∈ T0) (h5 : Cond.code y bytes n ret ∈ T0) : GoodIn T0 (wsV own idx C y (.code y bytes n ret :: T0)) := by
  have key : ∀ w ∈ wsV own idx C y (.code y bytes n ret :: T0), w ∈ T0 := by
    intro w hw
    simp only [wsV, List.cons_append, List.nil_append, List.mem_cons] at hw
    rcases hw with rfl | rfl | rfl | rfl | rfl | hw
    · exact h1
    · exact h2
    · exact h3
    · exact h4
    · exact h5
    · exact hw
  exact fun w hw => ⟨key w hw, good_of_word (tq_good w (key w hw))⟩
theorem tq_gS {own : String} {idx n : Nat} {y : MethodName} {bytes : ByteArray} {ret : Option FieldType} (h1 : Cond.methodLink own idx y ∈ T0) (h2 : Cond.static y ∈ T0) (h4 : Cond.initialized y.cls ∈ T0) (h5 : Cond.code y bytes n ret ∈ T0) : GoodIn T0 (va_wsS own idx y (.code y bytes n ret :: T0)) := by
  have key : ∀ w ∈ va_wsS own idx y (.code y bytes n ret :: T0), w ∈ T0 := by
    intro w hw
    simp only [va_wsS, List.cons_append, List.nil_append, List.mem_cons] at hw
    rcases hw with rfl | rfl | rfl | rfl | hw
    · exact h1
    · exact h2
    · exact h4
    · exact h5
    · exact hw
  exact fun w hw => ⟨key w hw, good_of_word (tq_good w (key w hw))⟩
theorem tq_gC {n : Nat} {y : MethodName} {bytes : ByteArray} {ret : Option FieldType} (h5 : Cond.code y bytes n ret ∈ T0) : GoodIn T0 (.code y bytes n ret :: T0) := by
  have key : ∀ w ∈ (Cond.code y bytes n ret :: T0), w ∈ T0 := by
    intro w hw
    rcases List.mem_cons.mp hw with rfl | hw
    · exact h5
    · exact hw
  exact fun w hw => ⟨key w hw, good_of_word (tq_good w (key w hw))⟩
/-! the array kinds -/
abbrev tyL (cA : Nat → ClassId) : List (ClassId × FieldType) := [(cA 0, .int), (cA 1, .boolean), (cA 2, .long), (cA 3, .byte), (cA 4, .object "RackTrain$Law")]
/-- links between nest mates: not among the words that stay by themselves -/
def tqN (U : State) : Prop := va_Nw (.methodLinkNest "RackTrain" 11 yX3_init "RackTrain") U ∧ va_Nw (.methodLinkNest "RackTrain$Plan" 51 yX1_init "RackTrain") U ∧ va_Nw (.methodLinkNest "RackTrain" 49 yX0_init "RackTrain") U ∧ va_Nw (.methodLinkNest "RackTrain" 56 yX4_init "RackTrain") U ∧ va_AO "RackTrain$Law" U
theorem tqN.warm {s U : State} (hW : s.WarmedH U.vm) (h : tqN s) : tqN U := ⟨va_Nw.warmM hW h.1, va_Nw.warmM hW h.2.1, va_Nw.warmM hW h.2.2.1, va_Nw.warmM hW h.2.2.2.1, h.2.2.2.2.moved hW.alike⟩
theorem tqN.call {U : State} {g : JFrame} {mk : MethodId} {a : Array Value} (h : tqN U) : tqN (U.calling g mk a) := ⟨va_Nw.same rfl rfl h.1, va_Nw.same rfl rfl h.2.1, va_Nw.same rfl rfl h.2.2.1, va_Nw.same rfl rfl h.2.2.2.1, h.2.2.2.2.moved (Vm.Alike.refl U.vm)⟩
/-- a contract's start: the arguments, the cells, what the tables say -/
def tqP (G : va_G) (cA : Nat → ClassId) (av : List Value) (ws : va_W) (sz : Nat) : Array Value → State → Prop := va_Pc av (fun U => U.heap.size = sz ∧ va_P G vwCl ws U.heap ∧ va_K G vwCl (tyL cA) U ∧ va_D (fun _ => True) ws ∧ tqN U)
theorem tqP.blind {G : va_G} {cA : Nat → ClassId} {av : List Value} {ws : va_W} {sz : Nat} : FrameBlind (tqP G cA av ws sz) := fun _ U _ _ q => ⟨q.1, q.2.1, q.2.2.1, va_K.moved (u := U) (Vm.Alike.refl U.vm) q.2.2.2.1, q.2.2.2.2.1, q.2.2.2.2.2.call⟩
/-- a contract's end: the answer, the cells -/
def tqQi (G : va_G) (cA : Nat → ClassId) {S : Type} (post : Int32 → S → Prop) (w1 : S → va_W) (A : Nat → Prop) := va_Qi post (fun u t => va_P G vwCl (w1 u) t.heap ∧ va_D A (w1 u)) A
def tqQl (G : va_G) (cA : Nat → ClassId) {S : Type} (post : Int64 → S → Prop) (w1 : S → va_W) (A : Nat → Prop) := va_Ql post (fun u t => va_P G vwCl (w1 u) t.heap ∧ va_D A (w1 u)) A
def tqQv (G : va_G) (cA : Nat → ClassId) {S : Type} (post : S → Prop) (w1 : S → va_W) (A : Nat → Prop) := va_Qv post (fun u t => va_P G vwCl (w1 u) t.heap ∧ va_D A (w1 u)) A
/-! fields by their places: what is known of a list -/
def fh (fs : List Value) (n : Nat) (l : List (Nat × Value)) : Prop := fs.length = n ∧ ∀ q ∈ l, fs[q.1]? = some q.2
theorem fh_at {fs : List Value} {n : Nat} {l : List (Nat × Value)} (h : fh fs n l) (p : Nat) {k : Nat} {v : Value} (hk : l[p]? = some (k, v)) : fs[k]? = some v := h.2 (k, v) (List.mem_of_getElem? hk)
theorem fh_lt {fs : List Value} {n : Nat} {l : List (Nat × Value)} (h : fh fs n l) {k : Nat} (hk : k < n) : k < fs.length := h.1.symm ▸ hk
theorem fh_sub {fs : List Value} {n : Nat} {l l' : List (Nat × Value)} (h : fh fs n l) (ps : List Nat) (hp : ps.filterMap (fun i => l[i]?) = l') : fh fs n l' := by
  refine ⟨h.1, fun q hq => ?_⟩
  subst hp
  obtain ⟨i, -, hi⟩ := List.mem_filterMap.mp hq
  exact h.2 q (List.mem_of_getElem? hi)
theorem fh_set {fs : List Value} {n : Nat} {l l' : List (Nat × Value)} (h : fh fs n l) (k : Nat) (v : Value) (hk : k < n) (hl : (k, v) :: l.filter (fun q => !(q.1 == k)) = l') : fh (fs.set k v) n l' := by
  refine ⟨by rw [List.length_set]; exact h.1, fun q hq => ?_⟩
  subst hl
  rcases List.mem_cons.mp hq with rfl | hq
  · simp [h.1, hk]
  · obtain ⟨h1, h2⟩ := List.mem_filter.mp hq
    have hne : k ≠ q.1 := by intro e; simp [e] at h2
    rw [List.getElem?_set_ne hne]
    exact h.2 q h1
section TQ
variable {p : Program} {l : Launch} {e : Env} {R : Room} {s : State} {m : MethodId} {args : Array Value} {below : List Frame} {meth : Method} {c : Code} {H : Heap} {locs : List Loc} {cells slots : Nat} {Q : State → Prop} {cc : ByteArray}
variable {pc : Nat} {ls : Array Slot} {rest st0 : List Value} {a : Array Value} {A A1 : Nat → Prop} {H0 : Heap} {mc ms : Nat} {G : va_G} {cA : Nat → ClassId} {ws wc wr : va_W}
/-- the number on the top, under another name -/
theorem tq_i {v w : Int32} (h : v = w) (k : W p l e R s m args below meth c H locs cells slots Q (F0 m pc ls (.int w :: rest))) : W p l e R s m args below meth c H locs cells slots Q (F0 m pc ls (.int v :: rest)) := h ▸ k
theorem tq_l {v w : Int64} (h : v = w) (k : W p l e R s m args below meth c H locs cells slots Q (F0 m pc ls (.long w :: rest))) : W p l e R s m args below meth c H locs cells slots Q (F0 m pc ls (.long v :: rest)) := h ▸ k
/-- a new array of a kind that is known -/
theorem tq_newa (hexec : p.tables.exec = Jvm.exec) (hb : c.code = cc) {atype : ArrayType} (harr : (Cond.arrayClass (newarray.typeOf atype)).before args s = true) {ty : FieldType} (hty : newarray.typeOf atype = ty) (hK : va_K G vwCl (tyL cA) s) (hP : va_P G vwCl ws H) (hD : va_D A ws) (hS : va_S A H0 H locs) (hA : ∀ q, H0.size ≤ q → A q)
    (t0 : Nat) (cX : ClassId) (ht : (tyL cA)[t0]? = some (cX, ty)) {n : Int32} {N' : Nat} {a0 : vp_A} (ha : ∀ cA : ClassId, vp_cell cA a0 = arrV cA N' (fun _ => defaultValue ty)) (hn : ¬ n < 0) (hN : n.toNatClampNeg = N') (hbytes : N' * componentBytes ty ≤ 536870912) (hcells : cells + 1 ≤ R.cells) (hslots : slots + N' ≤ R.slots) (hdg : decode cc pc = .ok (.newarray atype, 2))
    (kk : ∀ (q : Nat) (H1 : Heap), va_P G vwCl (ws ++ [(q, .inl (cX, a0))]) H1 → va_D A (ws ++ [(q, .inl (cX, a0))]) → va_S A H0 H1 locs →
      W p l e R s m args below meth c H1 locs (cells + 1) (slots + N') Q (F0 m (pc + 2) ls (.ref q :: rest))) : W p l e R s m args below meth c H locs cells slots Q (F0 m pc ls (.int n :: rest)) := by
  refine va_newa hexec hb harr hty hK hP hD hS hA ha hn hN hbytes hcells hslots hdg (fun q cB H1 hK1 hP1 hD1 hS1 => ?_)
  have e1 : va_RA s cB ty := (hK1.2 5 (cB, ty) (by rfl)).2
  have e2 : va_RA s cX ty := (hK.2 t0 (cX, ty) ht).2
  have e3 : cB = cX := by
    subst hty
    cases atype <;> exact Option.some.inj (e1.symm.trans e2)
  subst e3
  exact kk q H1 hP1 hD1 hS1
/-- a call that answers an int: the rest stays, what comes back stands behind it -/
theorem tq_ci {S : Type} {post : Int32 → S → Prop} {w1 : S → va_W} (hP : va_P G vwCl ws H) (hD : va_D A ws) (hS : va_S A H0 H locs) (hA : ∀ q, H0.size ≤ q → A q) (isC isR : List Nat) (hC : isC.map (fun i => ws[i]?) = wc.map some) (hR : isR.map (fun i => ws[i]?) = wr.map some) (hn : va_nd isR = true) (hdis : ∀ i ∈ isR, i ∉ isC)
    (hr : va_Run p l e R s m args below meth c H locs cells slots mc ms (F0 m pc ls st0) rest (tqQi G cA post w1 (va_A wc H.size) a) (va_A wc H.size))
    (kk : ∀ (r : Int32) (u : S) (H1 : Heap) (locs1 : List Loc), post r u → va_P G vwCl (wr ++ w1 u) H1 → va_D A (wr ++ w1 u) → va_S A H0 H1 locs1 → W p l e R s m args below meth c H1 locs1 (cells + mc) (slots + ms) Q (F0 m (pc + 3) ls (.int r :: rest))) : W p l e R s m args below meth c H locs cells slots Q (F0 m pc ls st0) := by
  have hFc := va_free (wc := wc) hD hS hA isC hC
  refine va_calli hr hS (fun q _ h => hFc q h) hFc (fun r u t H1 locs1 ht hvm hw hB hz1 hk1 hS1 => ?_)
  obtain ⟨hP1, hD1⟩ := hB
  rw [ht] at hP1
  obtain ⟨hP2, hD2⟩ := va_join hP hD isC isR hC hR hn hdis hk1 hFc hP1 hD1
  exact kk r u H1 locs1 hw hP2 hD2 hS1
theorem tq_cl {S : Type} {post : Int64 → S → Prop} {w1 : S → va_W} (hP : va_P G vwCl ws H) (hD : va_D A ws) (hS : va_S A H0 H locs) (hA : ∀ q, H0.size ≤ q → A q) (isC isR : List Nat) (hC : isC.map (fun i => ws[i]?) = wc.map some) (hR : isR.map (fun i => ws[i]?) = wr.map some) (hn : va_nd isR = true) (hdis : ∀ i ∈ isR, i ∉ isC)
    (hr : va_Run p l e R s m args below meth c H locs cells slots mc ms (F0 m pc ls st0) rest (tqQl G cA post w1 (va_A wc H.size) a) (va_A wc H.size))
    (kk : ∀ (r : Int64) (u : S) (H1 : Heap) (locs1 : List Loc), post r u → va_P G vwCl (wr ++ w1 u) H1 → va_D A (wr ++ w1 u) → va_S A H0 H1 locs1 → W p l e R s m args below meth c H1 locs1 (cells + mc) (slots + ms) Q (F0 m (pc + 3) ls (.long r :: rest))) : W p l e R s m args below meth c H locs cells slots Q (F0 m pc ls st0) := by
  have hFc := va_free (wc := wc) hD hS hA isC hC
  refine va_calll hr hS (fun q _ h => hFc q h) hFc (fun r u t H1 locs1 ht hvm hw hB hz1 hk1 hS1 => ?_)
  obtain ⟨hP1, hD1⟩ := hB
  rw [ht] at hP1
  obtain ⟨hP2, hD2⟩ := va_join hP hD isC isR hC hR hn hdis hk1 hFc hP1 hD1
  exact kk r u H1 locs1 hw hP2 hD2 hS1
theorem tq_cv {S : Type} {post : S → Prop} {w1 : S → va_W} (hP : va_P G vwCl ws H) (hD : va_D A ws) (hS : va_S A H0 H locs) (hA : ∀ q, H0.size ≤ q → A q) (isC isR : List Nat) (hC : isC.map (fun i => ws[i]?) = wc.map some) (hR : isR.map (fun i => ws[i]?) = wr.map some) (hn : va_nd isR = true) (hdis : ∀ i ∈ isR, i ∉ isC)
    (hr : va_Run p l e R s m args below meth c H locs cells slots mc ms (F0 m pc ls st0) rest (tqQv G cA post w1 (va_A wc H.size) a) (va_A wc H.size))
    (kk : ∀ (u : S) (H1 : Heap) (locs1 : List Loc), post u → va_P G vwCl (wr ++ w1 u) H1 → va_D A (wr ++ w1 u) → va_S A H0 H1 locs1 → W p l e R s m args below meth c H1 locs1 (cells + mc) (slots + ms) Q (F0 m (pc + 3) ls rest)) : W p l e R s m args below meth c H locs cells slots Q (F0 m pc ls st0) := by
  have hFc := va_free (wc := wc) hD hS hA isC hC
  refine va_callv hr hS (fun q _ h => hFc q h) hFc (fun u t H1 locs1 ht hvm hw hB hz1 hk1 hS1 => ?_)
  obtain ⟨hP1, hD1⟩ := hB
  rw [ht] at hP1
  obtain ⟨hP2, hD2⟩ := va_join hP hD isC isR hC hR hn hdis hk1 hFc hP1 hD1
  exact kk u H1 locs1 hw hP2 hD2 hS1
/-- the callee's cells are cut out of the caller's -/
theorem tq_cut {is : List Nat} (hP : va_P G vwCl ws H) (hD : va_D A ws) (hC : is.map (fun i => ws[i]?) = wc.map some) (hn : va_nd is = true) : va_P G vwCl wc H ∧ va_D (fun _ => True) wc := by
  have h : is.filterMap (fun i => ws[i]?) = wc := by
    have : ∀ (is : List Nat) (wc : va_W), is.map (fun i => ws[i]?) = wc.map some → is.filterMap (fun i => ws[i]?) = wc := by
      intro is
      induction is with
      | nil => intro wc h; cases wc with | nil => rfl | cons x y => cases h
      | cons i t ih =>
        intro wc h
        cases wc with
        | nil => cases h
        | cons x y =>
          simp only [List.map_cons, List.cons.injEq] at h
          rw [List.filterMap_cons, h.1]
          simp [ih y h.2]
    exact this is wc hC
  exact ⟨hP.sub is h, (hD.sub is hn hC).weaken (fun _ _ _ _ => trivial)⟩
theorem tq_pre {isC : List Nat} {av : List Value} (hP : va_P G vwCl ws H) (hD : va_D A ws) (hK : va_K G vwCl (tyL cA) s) (hN : tqN s) (hC : isC.map (fun i => ws[i]?) = wc.map some) (hn : va_nd isC = true) : PreS s H (tqP G cA av wc H.size) av := by
  obtain ⟨hP1, hD1⟩ := tq_cut hP hD hC hn
  exact ⟨tqP.blind, fun U hU hW => ⟨rfl, by rw [hU], by rw [hU]; exact hP1, va_K.moved hW.alike hK, hD1, hN.warm hW⟩⟩
end TQ
theorem tq_in {i : Int32} {n : Nat} (h : (!(decide (i < 0)) && decide (i.toNatClampNeg < n)) = true) : vp_in i n := by
  simp only [Bool.and_eq_true, Bool.not_eq_true', decide_eq_false_iff_not, decide_eq_true_eq] at h
  rintro (h1 | h1)
  · exact h.1 h1
  · exact absurd h.2 (Nat.not_lt.mpr h1)
theorem tq_fill {f : Nat → Int32} {x i : Int32} {n : Nat} (hi : i.toNatClampNeg = n) (h : ∀ j, j < n → f j = x) : ∀ j, j < n + 1 → upd f i.toNatClampNeg x j = x := by
  intro j hj
  rw [hi]
  by_cases e : j = n
  · rw [e, pk_us]
  · rw [pk_un e]; exact h j (by omega)
/-- which places of a list of fields may have changed -/
def fo (fs u : List Value) (ks : List Nat) : Prop := u.length = fs.length ∧ ∀ j, j ∉ ks → u[j]? = fs[j]?
theorem fo_refl (fs : List Value) : fo fs fs [] := ⟨rfl, fun _ _ => rfl⟩
theorem fo_set {fs u : List Value} {ks : List Nat} (h : fo fs u ks) (k : Nat) (v : Value) : fo fs (u.set k v) (k :: ks) := by
  refine ⟨by rw [List.length_set]; exact h.1, fun j hj => ?_⟩
  have h1 : k ≠ j := fun e => hj (List.mem_cons.mpr (Or.inl e.symm))
  rw [List.getElem?_set_ne h1]
  exact h.2 j (fun q => hj (List.mem_cons.mpr (Or.inr q)))
theorem fo_trans {a b d : List Value} {ks k2 : List Nat} (h : fo a b ks) (h2 : fo b d k2) : fo a d (k2 ++ ks) := by
  refine ⟨h2.1.trans h.1, fun j hj => ?_⟩
  rw [h2.2 j (fun q => hj (List.mem_append_left _ q)), h.2 j (fun q => hj (List.mem_append_right _ q))]
theorem fo_mono {a b : List Value} {ks k2 : List Nat} (h : fo a b ks) (hs : (ks.all (fun k => k2.contains k)) = true) : fo a b k2 := by
  refine ⟨h.1, fun j hj => h.2 j (fun q => hj ?_)⟩
  have := List.all_eq_true.mp hs j q
  exact List.contains_iff_mem.mp this
theorem fo_fh {fs u : List Value} {n : Nat} {l l' : List (Nat × Value)} {ks : List Nat} (h : fh fs n l) (ho : fo fs u ks) (hl : l.filter (fun q => !(ks.contains q.1)) = l') : fh u n l' := by
  refine ⟨ho.1.trans h.1, fun q hq => ?_⟩
  subst hl
  obtain ⟨h1, h2⟩ := List.mem_filter.mp hq
  have hn : q.1 ∉ ks := by intro e; simp [List.contains_iff_mem.mpr e] at h2; exact h2 e
  rw [ho.2 _ hn]
  exact h.2 q h1
theorem fh_app {fs : List Value} {n : Nat} {a b : List (Nat × Value)} (ha : fh fs n a) (hb : fh fs n b) : fh fs n (a ++ b) := ⟨ha.1, fun q hq => (List.mem_append.mp hq).elim (ha.2 q) (hb.2 q)⟩
section TQ2
variable {p : Program} {l : Launch} {e : Env} {R : Room} {s : State} {m : MethodId} {args : Array Value} {below : List Frame} {meth : Method} {c : Code} {H : Heap} {locs : List Loc} {cells slots : Nat} {Q : State → Prop} {cc : ByteArray}
variable {pc : Nat} {ls : Array Slot} {rest st0 : List Value} {A : Nat → Prop} {H0 : Heap} {G : va_G} {cA : Nat → ClassId} {ws : va_W}
theorem tq_newq (hexec : p.tables.exec = Jvm.exec) (hb : c.code = cc) {own C : String} {index : Nat} (hown : s.vm.findClass own = some m.cls) (hclink : (Cond.classLink own index C).before args s = true) (hover : va_AO C s) (hK : va_K G vwCl (tyL cA) s) (hP : va_P G vwCl ws H) (hD : va_D A ws) (hS : va_S A H0 H locs) (hA : ∀ q, H0.size ≤ q → A q)
    (t0 : Nat) (cX : ClassId) (ht : (tyL cA)[t0]? = some (cX, .object C)) {n : Int32} {N' : Nat} (hn : ¬ n < 0) (hN : n.toNatClampNeg = N') (hbytes : N' * 4 ≤ 536870912) (hcells : cells + 1 ≤ R.cells) (hslots : slots + N' ≤ R.slots) (hdg : decode cc pc = .ok (.anewarray index, 3))
    (kk : ∀ (q : Nat) (H1 : Heap), va_P G vwCl (ws ++ [(q, .inl (cX, N', .inr (.inr (.inr (.inr (fun _ => none))))))]) H1 → va_D A (ws ++ [(q, .inl (cX, N', .inr (.inr (.inr (.inr (fun _ => none))))))]) → va_S A H0 H1 locs →
      W p l e R s m args below meth c H1 locs (cells + 1) (slots + N') Q (F0 m (pc + 3) ls (.ref q :: rest))) : W p l e R s m args below meth c H locs cells slots Q (F0 m pc ls (.int n :: rest)) := by
  refine va_newq hexec hb hown hclink hover hK hP hD hS hA hn hN hbytes hcells hslots hdg (fun q cB H1 hK1 hP1 hD1 hS1 => ?_)
  have e1 : va_RA s cB (.object C) := (hK1.2 5 (cB, .object C) (by rfl)).2
  have e2 : va_RA s cX (.object C) := (hK.2 t0 (cX, .object C) ht).2
  obtain ⟨_, _, _, _, _, h1⟩ := e1
  obtain ⟨_, _, _, _, _, h2⟩ := e2
  have e3 : cB = cX := Option.some.inj (h1.symm.trans h2)
  subst e3
  exact kk q H1 hP1 hD1 hS1
end TQ2
theorem tq_dfX0 : ∀ j, j < 3 → defaultValue (tyX0 j) = vp_V [.int 0, .int 0, .null] j := by decide +kernel
theorem fh_dfX0 : fh [.int 0, .int 0, .null] 3 [(0, .int 0), (1, .int 0), (2, .null)] := ⟨rfl, by decide +kernel⟩
theorem tq_dfX1 : ∀ j, j < 3 → defaultValue (tyX1 j) = vp_V [.null, .int 0, .null] j := by decide +kernel
theorem fh_dfX1 : fh [.null, .int 0, .null] 3 [(0, .null), (1, .int 0), (2, .null)] := ⟨rfl, by decide +kernel⟩
theorem tq_dfX2 : ∀ j, j < 19 → defaultValue (tyX2 j) = vp_V [.int 0, .int 0, .int 0, .int 0, .int 0, .int 0, .int 0, .null, .null, .null, .null, .null, .null, .null, .null, .null, .null, .null, .null] j := by decide +kernel
theorem fh_dfX2 : fh [.int 0, .int 0, .int 0, .int 0, .int 0, .int 0, .int 0, .null, .null, .null, .null, .null, .null, .null, .null, .null, .null, .null, .null] 19 [(0, .int 0), (1, .int 0), (2, .int 0), (3, .int 0), (4, .int 0), (5, .int 0), (6, .int 0), (7, .null), (8, .null), (9, .null), (10, .null), (11, .null), (12, .null), (13, .null), (14, .null), (15, .null), (16, .null), (17, .null), (18, .null)] := ⟨rfl, by decide +kernel⟩
theorem tq_dfX3 : ∀ j, j < 10 → defaultValue (tyX3 j) = vp_V [.null, .int 0, .int 0, .int 0, .null, .int 0, .int 0, .null, .int 0, .int 0] j := by decide +kernel
theorem fh_dfX3 : fh [.null, .int 0, .int 0, .int 0, .null, .int 0, .int 0, .null, .int 0, .int 0] 10 [(0, .null), (1, .int 0), (2, .int 0), (3, .int 0), (4, .null), (5, .int 0), (6, .int 0), (7, .null), (8, .int 0), (9, .int 0)] := ⟨rfl, by decide +kernel⟩
theorem tq_dfX4 : ∀ j, j < 7 → defaultValue (tyX4 j) = vp_V [.int 0, .int 0, .null, .null, .null, .null, .null] j := by decide +kernel
theorem fh_dfX4 : fh [.int 0, .int 0, .null, .null, .null, .null, .null] 7 [(0, .int 0), (1, .int 0), (2, .null), (3, .null), (4, .null), (5, .null), (6, .null)] := ⟨rfl, by decide +kernel⟩
theorem tq_dfX5 : ∀ j, j < 8 → defaultValue (tyX5 j) = vp_V [.int 0, .int 0, .int 0, .int 0, .null, .null, .int 0, .int 0] j := by decide +kernel
theorem fh_dfX5 : fh [.int 0, .int 0, .int 0, .int 0, .null, .null, .int 0, .int 0] 8 [(0, .int 0), (1, .int 0), (2, .int 0), (3, .int 0), (4, .null), (5, .null), (6, .int 0), (7, .int 0)] := ⟨rfl, by decide +kernel⟩
theorem tq_dfX6 : ∀ j, j < 20 → defaultValue (tyX6 j) = vp_V [.int 0, .int 0, .int 0, .int 0, .int 0, .int 0, .int 0, .int 0, .null, .null, .null, .null, .null, .null, .null, .null, .null, .null, .null, .null] j := by decide +kernel
theorem fh_dfX6 : fh [.int 0, .int 0, .int 0, .int 0, .int 0, .int 0, .int 0, .int 0, .null, .null, .null, .null, .null, .null, .null, .null, .null, .null, .null, .null] 20 [(0, .int 0), (1, .int 0), (2, .int 0), (3, .int 0), (4, .int 0), (5, .int 0), (6, .int 0), (7, .int 0), (8, .null), (9, .null), (10, .null), (11, .null), (12, .null), (13, .null), (14, .null), (15, .null), (16, .null), (17, .null), (18, .null), (19, .null)] := ⟨rfl, by decide +kernel⟩
theorem tq_dfX7 : ∀ j, j < 12 → defaultValue (tyX7 j) = vp_V [.null, .null, .null, .null, .int 0, .null, .null, .null, .null, .null, .null, .null] j := by decide +kernel
theorem fh_dfX7 : fh [.null, .null, .null, .null, .int 0, .null, .null, .null, .null, .null, .null, .null] 12 [(0, .null), (1, .null), (2, .null), (3, .null), (4, .int 0), (5, .null), (6, .null), (7, .null), (8, .null), (9, .null), (10, .null), (11, .null)] := ⟨rfl, by decide +kernel⟩
theorem tq_dfX8 : ∀ j, j < 91 → defaultValue (tyX8 j) = vp_V [.null, .int 0, .int 0, .null, .int 0, .int 0, .int 0, .int 0, .int 0, .int 0, .int 0, .int 0, .int 0, .int 0, .int 0, .int 0, .int 0, .int 0, .int 0, .int 0, .int 0, .null, .null, .null, .null, .null, .null, .null, .null, .null, .null, .null, .null, .null, .null, .null, .null, .null, .null, .null, .null, .null, .null, .int 0, .int 0, .int 0, .int 0, .int 0, .int 0, .null, .null, .int 0, .null, .null, .null, .null, .null, .null, .null, .null, .null, .null, .null, .long 0, .int 0, .int 0, .int 0, .int 0, .int 0, .int 0, .int 0, .null, .int 0, .null, .null, .null, .null, .null, .int 0, .int 0, .null, .null, .int 0, .null, .int 0, .null, .null, .null, .int 0, .int 0, .long 0] j := by decide +kernel
theorem fh_dfX8 : fh [.null, .int 0, .int 0, .null, .int 0, .int 0, .int 0, .int 0, .int 0, .int 0, .int 0, .int 0, .int 0, .int 0, .int 0, .int 0, .int 0, .int 0, .int 0, .int 0, .int 0, .null, .null, .null, .null, .null, .null, .null, .null, .null, .null, .null, .null, .null, .null, .null, .null, .null, .null, .null, .null, .null, .null, .int 0, .int 0, .int 0, .int 0, .int 0, .int 0, .null, .null, .int 0, .null, .null, .null, .null, .null, .null, .null, .null, .null, .null, .null, .long 0, .int 0, .int 0, .int 0, .int 0, .int 0, .int 0, .int 0, .null, .int 0, .null, .null, .null, .null, .null, .int 0, .int 0, .null, .null, .int 0, .null, .int 0, .null, .null, .null, .int 0, .int 0, .long 0] 91 [(0, .null), (1, .int 0), (2, .int 0), (3, .null), (4, .int 0), (5, .int 0), (6, .int 0), (7, .int 0), (8, .int 0), (9, .int 0), (10, .int 0), (11, .int 0), (12, .int 0), (13, .int 0), (14, .int 0), (15, .int 0), (16, .int 0), (17, .int 0), (18, .int 0), (19, .int 0), (20, .int 0), (21, .null), (22, .null), (23, .null), (24, .null), (25, .null), (26, .null), (27, .null), (28, .null), (29, .null), (30, .null), (31, .null), (32, .null), (33, .null), (34, .null), (35, .null), (36, .null), (37, .null), (38, .null), (39, .null), (40, .null), (41, .null), (42, .null), (43, .int 0), (44, .int 0), (45, .int 0), (46, .int 0), (47, .int 0), (48, .int 0), (49, .null), (50, .null), (51, .int 0), (52, .null), (53, .null), (54, .null), (55, .null), (56, .null), (57, .null), (58, .null), (59, .null), (60, .null), (61, .null), (62, .null), (63, .long 0), (64, .int 0), (65, .int 0), (66, .int 0), (67, .int 0), (68, .int 0), (69, .int 0), (70, .int 0), (71, .null), (72, .int 0), (73, .null), (74, .null), (75, .null), (76, .null), (77, .null), (78, .int 0), (79, .int 0), (80, .null), (81, .null), (82, .int 0), (83, .null), (84, .int 0), (85, .null), (86, .null), (87, .null), (88, .int 0), (89, .int 0), (90, .long 0)] := ⟨rfl, by decide +kernel⟩
theorem tq_no {f : Nat → Int32} {x : Int32} : ∀ j, j < 0 → f j = x := fun j h => absurd h (Nat.not_lt_zero j)
theorem tq_lt {x y : Int32} {a b : Int} (ha : x.toInt = a) (hb : y.toInt = b) (h : x < y) : a < b := by rw [← ha, ← hb]; exact Int32.lt_iff_toInt_lt.mp h
theorem tq_ltn {x y : Int32} {a b : Int} (ha : x.toInt = a) (hb : y.toInt = b) (h : ¬ x < y) : b ≤ a := by rw [← ha, ← hb]; exact Int.not_lt.mp (fun q => h (Int32.lt_iff_toInt_lt.mpr q))
theorem tq_le {x y : Int32} {a b : Int} (ha : x.toInt = a) (hb : y.toInt = b) (h : x ≤ y) : a ≤ b := by rw [← ha, ← hb]; exact Int32.le_iff_toInt_le.mp h
theorem tq_len {x y : Int32} {a b : Int} (ha : x.toInt = a) (hb : y.toInt = b) (h : ¬ x ≤ y) : b < a := by rw [← ha, ← hb]; exact Int.not_le.mp (fun q => h (Int32.le_iff_toInt_le.mpr q))
theorem tq_eq {x y : Int32} {a b : Int} (ha : x.toInt = a) (hb : y.toInt = b) (h : x = y) : a = b := by rw [← ha, ← hb, h]
theorem tq_eqn {x y : Int32} {a b : Int} (ha : x.toInt = a) (hb : y.toInt = b) (h : ¬ x = y) : ¬ a = b := by rw [← ha, ← hb]; exact fun q => h (Int32.toInt_inj.mp q)
theorem tq_is {x y : Int32} (h : x.toInt = y.toInt) : x = y := Int32.toInt_inj.mp h
