def f_X7_person (pa : Nat → Nat) (qa : Nat → Nat) (P : Tr) (Tn : Tr) (q4 : Nat) (x1 : Int32) (x2 : Int32) : Option (Int32) :=
  bd (f_X7_isPerson pa qa P q4 x1) fun r1 => if r1 = 0 then (some 0) else (if x2 = 0 then (ck (decide (q4 = pa 0)) (ck (okI x1 6) (some (P 11 x1.toNatClampNeg)))) else (if x2 = 1 then (ck (decide (q4 = pa 0)) (ck (okI x1 6) (some (P 12 x1.toNatClampNeg)))) else (if x2 = 2 then (ck (okI x1 6) (some (Tn 10 x1.toNatClampNeg))) else (if x2 = 3 then (ck (okI x1 6) (some (Tn 11 x1.toNatClampNeg))) else (if x2 = 4 then (ck (okI x1 6) (some (Tn 12 x1.toNatClampNeg))) else (some 0))))))
theorem t_X7_person (pa qa : Nat → Nat) (P Tn : Tr) (q4 : Nat) (x1 x2 : Int32) (hP : iR BP P) (hq4 : q4 = pa 0) : D (f_X7_person pa qa P Tn q4 x1 x2) (fun _ => True) := by
  unfold f_X7_person
  refine D_bd (t_X7_isPerson pa qa P q4 x1 hP hq4) (fun r _ hr => D_ite (fun _ => D_some trivial) (fun c => ?_))
  have hx := hr.2 (one_of hr.1 c)
  have g1 : okI x1 6 = true := okI_of (by omega) (by omega)
  have g2 : decide (q4 = pa 0) = true := decide_eq_true hq4
  refine D_ite (fun _ => D_ck g2 (D_ck g1 (D_some trivial))) (fun _ => D_ite (fun _ => D_ck g2 (D_ck g1 (D_some trivial))) (fun _ => D_ite (fun _ => D_ck g1 (D_some trivial)) (fun _ => D_ite (fun _ => D_ck g1 (D_some trivial)) (fun _ => D_ite (fun _ => D_ck g1 (D_some trivial)) (fun _ => D_some trivial)))))
/-! person: thrown by the class, caught by the law's own method -/
abbrev tqIO : String := "java/lang/IndexOutOfBoundsException"
abbrev tqNE : String := "java/util/NoSuchElementException"
abbrev XW : List Cond := (vx_atS RX7 119 "java/lang/IndexOutOfBoundsException" ["java/lang/RuntimeException", "java/lang/Exception"]).filter goodWord
abbrev neC : ByteArray := ⟨#[0x2a, 0x2b, 0xb7, 0x00, 0x0d, 0xb1]⟩
abbrev XV : List Cond := ((tq_at RX7 141 "java/util/NoSuchElementException" 13 neC "java/lang/RuntimeException" ["java/lang/Exception"]).filter vx_no).filter goodWord
abbrev T1 : List Cond := T0 ++ (XW ++ XV)
theorem tq_good1 : ∀ w ∈ T1, goodWord w = true := fun w h => (List.mem_append.mp h).elim (tq_good w) (fun q => (List.mem_append.mp q).elim (fun q => (List.mem_filter.mp q).2) (fun q => (List.mem_filter.mp q).2))
theorem tq_T1 {w : Cond} (h : w ∈ T0) : w ∈ T1 := List.mem_append_left _ h
theorem tq_XW {w : Cond} (h : w ∈ XW) : w ∈ T1 := List.mem_append_right _ (List.mem_append_left _ h)
theorem tq_XV {w : Cond} (h : w ∈ XV) : w ∈ T1 := List.mem_append_right _ (List.mem_append_right _ h)
def tqD3 (U : State) : Prop := va_Nw (.declares (Bundle.initS "java/lang/RuntimeException")) U ∧ va_Nw (.declares (Bundle.initS "java/lang/Exception")) U ∧ va_Nw (.declares (Bundle.initS Bundle.tN)) U
def tqX (sP sQ : Nat) (A : Nat → Prop) (U : State) (H : Heap) : Prop := (vk_R "RackTrain" 117 "no such person" sP U ∧ vk_R "RackTrain" 139 "no such what" sQ U) ∧ (va_Nw (.castable tqIO tqIO) U ∧ va_Nw (.castable tqNE tqNE) U ∧ va_Nc tqNE tqIO U) ∧ tqD3 U ∧ vx_Zq Bundle.tN "UNASSIGNED_STACK" Bundle.steD A U H ∧ vx_Zq Bundle.tN "SUPPRESSED_SENTINEL" Bundle.listD A U H
theorem tqX.warm {sP sQ : Nat} {A : Nat → Prop} {s U : State} {H : Heap} (hW : s.WarmedH U.vm) (h : tqX sP sQ A s H) : tqX sP sQ A U H := ⟨⟨h.1.1.warm hW, h.1.2.warm hW⟩, ⟨va_Nw.warmC hW h.2.1.1, va_Nw.warmC hW h.2.1.2.1, va_Nc.moved hW.alike h.2.1.2.2⟩, ⟨va_Nw.warmD hW h.2.2.1.1, va_Nw.warmD hW h.2.2.1.2.1, va_Nw.warmD hW h.2.2.1.2.2⟩, h.2.2.2.1.moved hW.alike, h.2.2.2.2.moved hW.alike⟩
theorem tqX.call {sP sQ : Nat} {A : Nat → Prop} {U : State} {H : Heap} {g : JFrame} {mk : MethodId} {a : Array Value} (h : tqX sP sQ A U H) : tqX sP sQ A (U.calling g mk a) H := ⟨⟨vk_R.same (u := U) rfl h.1.1, vk_R.same (u := U) rfl h.1.2⟩, ⟨va_Nw.same rfl rfl h.2.1.1, va_Nw.same rfl rfl h.2.1.2.1, va_Nc.moved (u := U) (Vm.Alike.refl U.vm) h.2.1.2.2⟩, ⟨va_Nw.same rfl rfl h.2.2.1.1, va_Nw.same rfl rfl h.2.2.1.2.1, va_Nw.same rfl rfl h.2.2.1.2.2⟩, vx_Zq.moved (u := U) (Vm.Alike.refl U.vm) h.2.2.2.1, vx_Zq.moved (u := U) (Vm.Alike.refl U.vm) h.2.2.2.2⟩
theorem tqX.kept {sP sQ : Nat} {A : Nat → Prop} {U : State} {H H1 : Heap} (h : tqX sP sQ A U H) (hq : ∀ a : Nat, a < H.size → ¬ A a → H1[a]? = H[a]?) : tqX sP sQ A U H1 := ⟨h.1, h.2.1, h.2.2.1, h.2.2.2.1.kept hq, h.2.2.2.2.kept hq⟩
theorem tqX.narrow {sP sQ : Nat} {A B : Nat → Prop} {U : State} {H : Heap} (h : tqX sP sQ A U H) (hAB : ∀ q, B q → A q) : tqX sP sQ B U H := ⟨h.1, h.2.1, h.2.2.1, h.2.2.2.1.narrow hAB, h.2.2.2.2.narrow hAB⟩
def tqP3 (G : va_G) (cA : Nat → ClassId) (sP sQ : Nat) (av : List Value) (ws : va_W) (sz : Nat) : Array Value → State → Prop := va_Pc av (fun U => U.heap.size = sz ∧ va_P G vwCl ws U.heap ∧ va_K G vwCl (tyL cA) U ∧ va_D (fun _ => True) ws ∧ tqN U ∧ tqX sP sQ (va_A ws sz) U U.heap)
theorem tqP3.blind {G : va_G} {cA : Nat → ClassId} {sP sQ : Nat} {av : List Value} {ws : va_W} {sz : Nat} : FrameBlind (tqP3 G cA sP sQ av ws sz) := fun _ U _ _ q => ⟨q.1, q.2.1, q.2.2.1, va_K.moved (u := U) (Vm.Alike.refl U.vm) q.2.2.2.1, q.2.2.2.2.1, q.2.2.2.2.2.1.call, q.2.2.2.2.2.2.call⟩
theorem tw_pre3 {s : State} {H : Heap} {locs : List Loc} {A : Nat → Prop} {G : va_G} {cA : Nat → ClassId} {ws wc wr : va_W} {sP sQ : Nat} {av : List Value} (hp : ws.Perm (wc ++ wr)) (hP : va_P G vwCl ws H) (hD : va_D A ws) (hK : va_K G vwCl (tyL cA) s) (hN : tqN s) (hS : va_S A s.heap H locs) (hA : ∀ q : Nat, s.heap.size ≤ q → A q) (hXx : tqX sP sQ A s s.heap) : PreS s H (tqP3 G cA sP sQ av wc H.size) av := by
  obtain ⟨hP1, hD1, -⟩ := tw_cut hp hP hD
  have hFc := tw_free hp hD hS hA
  exact ⟨tqP3.blind, fun U hU hW => ⟨rfl, by rw [hU], by rw [hU]; exact hP1, va_K.moved hW.alike hK, hD1.weaken (fun _ _ _ _ => trivial), hN.warm hW, by rw [hU]; exact ((hXx.kept hS.2.1).narrow hFc).warm hW⟩⟩
theorem tw_same {D : va_G} {ws : va_W} {H H1 : Heap} (h : va_P D vwCl ws H) (hq : ∀ q : Nat, q < H.size → H1[q]? = H[q]?) : va_P D vwCl ws H1 := va_P.kept h (fun k q hk => hq q.1 (h k q hk).lt)
