/-! what a method does, as a function: cells by numbers; an end that isn't reached is none -/
abbrev Tr : Type := Nat → Nat → Int32
abbrev Lo : Type := Nat → Nat → Int64
def st (T : Tr) (a i : Nat) (v : Int32) : Tr := fun b => bif Nat.beq b a then upd (T a) i v else T b
def stL (T : Lo) (a i : Nat) (v : Int64) : Lo := fun b => bif Nat.beq b a then vp_updL (T a) i v else T b
def stC (T : Tr) (a : Nat) (f : Nat → Int32) : Tr := fun b => bif Nat.beq b a then f else T b
def okI (i : Int32) (n : Nat) : Bool := decide (0 ≤ i.toInt) && decide (i.toInt < (n : Int))
def okB (v : Int32) : Bool := v == 0 || v == 1
def okC (sp dp n : Int32) (n0 n1 : Nat) : Bool := decide (0 ≤ sp.toInt) && decide (0 ≤ dp.toInt) && decide (0 ≤ n.toInt) && decide (sp.toInt + n.toInt ≤ (n0 : Int)) && decide (dp.toInt + n.toInt ≤ (n1 : Int))
section
variable {ρ α β : Type}
def ck (g : Bool) (k : Option ρ) : Option ρ := bif g then k else none
def lt (v : α) (k : α → Option ρ) : Option ρ := k v
def bd (x : Option α) (k : α → Option ρ) : Option ρ := match x with | none => none | some a => k a
def lpF {F : Type} (z : F) (b : F → F) : Nat → F
  | 0 => z
  | n + 1 => b (lpF z b n)
theorem tx_ck {g : Bool} {k : Option ρ} {r : ρ} (h : ck g k = some r) : g = true ∧ k = some r := by
  cases g with
  | false => cases h
  | true => exact ⟨rfl, h⟩
theorem tx_lt {v : α} {k : α → Option ρ} {r : ρ} (h : lt v k = some r) : ∃ x, v = x ∧ k x = some r := ⟨v, rfl, h⟩
theorem tx_let {v y : α} {k : α → Option ρ} {r : ρ} (e : y = v) (h : lt v k = some r) : k y = some r := by rw [e]; exact h
theorem tx_bd {x : Option α} {k : α → Option ρ} {r : ρ} (h : bd x k = some r) : ∃ a, x = some a ∧ k a = some r := by
  cases x with
  | none => cases h
  | some a => exact ⟨a, rfl, h⟩
theorem tx_pos {c : Prop} {d : Decidable c} {a b : Option ρ} {r : ρ} (hc : c) (h : @ite (Option ρ) c d a b = some r) : a = some r := by rw [if_pos hc] at h; exact h
theorem tx_neg {c : Prop} {d : Decidable c} {a b : Option ρ} {r : ρ} (hc : ¬ c) (h : @ite (Option ρ) c d a b = some r) : b = some r := by rw [if_neg hc] at h; exact h
theorem tx_1 {a r : α} (h : some a = some r) : a = r := Option.some.inj h
theorem tx_2 {a r : α} {b q : β} (h : some (a, b) = some (r, q)) : a = r ∧ b = q := by cases h; exact ⟨rfl, rfl⟩
end
theorem tx_3 {α β γ : Type} {a r : α} {b q : β} {c t : γ} (h : some (a, b, c) = some (r, q, t)) : a = r ∧ b = q ∧ c = t := by cases h; exact ⟨rfl, rfl, rfl⟩
theorem tx_4 {α β γ δ : Type} {a r : α} {b q : β} {c t : γ} {d u : δ} (h : some (a, b, c, d) = some (r, q, t, u)) : a = r ∧ b = q ∧ c = t ∧ d = u := by cases h; exact ⟨rfl, rfl, rfl, rfl⟩
theorem tx_5 {α0 α1 α2 α3 α4 : Type} {a0 b0 : α0} {a1 b1 : α1} {a2 b2 : α2} {a3 b3 : α3} {a4 b4 : α4} (h : some (a0, a1, a2, a3, a4) = some (b0, b1, b2, b3, b4)) : a0 = b0 ∧ a1 = b1 ∧ a2 = b2 ∧ a3 = b3 ∧ a4 = b4 := by cases h; exact ⟨rfl, rfl, rfl, rfl, rfl⟩
theorem tx_6 {α0 α1 α2 α3 α4 α5 : Type} {a0 b0 : α0} {a1 b1 : α1} {a2 b2 : α2} {a3 b3 : α3} {a4 b4 : α4} {a5 b5 : α5} (h : some (a0, a1, a2, a3, a4, a5) = some (b0, b1, b2, b3, b4, b5)) : a0 = b0 ∧ a1 = b1 ∧ a2 = b2 ∧ a3 = b3 ∧ a4 = b4 ∧ a5 = b5 := by cases h; exact ⟨rfl, rfl, rfl, rfl, rfl, rfl⟩
theorem tx_7 {α0 α1 α2 α3 α4 α5 α6 : Type} {a0 b0 : α0} {a1 b1 : α1} {a2 b2 : α2} {a3 b3 : α3} {a4 b4 : α4} {a5 b5 : α5} {a6 b6 : α6} (h : some (a0, a1, a2, a3, a4, a5, a6) = some (b0, b1, b2, b3, b4, b5, b6)) : a0 = b0 ∧ a1 = b1 ∧ a2 = b2 ∧ a3 = b3 ∧ a4 = b4 ∧ a5 = b5 ∧ a6 = b6 := by cases h; exact ⟨rfl, rfl, rfl, rfl, rfl, rfl, rfl⟩
theorem tx_8 {α0 α1 α2 α3 α4 α5 α6 α7 : Type} {a0 b0 : α0} {a1 b1 : α1} {a2 b2 : α2} {a3 b3 : α3} {a4 b4 : α4} {a5 b5 : α5} {a6 b6 : α6} {a7 b7 : α7} (h : some (a0, a1, a2, a3, a4, a5, a6, a7) = some (b0, b1, b2, b3, b4, b5, b6, b7)) : a0 = b0 ∧ a1 = b1 ∧ a2 = b2 ∧ a3 = b3 ∧ a4 = b4 ∧ a5 = b5 ∧ a6 = b6 ∧ a7 = b7 := by cases h; exact ⟨rfl, rfl, rfl, rfl, rfl, rfl, rfl, rfl⟩
theorem tx_9 {α0 α1 α2 α3 α4 α5 α6 α7 α8 : Type} {a0 b0 : α0} {a1 b1 : α1} {a2 b2 : α2} {a3 b3 : α3} {a4 b4 : α4} {a5 b5 : α5} {a6 b6 : α6} {a7 b7 : α7} {a8 b8 : α8} (h : some (a0, a1, a2, a3, a4, a5, a6, a7, a8) = some (b0, b1, b2, b3, b4, b5, b6, b7, b8)) : a0 = b0 ∧ a1 = b1 ∧ a2 = b2 ∧ a3 = b3 ∧ a4 = b4 ∧ a5 = b5 ∧ a6 = b6 ∧ a7 = b7 ∧ a8 = b8 := by cases h; exact ⟨rfl, rfl, rfl, rfl, rfl, rfl, rfl, rfl, rfl⟩
theorem tx_10 {α0 α1 α2 α3 α4 α5 α6 α7 α8 α9 : Type} {a0 b0 : α0} {a1 b1 : α1} {a2 b2 : α2} {a3 b3 : α3} {a4 b4 : α4} {a5 b5 : α5} {a6 b6 : α6} {a7 b7 : α7} {a8 b8 : α8} {a9 b9 : α9} (h : some (a0, a1, a2, a3, a4, a5, a6, a7, a8, a9) = some (b0, b1, b2, b3, b4, b5, b6, b7, b8, b9)) : a0 = b0 ∧ a1 = b1 ∧ a2 = b2 ∧ a3 = b3 ∧ a4 = b4 ∧ a5 = b5 ∧ a6 = b6 ∧ a7 = b7 ∧ a8 = b8 ∧ a9 = b9 := by cases h; exact ⟨rfl, rfl, rfl, rfl, rfl, rfl, rfl, rfl, rfl, rfl⟩
theorem tx_11 {α0 α1 α2 α3 α4 α5 α6 α7 α8 α9 α10 : Type} {a0 b0 : α0} {a1 b1 : α1} {a2 b2 : α2} {a3 b3 : α3} {a4 b4 : α4} {a5 b5 : α5} {a6 b6 : α6} {a7 b7 : α7} {a8 b8 : α8} {a9 b9 : α9} {a10 b10 : α10} (h : some (a0, a1, a2, a3, a4, a5, a6, a7, a8, a9, a10) = some (b0, b1, b2, b3, b4, b5, b6, b7, b8, b9, b10)) : a0 = b0 ∧ a1 = b1 ∧ a2 = b2 ∧ a3 = b3 ∧ a4 = b4 ∧ a5 = b5 ∧ a6 = b6 ∧ a7 = b7 ∧ a8 = b8 ∧ a9 = b9 ∧ a10 = b10 := by cases h; exact ⟨rfl, rfl, rfl, rfl, rfl, rfl, rfl, rfl, rfl, rfl, rfl⟩
theorem tx_12 {α0 α1 α2 α3 α4 α5 α6 α7 α8 α9 α10 α11 : Type} {a0 b0 : α0} {a1 b1 : α1} {a2 b2 : α2} {a3 b3 : α3} {a4 b4 : α4} {a5 b5 : α5} {a6 b6 : α6} {a7 b7 : α7} {a8 b8 : α8} {a9 b9 : α9} {a10 b10 : α10} {a11 b11 : α11} (h : some (a0, a1, a2, a3, a4, a5, a6, a7, a8, a9, a10, a11) = some (b0, b1, b2, b3, b4, b5, b6, b7, b8, b9, b10, b11)) : a0 = b0 ∧ a1 = b1 ∧ a2 = b2 ∧ a3 = b3 ∧ a4 = b4 ∧ a5 = b5 ∧ a6 = b6 ∧ a7 = b7 ∧ a8 = b8 ∧ a9 = b9 ∧ a10 = b10 ∧ a11 = b11 := by cases h; exact ⟨rfl, rfl, rfl, rfl, rfl, rfl, rfl, rfl, rfl, rfl, rfl, rfl⟩
theorem tx_in {i : Int32} {n : Nat} (h : okI i n = true) : vp_in i n := by
  simp only [okI, Bool.and_eq_true, decide_eq_true_eq] at h
  exact vp_in_iff.mpr h
theorem tx_n3 {i : Int32} {n : Nat} (h : okI i n = true) : i.toNatClampNeg < n := by
  simp only [okI, Bool.and_eq_true, decide_eq_true_eq] at h
  have hc : i.toNatClampNeg = i.toInt.toNat := rfl
  omega
theorem tx_nz {a b : Int32} (h : (!(a == b)) = true) : ¬ a = b := by simpa using h
theorem tx_nzl {a b : Int64} (h : (!(a == b)) = true) : ¬ a = b := by simpa using h
theorem tx_z {v : Int32} (h : okB v = true) : narrow .boolean (.int v) = .int v := by
  simp only [okB, Bool.or_eq_true, beq_iff_eq] at h
  rcases h with rfl | rfl <;> rfl
theorem tx_cp {sp dp n : Int32} {n0 n1 : Nat} (h : okC sp dp n n0 n1 = true) : ¬ sp < 0 ∧ ¬ dp < 0 ∧ ¬ n < 0 ∧ sp.toNatClampNeg + n.toNatClampNeg ≤ n0 ∧ dp.toNatClampNeg + n.toNatClampNeg ≤ n1 := by
  simp only [okC, Bool.and_eq_true, decide_eq_true_eq] at h
  have h0 : (0 : Int32).toInt = 0 := by decide
  have e1 : sp.toNatClampNeg = sp.toInt.toNat := rfl
  have e2 : dp.toNatClampNeg = dp.toInt.toNat := rfl
  have e3 : n.toNatClampNeg = n.toInt.toNat := rfl
  refine ⟨fun q => ?_, fun q => ?_, fun q => ?_, by omega, by omega⟩ <;>
  · have := Int32.lt_iff_toInt_lt.mp q
    omega
/-- what stays through a method's body -/
def tF (p : Program) (s : State) (m : MethodId) (args : Array Value) (meth : Method) (c : Code) (G : va_G) (cA : Nat → ClassId) (A : Nat → Prop) (own : String) (cc : ByteArray) (nL : Nat) (ret : Option FieldType) : Prop :=
  p.tables.exec = Jvm.exec ∧ c.code = cc ∧ meth.sig.returnType = ret ∧ c.maxLocals = nL ∧ (∀ w ∈ T0, w.before args s = true) ∧ s.vm.findClass own = some m.cls ∧ meth.locks = false ∧ va_K G vwCl (tyL cA) s ∧ tqN s ∧ ∀ q : Nat, s.heap.size ≤ q → A q
section TW
variable {p : Program} {l : Launch} {e : Env} {R : Room} {s : State} {m : MethodId} {args : Array Value} {below : List Frame} {meth : Method} {c : Code} {H : Heap} {locs : List Loc} {cells slots : Nat} {Q : State → Prop} {cc : ByteArray}
variable {pc : Nat} {ls : Array Slot} {rest st0 : List Value} {a : Array Value} {A A1 : Nat → Prop} {H0 : Heap} {G : va_G} {cA : Nat → ClassId} {ws wc wr : va_W}
theorem tw_P (hp : ws.Perm wc) (hP : va_P G vwCl ws H) : va_P G vwCl wc H := fun _ _ h => by
  obtain ⟨i, hi⟩ := List.mem_iff_getElem?.mp (hp.symm.subset (List.mem_of_getElem? h))
  exact hP i _ hi
theorem tw_inj (hD : va_D A ws) : ws.Pairwise (fun x y => x.1 ≠ y.1) := by
  rw [List.pairwise_iff_getElem]
  intro i j hi hj hij e
  have := hD.1 i j ws[i] ws[j] (List.getElem?_eq_getElem hi) (List.getElem?_eq_getElem hj) e
  omega
theorem tw_D (hp : ws.Perm wc) (hD : va_D A ws) : va_D A wc := by
  have h1 := (hp.pairwise_iff (R := fun x y : Nat × va_E => x.1 ≠ y.1) (fun h => fun e => h e.symm)).mp (tw_inj hD)
  refine ⟨fun i j x y hi hj e => ?_, fun k q h => ?_⟩
  · obtain ⟨hi', rfl⟩ := List.getElem?_eq_some_iff.mp hi
    obtain ⟨hj', rfl⟩ := List.getElem?_eq_some_iff.mp hj
    rw [List.pairwise_iff_getElem] at h1
    rcases Nat.lt_trichotomy i j with q | q | q
    · exact absurd e (h1 i j hi' hj' q)
    · exact q
    · exact absurd e.symm (h1 j i hj' hi' q)
  · obtain ⟨i, hi⟩ := List.mem_iff_getElem?.mp (hp.symm.subset (List.mem_of_getElem? h))
    exact hD.2 i _ hi
theorem tw_cut (hp : ws.Perm (wc ++ wr)) (hP : va_P G vwCl ws H) (hD : va_D A ws) : va_P G vwCl wc H ∧ va_D A wc ∧ va_P G vwCl wr H ∧ va_D A wr ∧ ∀ (i j : Nat) (x y : Nat × va_E), wc[i]? = some x → wr[j]? = some y → x.1 ≠ y.1 := by
  have hP1 := tw_P hp hP
  have hD1 := tw_D hp hD
  have kl : ∀ (i : Nat) (x : Nat × va_E), wc[i]? = some x → (wc ++ wr)[i]? = some x := fun i x h => by
    rw [List.getElem?_append_left (List.getElem?_eq_some_iff.mp h).1]; exact h
  have kr : ∀ (i : Nat) (x : Nat × va_E), wr[i]? = some x → (wc ++ wr)[wc.length + i]? = some x := fun i x h => by
    rw [List.getElem?_append_right (Nat.le_add_right _ _), Nat.add_sub_cancel_left]; exact h
  refine ⟨fun k q h => hP1 k q (kl k q h), ⟨fun i j x y hi hj e => hD1.1 i j x y (kl i x hi) (kl j y hj) e, fun k q h => hD1.2 k q (kl k q h)⟩, fun k q h => hP1 _ q (kr k q h), ⟨fun i j x y hi hj e => ?_, fun k q h => hD1.2 _ q (kr k q h)⟩, fun i j x y hi hj e => ?_⟩
  · have := hD1.1 _ _ x y (kr i x hi) (kr j y hj) e
    omega
  · have h1 := hD1.1 _ _ x y (kl i x hi) (kr j y hj) e
    have h2 := (List.getElem?_eq_some_iff.mp hi).1
    omega
theorem tw_free (hp : ws.Perm (wc ++ wr)) (hD : va_D A ws) (hS : va_S A H0 H locs) (hA : ∀ q, H0.size ≤ q → A q) : ∀ q, va_A wc H.size q → A q := by
  intro q hq
  rcases hq with ⟨k, e, he⟩ | hq
  · obtain ⟨i, hi⟩ := List.mem_iff_getElem?.mp (hp.symm.subset (List.mem_append_left _ (List.mem_of_getElem? he)))
    exact hD.2 i _ hi
  · exact hA q (Nat.le_trans hS.1 hq)
theorem tw_pre {av : List Value} (hp : ws.Perm (wc ++ wr)) (hP : va_P G vwCl ws H) (hD : va_D A ws) (hK : va_K G vwCl (tyL cA) s) (hN : tqN s) : PreS s H (tqP G cA av wc H.size) av := by
  obtain ⟨hP1, hD1, -⟩ := tw_cut hp hP hD
  exact ⟨tqP.blind, fun U hU hW => ⟨rfl, by rw [hU], by rw [hU]; exact hP1, va_K.moved hW.alike hK, hD1.weaken (fun _ _ _ _ => trivial), hN.warm hW⟩⟩
/-- what comes back stands beside the rest -/
theorem tw_join {w1 : va_W} {H1 : Heap} (hp : ws.Perm (wc ++ wr)) (hP : va_P G vwCl ws H) (hD : va_D A ws) (hk : ∀ q : Nat, q < H.size → ¬ va_A wc H.size q → H1[q]? = H[q]?) (hF : ∀ q, va_A wc H.size q → A q) (hP1 : va_P G vwCl w1 H1) (hD1 : va_D (va_A wc H.size) w1) : va_P G vwCl (w1 ++ wr) H1 ∧ va_D A (w1 ++ wr) := by
  obtain ⟨-, -, hPr, hDr, hx⟩ := tw_cut hp hP hD
  have apart : ∀ (k : Nat) (q : Nat × va_E), wr[k]? = some q → q.1 < H.size ∧ ¬ va_A wc H.size q.1 := by
    intro k q hq
    have hl := (hPr k q hq).lt
    refine ⟨hl, fun h => ?_⟩
    rcases h with ⟨k2, e, h⟩ | h
    · exact hx k2 k _ q h hq rfl
    · omega
  refine ⟨va_P.app hP1 (fun k q hq => (hPr k q hq).kept (hk q.1 (apart k q hq).1 (apart k q hq).2)), va_D.app (hD1.weaken (fun k q _ h => hF q.1 h)) hDr (fun i j x y hx hy hxy => ?_)⟩
  exact (apart j y hy).2 (by rw [← hxy]; exact hD1.2 i x hx)
theorem tw_ci {S : Type} {post : Int32 → S → Prop} {w1 : S → va_W} (hp : ws.Perm (wc ++ wr)) (hP : va_P G vwCl ws H) (hD : va_D A ws) (hS : va_S A H0 H locs) (hA : ∀ q, H0.size ≤ q → A q)
    (hr : va_Run p l e R s m args below meth c H locs cells slots 0 0 (F0 m pc ls st0) rest (tqQi G cA post w1 (va_A wc H.size) a) (va_A wc H.size))
    (kk : ∀ (r : Int32) (u : S) (H1 : Heap) (locs1 : List Loc), post r u → va_P G vwCl (w1 u ++ wr) H1 → va_D A (w1 u ++ wr) → va_S A H0 H1 locs1 → W p l e R s m args below meth c H1 locs1 cells slots Q (F0 m (pc + 3) ls (.int r :: rest))) : W p l e R s m args below meth c H locs cells slots Q (F0 m pc ls st0) := by
  have hFc := tw_free hp hD hS hA
  refine va_calli hr hS (fun q _ h => hFc q h) hFc (fun r u t H1 locs1 ht hvm hw hB hz1 hk1 hS1 => ?_)
  obtain ⟨hP1, hD1⟩ := hB
  rw [ht] at hP1
  obtain ⟨hP2, hD2⟩ := tw_join hp hP hD hk1 hFc hP1 hD1
  exact kk r u H1 locs1 hw hP2 hD2 hS1
theorem tw_cl {S : Type} {post : Int64 → S → Prop} {w1 : S → va_W} (hp : ws.Perm (wc ++ wr)) (hP : va_P G vwCl ws H) (hD : va_D A ws) (hS : va_S A H0 H locs) (hA : ∀ q, H0.size ≤ q → A q)
    (hr : va_Run p l e R s m args below meth c H locs cells slots 0 0 (F0 m pc ls st0) rest (tqQl G cA post w1 (va_A wc H.size) a) (va_A wc H.size))
    (kk : ∀ (r : Int64) (u : S) (H1 : Heap) (locs1 : List Loc), post r u → va_P G vwCl (w1 u ++ wr) H1 → va_D A (w1 u ++ wr) → va_S A H0 H1 locs1 → W p l e R s m args below meth c H1 locs1 cells slots Q (F0 m (pc + 3) ls (.long r :: rest))) : W p l e R s m args below meth c H locs cells slots Q (F0 m pc ls st0) := by
  have hFc := tw_free hp hD hS hA
  refine va_calll hr hS (fun q _ h => hFc q h) hFc (fun r u t H1 locs1 ht hvm hw hB hz1 hk1 hS1 => ?_)
  obtain ⟨hP1, hD1⟩ := hB
  rw [ht] at hP1
  obtain ⟨hP2, hD2⟩ := tw_join hp hP hD hk1 hFc hP1 hD1
  exact kk r u H1 locs1 hw hP2 hD2 hS1
theorem tw_cv {S : Type} {post : S → Prop} {w1 : S → va_W} (hp : ws.Perm (wc ++ wr)) (hP : va_P G vwCl ws H) (hD : va_D A ws) (hS : va_S A H0 H locs) (hA : ∀ q, H0.size ≤ q → A q)
    (hr : va_Run p l e R s m args below meth c H locs cells slots 0 0 (F0 m pc ls st0) rest (tqQv G cA post w1 (va_A wc H.size) a) (va_A wc H.size))
    (kk : ∀ (u : S) (H1 : Heap) (locs1 : List Loc), post u → va_P G vwCl (w1 u ++ wr) H1 → va_D A (w1 u ++ wr) → va_S A H0 H1 locs1 → W p l e R s m args below meth c H1 locs1 cells slots Q (F0 m (pc + 3) ls rest)) : W p l e R s m args below meth c H locs cells slots Q (F0 m pc ls st0) := by
  have hFc := tw_free hp hD hS hA
  refine va_callv hr hS (fun q _ h => hFc q h) hFc (fun u t H1 locs1 ht hvm hw hB hz1 hk1 hS1 => ?_)
  obtain ⟨hP1, hD1⟩ := hB
  rw [ht] at hP1
  obtain ⟨hP2, hD2⟩ := tw_join hp hP hD hk1 hFc hP1 hD1
  exact kk u H1 locs1 hw hP2 hD2 hS1
/-- the whole world goes to the callee -/
theorem tw_all : ws.Perm (ws ++ []) := by rw [List.append_nil]
end TW
theorem tw_none {ws : va_W} : ws.Perm (([] : va_W) ++ ws) := List.Perm.refl _
/-! the table of how tightly signs bind: a static array, never written -/
def bindsF (j : Nat) : Int32 := List.getD [0, 0, 0, 0, 0, 0, 0, 0, 0, 0, 0, 0, 0, 0, 0, 0, 0, 0, 0, 1, 2, 3, 0, 0, 0, 0, 0, 0, 0, 4, 4, 4, 4, 4, 4, 5, 5, 6, 6, 0] j 0
def tqB (bA : Nat) (A : Nat → Prop) (U : State) (H : Heap) : Prop := va_T .int bA 40 (fun j => .int (bindsF j)) A U H ∧ va_Z "RackTrain" "BINDS" "[I" (.ref bA) A U H ∧ va_Nw (.fieldLinkNest "RackTrain$Reader" 203 "RackTrain" "BINDS" "[I" "RackTrain") U
theorem tqB.kept {bA : Nat} {A : Nat → Prop} {U : State} {H H1 : Heap} (h : tqB bA A U H) (hq : ∀ a : Nat, a < H.size → ¬ A a → H1[a]? = H[a]?) : tqB bA A U H1 := ⟨h.1.kept hq, h.2.1.kept hq, h.2.2⟩
theorem tqB.narrow {bA : Nat} {A B : Nat → Prop} {U : State} {H : Heap} (h : tqB bA A U H) (hAB : ∀ q, B q → A q) : tqB bA B U H := ⟨h.1.narrow hAB, h.2.1.narrow hAB, h.2.2⟩
theorem tqB.warm {bA : Nat} {A : Nat → Prop} {u U : State} {H : Heap} (hW : u.WarmedH U.vm) (h : tqB bA A u H) : tqB bA A U H := ⟨h.1.moved hW.alike, h.2.1.moved hW.alike, va_Nw.warmF hW h.2.2⟩
theorem tqB.call {bA : Nat} {A : Nat → Prop} {U : State} {H : Heap} {g : JFrame} {mk : MethodId} {a : Array Value} (h : tqB bA A U H) : tqB bA A (U.calling g mk a) H := ⟨va_T.moved (u := U) (Vm.Alike.refl U.vm) h.1, va_Z.moved (u := U) (Vm.Alike.refl U.vm) h.2.1, va_Nw.same rfl rfl h.2.2⟩
def tqPB (bA : Nat) (G : va_G) (cA : Nat → ClassId) (av : List Value) (ws : va_W) (sz : Nat) : Array Value → State → Prop := va_Pc av (fun U => U.heap.size = sz ∧ va_P G vwCl ws U.heap ∧ va_K G vwCl (tyL cA) U ∧ va_D (fun _ => True) ws ∧ tqN U ∧ tqB bA (va_A ws sz) U U.heap)
theorem tqPB.blind {bA : Nat} {G : va_G} {cA : Nat → ClassId} {av : List Value} {ws : va_W} {sz : Nat} : FrameBlind (tqPB bA G cA av ws sz) := fun _ U _ _ q => ⟨q.1, q.2.1, q.2.2.1, va_K.moved (u := U) (Vm.Alike.refl U.vm) q.2.2.2.1, q.2.2.2.2.1, q.2.2.2.2.2.1.call, q.2.2.2.2.2.2.call⟩
theorem tw_preB {s : State} {H H0 : Heap} {locs : List Loc} {A : Nat → Prop} {G : va_G} {cA : Nat → ClassId} {ws wc wr : va_W} {bA : Nat} {av : List Value} (hp : ws.Perm (wc ++ wr)) (hP : va_P G vwCl ws H) (hD : va_D A ws) (hK : va_K G vwCl (tyL cA) s) (hN : tqN s) (hS : va_S A s.heap H locs) (hA : ∀ q : Nat, s.heap.size ≤ q → A q) (hB : tqB bA A s s.heap) : PreS s H (tqPB bA G cA av wc H.size) av := by
  obtain ⟨hP1, hD1, -⟩ := tw_cut hp hP hD
  have hFc := tw_free hp hD hS hA
  exact ⟨tqPB.blind, fun U hU hW => ⟨rfl, by rw [hU], by rw [hU]; exact hP1, va_K.moved hW.alike hK, hD1.weaken (fun _ _ _ _ => trivial), hN.warm hW, by rw [hU]; exact ((hB.kept hS.2.1).narrow hFc).warm hW⟩⟩
