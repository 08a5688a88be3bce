abbrev DkR := Jvm.ClassFile.Decoder
def dk_A (c d : ByteArray) (a : Nat) : Prop := ∀ p b, d.data.toList[p]? = some b → c.data.toList[a + p]? = some b
theorem dk_of {c : ByteArray} {l : List UInt8} {a n : Nat} (h : (c.data.toList.drop a).take n = l) : dk_A c (.mk (.mk l)) a := by
  intro p b e
  have e2 : l[p]? = some b := e
  rw [← h, List.getElem?_take] at e2
  split at e2
  · rw [List.getElem?_drop] at e2; exact e2
  · exact absurd e2 (by simp)
theorem dk_bind {α β : Type} (r : DkR α) (f : α → DkR β) (d : ByteArray) (p : Nat) : (r >>= f) d p = Except.bind (r d p) (fun y => f y.1 d y.2) := rfl
theorem dk_u1p {d : ByteArray} {p : Nat} (h : p < d.size) : (Jvm.ClassFile.Reader.u1 : DkR Nat) d p = .ok (d[p].toNat, p + 1) := by
  have e : (Jvm.ClassFile.Reader.u1 : DkR Nat) d p = (dite (p < d.size) (fun h => (do set (p + 1); pure d[p].toNat : DkR Nat)) (fun _ => throw (Jvm.ClassFile.HasTruncated.truncated p))) d p := rfl
  rw [e, dif_pos h]; rfl
theorem dk_u1n {d : ByteArray} {p : Nat} (h : ¬ p < d.size) : (Jvm.ClassFile.Reader.u1 : DkR Nat) d p = .error (.truncated p) := by
  have e : (Jvm.ClassFile.Reader.u1 : DkR Nat) d p = (dite (p < d.size) (fun h => (do set (p + 1); pure d[p].toNat : DkR Nat)) (fun _ => throw (Jvm.ClassFile.HasTruncated.truncated p))) d p := rfl
  rw [e, dif_neg h]; rfl
theorem dk_at {d : ByteArray} {p : Nat} (h : p < d.size) : d.data.toList[p]? = some d[p] := by
  have h2 : p < d.data.toList.length := by rw [Array.length_toList]; exact h
  rw [List.getElem?_eq_getElem h2]; rfl
theorem dk_lt {d : ByteArray} {p : Nat} {b : UInt8} (e : d.data.toList[p]? = some b) : ∃ h : p < d.size, d[p] = b := by
  obtain ⟨h2, e2⟩ := List.getElem?_eq_some_iff.mp e
  have h3 : p < d.size := by rw [Array.length_toList] at h2; exact h2
  exact ⟨h3, e2⟩
theorem dk_c1 {c d : ByteArray} {a k : Nat} {b : UInt8} (H : dk_A c d a) (h : d.data.toList[k]? = some b) : (Jvm.ClassFile.Reader.u1 : DkR Nat) c (a + k) = .ok (b.toNat, a + k + 1) := by
  obtain ⟨h1, e1⟩ := dk_lt (H k b h)
  rw [dk_u1p h1, e1]
theorem dk_dr {l : List UInt8} {k : Nat} {b : UInt8} {r : List UInt8} (h : l.drop k = b :: r) : l[k]? = some b ∧ l.drop (k + 1) = r := by
  have e : (l.drop k)[0]? = some b := by rw [h]; rfl
  have e2 : (l.drop k).drop 1 = r := by rw [h]; rfl
  rw [List.getElem?_drop] at e
  rw [List.drop_drop] at e2
  exact ⟨e, e2⟩
def dk_t0 (d : ByteArray) (k m : Nat) : Bool := match d.data.toList.drop k with | b :: _ => Nat.beq b.toNat m | _ => false
def dk_t1 (d : ByteArray) (k m v : Nat) : Bool := match d.data.toList.drop k with | b :: x :: _ => Nat.beq b.toNat m && Nat.beq x.toNat v | _ => false
def dk_t2 (d : ByteArray) (k m v : Nat) : Bool := match d.data.toList.drop k with | b :: x :: y :: _ => Nat.beq b.toNat m && Nat.beq (x.toNat * 256 + y.toNat) v | _ => false
def dk_t3 (d : ByteArray) (k m : Nat) (v : Int) : Bool := match d.data.toList.drop k with | b :: x :: _ => Nat.beq b.toNat m && decide (Jvm.ClassFile.Reader.signed 8 x.toNat = v) | _ => false
def dk_t4 (d : ByteArray) (k m : Nat) (v : Int) : Bool := match d.data.toList.drop k with | b :: x :: y :: _ => Nat.beq b.toNat m && decide (Jvm.ClassFile.Reader.signed 16 (x.toNat * 256 + y.toNat) = v) | _ => false
def dk_t5 (d : ByteArray) (k m v : Nat) (w : Int) : Bool := match d.data.toList.drop k with | b :: x :: y :: _ => Nat.beq b.toNat m && (Nat.beq x.toNat v && decide (Jvm.ClassFile.Reader.signed 8 y.toNat = w)) | _ => false
abbrev dk_I (m : Nat) (r : Nat → DkR Instr) : Prop := ∀ (pc : Nat) (c : ByteArray) (p q : Nat), (Jvm.ClassFile.Reader.u1 : DkR Nat) c p = .ok (m, q) → Jvm.ClassFile.Decoder.instr pc c p = r pc c q
theorem dk_end {c : ByteArray} {p q m n : Nat} {i : Instr} {r : Nat → DkR Instr} (hi : dk_I m r) (h : (Jvm.ClassFile.Reader.u1 : DkR Nat) c p = .ok (m, q)) (e : r p c q = .ok (i, p + n)) : decode c p = .ok (i, n) := by
  have x' : decode c p = Except.bind (Jvm.ClassFile.Decoder.instr p c p) (fun y => .ok (y.1, y.2 - p)) := rfl
  rw [x', hi p c p q h, e]
  show Except.ok (i, p + n - p) = Except.ok (i, n)
  rw [Nat.add_sub_cancel_left]
theorem dk_f0 {c d : ByteArray} {a k m : Nat} {i : Instr} (hi : dk_I m (fun _ => pure i)) (H : dk_A c d a) (h : dk_t0 d k m = true) : decode c (a + k) = .ok (i, 1) := by
  unfold dk_t0 at h
  split at h
  · rename_i b r e
    obtain ⟨e1, e2⟩ := dk_dr e
    have u := dk_c1 H e1
    rw [Nat.eq_of_beq_eq_true h] at u
    exact dk_end hi u rfl
  · cases h
theorem dk_f1 {c d : ByteArray} {a k m v : Nat} {f : Nat → Instr} (hi : dk_I m (fun _ => do pure (f (← Jvm.ClassFile.Reader.u1)))) (H : dk_A c d a) (h : dk_t1 d k m v = true) : decode c (a + k) = .ok (f v, 2) := by
  unfold dk_t1 at h
  split at h
  · rename_i b x r e
    obtain ⟨e1, e2⟩ := dk_dr e
    obtain ⟨e3, e4⟩ := dk_dr e2
    obtain ⟨h1, h2⟩ := Bool.and_eq_true_iff.mp h
    have u := dk_c1 H e1
    have u2 := dk_c1 H e3
    rw [Nat.eq_of_beq_eq_true h1] at u
    rw [Nat.eq_of_beq_eq_true h2] at u2
    refine dk_end hi u ?_
    show (Jvm.ClassFile.Reader.u1 >>= fun y => (pure (f y) : DkR Instr)) c (a + k + 1) = _
    rw [dk_bind, show a + k + 1 = a + (k + 1) from rfl, u2]
    rfl
  · cases h
theorem dk_uu {c d : ByteArray} {a k : Nat} {x y : UInt8} (H : dk_A c d a) (h1 : d.data.toList[k]? = some x) (h2 : d.data.toList[k + 1]? = some y) : (Jvm.ClassFile.Reader.u2 : DkR Nat) c (a + k) = .ok (x.toNat * 256 + y.toNat, a + k + 2) := by
  unfold Jvm.ClassFile.Reader.u2
  rw [dk_bind, dk_c1 H h1]
  show (Jvm.ClassFile.Reader.u1 >>= fun lo => (pure (x.toNat * 256 + lo) : DkR Nat)) c (a + k + 1) = _
  rw [dk_bind, show a + k + 1 = a + (k + 1) from rfl, dk_c1 H h2]
  rfl
theorem dk_f2 {c d : ByteArray} {a k m v : Nat} {f : Nat → Instr} (hi : dk_I m (fun _ => do pure (f (← Jvm.ClassFile.Reader.u2)))) (H : dk_A c d a) (h : dk_t2 d k m v = true) : decode c (a + k) = .ok (f v, 3) := by
  unfold dk_t2 at h
  split at h
  · rename_i b x y r e
    obtain ⟨e1, e2⟩ := dk_dr e
    obtain ⟨e3, e4⟩ := dk_dr e2
    obtain ⟨e5, e6⟩ := dk_dr e4
    obtain ⟨h1, h2⟩ := Bool.and_eq_true_iff.mp h
    have u := dk_c1 H e1
    have u2 := dk_uu H e3 e5
    rw [Nat.eq_of_beq_eq_true h1] at u
    rw [Nat.eq_of_beq_eq_true h2] at u2
    refine dk_end hi u ?_
    show (Jvm.ClassFile.Reader.u2 >>= fun y => (pure (f y) : DkR Instr)) c (a + k + 1) = _
    rw [dk_bind, show a + k + 1 = a + (k + 1) from rfl, u2]
    rfl
  · cases h
theorem dk_map {α β : Type} (f : α → β) (r : DkR α) (c : ByteArray) (p : Nat) : (f <$> r) c p = Except.bind (r c p) (fun y => .ok (f y.1, y.2)) := rfl
theorem dk_s1 {c : ByteArray} {p q x : Nat} (h : (Jvm.ClassFile.Reader.u1 : DkR Nat) c p = .ok (x, q)) : (Jvm.ClassFile.Reader.s1 : DkR Int) c p = .ok (Jvm.ClassFile.Reader.signed 8 x, q) := by
  unfold Jvm.ClassFile.Reader.s1
  rw [dk_map, h]; rfl
theorem dk_s2 {c : ByteArray} {p q x : Nat} (h : (Jvm.ClassFile.Reader.u2 : DkR Nat) c p = .ok (x, q)) : (Jvm.ClassFile.Reader.s2 : DkR Int) c p = .ok (Jvm.ClassFile.Reader.signed 16 x, q) := by
  unfold Jvm.ClassFile.Reader.s2
  rw [dk_map, h]; rfl
theorem dk_f3 {c d : ByteArray} {a k m : Nat} {v : Int} {f : Int → Instr} (hi : dk_I m (fun _ => do pure (f (← Jvm.ClassFile.Reader.s1)))) (H : dk_A c d a) (h : dk_t3 d k m v = true) : decode c (a + k) = .ok (f v, 2) := by
  unfold dk_t3 at h
  split at h
  · rename_i b x r e
    obtain ⟨e1, e2⟩ := dk_dr e
    obtain ⟨e3, e4⟩ := dk_dr e2
    obtain ⟨h1, h2⟩ := Bool.and_eq_true_iff.mp h
    have u := dk_c1 H e1
    have u2 := dk_c1 H e3
    rw [Nat.eq_of_beq_eq_true h1] at u
    refine dk_end hi u ?_
    show (Jvm.ClassFile.Reader.s1 >>= fun y => (pure (f y) : DkR Instr)) c (a + k + 1) = _
    rw [dk_bind, show a + k + 1 = a + (k + 1) from rfl, dk_s1 u2, ← of_decide_eq_true h2]
    rfl
  · cases h
theorem dk_f4 {c d : ByteArray} {a k m : Nat} {v : Int} {f : Int → Instr} (hi : dk_I m (fun _ => do pure (f (← Jvm.ClassFile.Reader.s2)))) (H : dk_A c d a) (h : dk_t4 d k m v = true) : decode c (a + k) = .ok (f v, 3) := by
  unfold dk_t4 at h
  split at h
  · rename_i b x y r e
    obtain ⟨e1, e2⟩ := dk_dr e
    obtain ⟨e3, e4⟩ := dk_dr e2
    obtain ⟨e5, e6⟩ := dk_dr e4
    obtain ⟨h1, h2⟩ := Bool.and_eq_true_iff.mp h
    have u := dk_c1 H e1
    have u2 := dk_uu H e3 e5
    rw [Nat.eq_of_beq_eq_true h1] at u
    refine dk_end hi u ?_
    show (Jvm.ClassFile.Reader.s2 >>= fun y => (pure (f y) : DkR Instr)) c (a + k + 1) = _
    rw [dk_bind, show a + k + 1 = a + (k + 1) from rfl, dk_s2 u2, ← of_decide_eq_true h2]
    rfl
  · cases h
theorem dk_f5 {c d : ByteArray} {a k m v : Nat} {w : Int} {f : Nat → Int → Instr} (hi : dk_I m (fun _ => do pure (f (← Jvm.ClassFile.Reader.u1) (← Jvm.ClassFile.Reader.s1)))) (H : dk_A c d a) (h : dk_t5 d k m v w = true) : decode c (a + k) = .ok (f v w, 3) := by
  unfold dk_t5 at h
  split at h
  · rename_i b x y r e
    obtain ⟨e1, e2⟩ := dk_dr e
    obtain ⟨e3, e4⟩ := dk_dr e2
    obtain ⟨e5, e6⟩ := dk_dr e4
    obtain ⟨h1, h0⟩ := Bool.and_eq_true_iff.mp h
    obtain ⟨h2, h3⟩ := Bool.and_eq_true_iff.mp h0
    have u := dk_c1 H e1
    have u2 := dk_c1 H e3
    have u3 := dk_c1 H e5
    rw [Nat.eq_of_beq_eq_true h1] at u
    rw [Nat.eq_of_beq_eq_true h2] at u2
    refine dk_end hi u ?_
    show (Jvm.ClassFile.Reader.u1 >>= fun x => Jvm.ClassFile.Reader.s1 >>= fun y => (pure (f x y) : DkR Instr)) c (a + k + 1) = _
    rw [dk_bind, show a + k + 1 = a + (k + 1) from rfl, u2]
    show (Jvm.ClassFile.Reader.s1 >>= fun y => (pure (f v y) : DkR Instr)) c (a + (k + 1) + 1) = _
    rw [dk_bind, show a + (k + 1) + 1 = a + (k + 1 + 1) from rfl, dk_s1 u3, ← of_decide_eq_true h3]
    rfl
  · cases h
theorem dk_id {c : ByteArray} : dk_A c c 0 := fun p b h => by rw [Nat.zero_add]; exact h
set_option maxRecDepth 100000 in
theorem dko_2 {c d : ByteArray} {a k : Nat} (H : dk_A c d a) (h : dk_t0 d k 2 = true) : decode c (a + k) = .ok (.iconst (-1), 1) := dk_f0 (m := 2) (fun pc c p q h => by unfold Jvm.ClassFile.Decoder.instr; rw [dk_bind, h]; rfl) H h
set_option maxRecDepth 100000 in
theorem dko_3 {c d : ByteArray} {a k : Nat} (H : dk_A c d a) (h : dk_t0 d k 3 = true) : decode c (a + k) = .ok (.iconst 0, 1) := dk_f0 (m := 3) (fun pc c p q h => by unfold Jvm.ClassFile.Decoder.instr; rw [dk_bind, h]; rfl) H h
set_option maxRecDepth 100000 in
theorem dko_4 {c d : ByteArray} {a k : Nat} (H : dk_A c d a) (h : dk_t0 d k 4 = true) : decode c (a + k) = .ok (.iconst 1, 1) := dk_f0 (m := 4) (fun pc c p q h => by unfold Jvm.ClassFile.Decoder.instr; rw [dk_bind, h]; rfl) H h
set_option maxRecDepth 100000 in
theorem dko_5 {c d : ByteArray} {a k : Nat} (H : dk_A c d a) (h : dk_t0 d k 5 = true) : decode c (a + k) = .ok (.iconst 2, 1) := dk_f0 (m := 5) (fun pc c p q h => by unfold Jvm.ClassFile.Decoder.instr; rw [dk_bind, h]; rfl) H h
set_option maxRecDepth 100000 in
theorem dko_6 {c d : ByteArray} {a k : Nat} (H : dk_A c d a) (h : dk_t0 d k 6 = true) : decode c (a + k) = .ok (.iconst 3, 1) := dk_f0 (m := 6) (fun pc c p q h => by unfold Jvm.ClassFile.Decoder.instr; rw [dk_bind, h]; rfl) H h
set_option maxRecDepth 100000 in
theorem dko_7 {c d : ByteArray} {a k : Nat} (H : dk_A c d a) (h : dk_t0 d k 7 = true) : decode c (a + k) = .ok (.iconst 4, 1) := dk_f0 (m := 7) (fun pc c p q h => by unfold Jvm.ClassFile.Decoder.instr; rw [dk_bind, h]; rfl) H h
set_option maxRecDepth 100000 in
theorem dko_8 {c d : ByteArray} {a k : Nat} (H : dk_A c d a) (h : dk_t0 d k 8 = true) : decode c (a + k) = .ok (.iconst 5, 1) := dk_f0 (m := 8) (fun pc c p q h => by unfold Jvm.ClassFile.Decoder.instr; rw [dk_bind, h]; rfl) H h
set_option maxRecDepth 100000 in
theorem dko_9 {c d : ByteArray} {a k : Nat} (H : dk_A c d a) (h : dk_t0 d k 9 = true) : decode c (a + k) = .ok (.lconst 0, 1) := dk_f0 (m := 9) (fun pc c p q h => by unfold Jvm.ClassFile.Decoder.instr; rw [dk_bind, h]; rfl) H h
set_option maxRecDepth 100000 in
theorem dko_10 {c d : ByteArray} {a k : Nat} (H : dk_A c d a) (h : dk_t0 d k 10 = true) : decode c (a + k) = .ok (.lconst 1, 1) := dk_f0 (m := 10) (fun pc c p q h => by unfold Jvm.ClassFile.Decoder.instr; rw [dk_bind, h]; rfl) H h
set_option maxRecDepth 100000 in
theorem dko_16 {c d : ByteArray} {a k : Nat} {v : Int} (H : dk_A c d a) (h : dk_t3 d k 16 v = true) : decode c (a + k) = .ok (.bipush v, 2) := dk_f3 (m := 16) (f := fun v => .bipush v) (fun pc c p q h => by unfold Jvm.ClassFile.Decoder.instr; rw [dk_bind, h]; rfl) H h
set_option maxRecDepth 100000 in
theorem dko_17 {c d : ByteArray} {a k : Nat} {v : Int} (H : dk_A c d a) (h : dk_t4 d k 17 v = true) : decode c (a + k) = .ok (.sipush v, 3) := dk_f4 (m := 17) (f := fun v => .sipush v) (fun pc c p q h => by unfold Jvm.ClassFile.Decoder.instr; rw [dk_bind, h]; rfl) H h
set_option maxRecDepth 100000 in
theorem dko_18 {c d : ByteArray} {a k : Nat} {v : Nat} (H : dk_A c d a) (h : dk_t1 d k 18 v = true) : decode c (a + k) = .ok (.ldc v, 2) := dk_f1 (m := 18) (f := fun v => .ldc v) (fun pc c p q h => by unfold Jvm.ClassFile.Decoder.instr; rw [dk_bind, h]; rfl) H h
set_option maxRecDepth 100000 in
theorem dko_19 {c d : ByteArray} {a k : Nat} {v : Nat} (H : dk_A c d a) (h : dk_t2 d k 19 v = true) : decode c (a + k) = .ok (.ldc_w v, 3) := dk_f2 (m := 19) (f := fun v => .ldc_w v) (fun pc c p q h => by unfold Jvm.ClassFile.Decoder.instr; rw [dk_bind, h]; rfl) H h
set_option maxRecDepth 100000 in
theorem dko_20 {c d : ByteArray} {a k : Nat} {v : Nat} (H : dk_A c d a) (h : dk_t2 d k 20 v = true) : decode c (a + k) = .ok (.ldc2_w v, 3) := dk_f2 (m := 20) (f := fun v => .ldc2_w v) (fun pc c p q h => by unfold Jvm.ClassFile.Decoder.instr; rw [dk_bind, h]; rfl) H h
set_option maxRecDepth 100000 in
theorem dko_21 {c d : ByteArray} {a k : Nat} {v : Nat} (H : dk_A c d a) (h : dk_t1 d k 21 v = true) : decode c (a + k) = .ok (.iload v, 2) := dk_f1 (m := 21) (f := fun v => .iload v) (fun pc c p q h => by unfold Jvm.ClassFile.Decoder.instr; rw [dk_bind, h]; rfl) H h
set_option maxRecDepth 100000 in
theorem dko_22 {c d : ByteArray} {a k : Nat} {v : Nat} (H : dk_A c d a) (h : dk_t1 d k 22 v = true) : decode c (a + k) = .ok (.lload v, 2) := dk_f1 (m := 22) (f := fun v => .lload v) (fun pc c p q h => by unfold Jvm.ClassFile.Decoder.instr; rw [dk_bind, h]; rfl) H h
set_option maxRecDepth 100000 in
theorem dko_25 {c d : ByteArray} {a k : Nat} {v : Nat} (H : dk_A c d a) (h : dk_t1 d k 25 v = true) : decode c (a + k) = .ok (.aload v, 2) := dk_f1 (m := 25) (f := fun v => .aload v) (fun pc c p q h => by unfold Jvm.ClassFile.Decoder.instr; rw [dk_bind, h]; rfl) H h
set_option maxRecDepth 100000 in
theorem dko_26 {c d : ByteArray} {a k : Nat} (H : dk_A c d a) (h : dk_t0 d k 26 = true) : decode c (a + k) = .ok (.iload_n 0, 1) := dk_f0 (m := 26) (fun pc c p q h => by unfold Jvm.ClassFile.Decoder.instr; rw [dk_bind, h]; rfl) H h
set_option maxRecDepth 100000 in
theorem dko_27 {c d : ByteArray} {a k : Nat} (H : dk_A c d a) (h : dk_t0 d k 27 = true) : decode c (a + k) = .ok (.iload_n 1, 1) := dk_f0 (m := 27) (fun pc c p q h => by unfold Jvm.ClassFile.Decoder.instr; rw [dk_bind, h]; rfl) H h
set_option maxRecDepth 100000 in
theorem dko_28 {c d : ByteArray} {a k : Nat} (H : dk_A c d a) (h : dk_t0 d k 28 = true) : decode c (a + k) = .ok (.iload_n 2, 1) := dk_f0 (m := 28) (fun pc c p q h => by unfold Jvm.ClassFile.Decoder.instr; rw [dk_bind, h]; rfl) H h
set_option maxRecDepth 100000 in
theorem dko_29 {c d : ByteArray} {a k : Nat} (H : dk_A c d a) (h : dk_t0 d k 29 = true) : decode c (a + k) = .ok (.iload_n 3, 1) := dk_f0 (m := 29) (fun pc c p q h => by unfold Jvm.ClassFile.Decoder.instr; rw [dk_bind, h]; rfl) H h
set_option maxRecDepth 100000 in
theorem dko_30 {c d : ByteArray} {a k : Nat} (H : dk_A c d a) (h : dk_t0 d k 30 = true) : decode c (a + k) = .ok (.lload_n 0, 1) := dk_f0 (m := 30) (fun pc c p q h => by unfold Jvm.ClassFile.Decoder.instr; rw [dk_bind, h]; rfl) H h
set_option maxRecDepth 100000 in
theorem dko_31 {c d : ByteArray} {a k : Nat} (H : dk_A c d a) (h : dk_t0 d k 31 = true) : decode c (a + k) = .ok (.lload_n 1, 1) := dk_f0 (m := 31) (fun pc c p q h => by unfold Jvm.ClassFile.Decoder.instr; rw [dk_bind, h]; rfl) H h
set_option maxRecDepth 100000 in
theorem dko_32 {c d : ByteArray} {a k : Nat} (H : dk_A c d a) (h : dk_t0 d k 32 = true) : decode c (a + k) = .ok (.lload_n 2, 1) := dk_f0 (m := 32) (fun pc c p q h => by unfold Jvm.ClassFile.Decoder.instr; rw [dk_bind, h]; rfl) H h
set_option maxRecDepth 100000 in
theorem dko_33 {c d : ByteArray} {a k : Nat} (H : dk_A c d a) (h : dk_t0 d k 33 = true) : decode c (a + k) = .ok (.lload_n 3, 1) := dk_f0 (m := 33) (fun pc c p q h => by unfold Jvm.ClassFile.Decoder.instr; rw [dk_bind, h]; rfl) H h
set_option maxRecDepth 100000 in
theorem dko_42 {c d : ByteArray} {a k : Nat} (H : dk_A c d a) (h : dk_t0 d k 42 = true) : decode c (a + k) = .ok (.aload_n 0, 1) := dk_f0 (m := 42) (fun pc c p q h => by unfold Jvm.ClassFile.Decoder.instr; rw [dk_bind, h]; rfl) H h
set_option maxRecDepth 100000 in
theorem dko_43 {c d : ByteArray} {a k : Nat} (H : dk_A c d a) (h : dk_t0 d k 43 = true) : decode c (a + k) = .ok (.aload_n 1, 1) := dk_f0 (m := 43) (fun pc c p q h => by unfold Jvm.ClassFile.Decoder.instr; rw [dk_bind, h]; rfl) H h
set_option maxRecDepth 100000 in
theorem dko_44 {c d : ByteArray} {a k : Nat} (H : dk_A c d a) (h : dk_t0 d k 44 = true) : decode c (a + k) = .ok (.aload_n 2, 1) := dk_f0 (m := 44) (fun pc c p q h => by unfold Jvm.ClassFile.Decoder.instr; rw [dk_bind, h]; rfl) H h
set_option maxRecDepth 100000 in
theorem dko_45 {c d : ByteArray} {a k : Nat} (H : dk_A c d a) (h : dk_t0 d k 45 = true) : decode c (a + k) = .ok (.aload_n 3, 1) := dk_f0 (m := 45) (fun pc c p q h => by unfold Jvm.ClassFile.Decoder.instr; rw [dk_bind, h]; rfl) H h
set_option maxRecDepth 100000 in
theorem dko_46 {c d : ByteArray} {a k : Nat} (H : dk_A c d a) (h : dk_t0 d k 46 = true) : decode c (a + k) = .ok (.iaload, 1) := dk_f0 (m := 46) (fun pc c p q h => by unfold Jvm.ClassFile.Decoder.instr; rw [dk_bind, h]; rfl) H h
set_option maxRecDepth 100000 in
theorem dko_47 {c d : ByteArray} {a k : Nat} (H : dk_A c d a) (h : dk_t0 d k 47 = true) : decode c (a + k) = .ok (.laload, 1) := dk_f0 (m := 47) (fun pc c p q h => by unfold Jvm.ClassFile.Decoder.instr; rw [dk_bind, h]; rfl) H h
set_option maxRecDepth 100000 in
theorem dko_50 {c d : ByteArray} {a k : Nat} (H : dk_A c d a) (h : dk_t0 d k 50 = true) : decode c (a + k) = .ok (.aaload, 1) := dk_f0 (m := 50) (fun pc c p q h => by unfold Jvm.ClassFile.Decoder.instr; rw [dk_bind, h]; rfl) H h
set_option maxRecDepth 100000 in
theorem dko_51 {c d : ByteArray} {a k : Nat} (H : dk_A c d a) (h : dk_t0 d k 51 = true) : decode c (a + k) = .ok (.baload, 1) := dk_f0 (m := 51) (fun pc c p q h => by unfold Jvm.ClassFile.Decoder.instr; rw [dk_bind, h]; rfl) H h
set_option maxRecDepth 100000 in
theorem dko_54 {c d : ByteArray} {a k : Nat} {v : Nat} (H : dk_A c d a) (h : dk_t1 d k 54 v = true) : decode c (a + k) = .ok (.istore v, 2) := dk_f1 (m := 54) (f := fun v => .istore v) (fun pc c p q h => by unfold Jvm.ClassFile.Decoder.instr; rw [dk_bind, h]; rfl) H h
set_option maxRecDepth 100000 in
theorem dko_55 {c d : ByteArray} {a k : Nat} {v : Nat} (H : dk_A c d a) (h : dk_t1 d k 55 v = true) : decode c (a + k) = .ok (.lstore v, 2) := dk_f1 (m := 55) (f := fun v => .lstore v) (fun pc c p q h => by unfold Jvm.ClassFile.Decoder.instr; rw [dk_bind, h]; rfl) H h
set_option maxRecDepth 100000 in
theorem dko_58 {c d : ByteArray} {a k : Nat} {v : Nat} (H : dk_A c d a) (h : dk_t1 d k 58 v = true) : decode c (a + k) = .ok (.astore v, 2) := dk_f1 (m := 58) (f := fun v => .astore v) (fun pc c p q h => by unfold Jvm.ClassFile.Decoder.instr; rw [dk_bind, h]; rfl) H h
set_option maxRecDepth 100000 in
theorem dko_59 {c d : ByteArray} {a k : Nat} (H : dk_A c d a) (h : dk_t0 d k 59 = true) : decode c (a + k) = .ok (.istore_n 0, 1) := dk_f0 (m := 59) (fun pc c p q h => by unfold Jvm.ClassFile.Decoder.instr; rw [dk_bind, h]; rfl) H h
set_option maxRecDepth 100000 in
theorem dko_60 {c d : ByteArray} {a k : Nat} (H : dk_A c d a) (h : dk_t0 d k 60 = true) : decode c (a + k) = .ok (.istore_n 1, 1) := dk_f0 (m := 60) (fun pc c p q h => by unfold Jvm.ClassFile.Decoder.instr; rw [dk_bind, h]; rfl) H h
set_option maxRecDepth 100000 in
theorem dko_61 {c d : ByteArray} {a k : Nat} (H : dk_A c d a) (h : dk_t0 d k 61 = true) : decode c (a + k) = .ok (.istore_n 2, 1) := dk_f0 (m := 61) (fun pc c p q h => by unfold Jvm.ClassFile.Decoder.instr; rw [dk_bind, h]; rfl) H h
set_option maxRecDepth 100000 in
theorem dko_62 {c d : ByteArray} {a k : Nat} (H : dk_A c d a) (h : dk_t0 d k 62 = true) : decode c (a + k) = .ok (.istore_n 3, 1) := dk_f0 (m := 62) (fun pc c p q h => by unfold Jvm.ClassFile.Decoder.instr; rw [dk_bind, h]; rfl) H h
set_option maxRecDepth 100000 in
theorem dko_65 {c d : ByteArray} {a k : Nat} (H : dk_A c d a) (h : dk_t0 d k 65 = true) : decode c (a + k) = .ok (.lstore_n 2, 1) := dk_f0 (m := 65) (fun pc c p q h => by unfold Jvm.ClassFile.Decoder.instr; rw [dk_bind, h]; rfl) H h
set_option maxRecDepth 100000 in
theorem dko_66 {c d : ByteArray} {a k : Nat} (H : dk_A c d a) (h : dk_t0 d k 66 = true) : decode c (a + k) = .ok (.lstore_n 3, 1) := dk_f0 (m := 66) (fun pc c p q h => by unfold Jvm.ClassFile.Decoder.instr; rw [dk_bind, h]; rfl) H h
set_option maxRecDepth 100000 in
theorem dko_76 {c d : ByteArray} {a k : Nat} (H : dk_A c d a) (h : dk_t0 d k 76 = true) : decode c (a + k) = .ok (.astore_n 1, 1) := dk_f0 (m := 76) (fun pc c p q h => by unfold Jvm.ClassFile.Decoder.instr; rw [dk_bind, h]; rfl) H h
set_option maxRecDepth 100000 in
theorem dko_77 {c d : ByteArray} {a k : Nat} (H : dk_A c d a) (h : dk_t0 d k 77 = true) : decode c (a + k) = .ok (.astore_n 2, 1) := dk_f0 (m := 77) (fun pc c p q h => by unfold Jvm.ClassFile.Decoder.instr; rw [dk_bind, h]; rfl) H h
set_option maxRecDepth 100000 in
theorem dko_78 {c d : ByteArray} {a k : Nat} (H : dk_A c d a) (h : dk_t0 d k 78 = true) : decode c (a + k) = .ok (.astore_n 3, 1) := dk_f0 (m := 78) (fun pc c p q h => by unfold Jvm.ClassFile.Decoder.instr; rw [dk_bind, h]; rfl) H h
set_option maxRecDepth 100000 in
theorem dko_79 {c d : ByteArray} {a k : Nat} (H : dk_A c d a) (h : dk_t0 d k 79 = true) : decode c (a + k) = .ok (.iastore, 1) := dk_f0 (m := 79) (fun pc c p q h => by unfold Jvm.ClassFile.Decoder.instr; rw [dk_bind, h]; rfl) H h
set_option maxRecDepth 100000 in
theorem dko_80 {c d : ByteArray} {a k : Nat} (H : dk_A c d a) (h : dk_t0 d k 80 = true) : decode c (a + k) = .ok (.lastore, 1) := dk_f0 (m := 80) (fun pc c p q h => by unfold Jvm.ClassFile.Decoder.instr; rw [dk_bind, h]; rfl) H h
set_option maxRecDepth 100000 in
theorem dko_83 {c d : ByteArray} {a k : Nat} (H : dk_A c d a) (h : dk_t0 d k 83 = true) : decode c (a + k) = .ok (.aastore, 1) := dk_f0 (m := 83) (fun pc c p q h => by unfold Jvm.ClassFile.Decoder.instr; rw [dk_bind, h]; rfl) H h
set_option maxRecDepth 100000 in
theorem dko_84 {c d : ByteArray} {a k : Nat} (H : dk_A c d a) (h : dk_t0 d k 84 = true) : decode c (a + k) = .ok (.bastore, 1) := dk_f0 (m := 84) (fun pc c p q h => by unfold Jvm.ClassFile.Decoder.instr; rw [dk_bind, h]; rfl) H h
set_option maxRecDepth 100000 in
theorem dko_87 {c d : ByteArray} {a k : Nat} (H : dk_A c d a) (h : dk_t0 d k 87 = true) : decode c (a + k) = .ok (.pop, 1) := dk_f0 (m := 87) (fun pc c p q h => by unfold Jvm.ClassFile.Decoder.instr; rw [dk_bind, h]; rfl) H h
set_option maxRecDepth 100000 in
theorem dko_88 {c d : ByteArray} {a k : Nat} (H : dk_A c d a) (h : dk_t0 d k 88 = true) : decode c (a + k) = .ok (.pop2, 1) := dk_f0 (m := 88) (fun pc c p q h => by unfold Jvm.ClassFile.Decoder.instr; rw [dk_bind, h]; rfl) H h
set_option maxRecDepth 100000 in
theorem dko_89 {c d : ByteArray} {a k : Nat} (H : dk_A c d a) (h : dk_t0 d k 89 = true) : decode c (a + k) = .ok (.dup, 1) := dk_f0 (m := 89) (fun pc c p q h => by unfold Jvm.ClassFile.Decoder.instr; rw [dk_bind, h]; rfl) H h
set_option maxRecDepth 100000 in
theorem dko_92 {c d : ByteArray} {a k : Nat} (H : dk_A c d a) (h : dk_t0 d k 92 = true) : decode c (a + k) = .ok (.dup2, 1) := dk_f0 (m := 92) (fun pc c p q h => by unfold Jvm.ClassFile.Decoder.instr; rw [dk_bind, h]; rfl) H h
set_option maxRecDepth 100000 in
theorem dko_96 {c d : ByteArray} {a k : Nat} (H : dk_A c d a) (h : dk_t0 d k 96 = true) : decode c (a + k) = .ok (.iadd, 1) := dk_f0 (m := 96) (fun pc c p q h => by unfold Jvm.ClassFile.Decoder.instr; rw [dk_bind, h]; rfl) H h
set_option maxRecDepth 100000 in
theorem dko_97 {c d : ByteArray} {a k : Nat} (H : dk_A c d a) (h : dk_t0 d k 97 = true) : decode c (a + k) = .ok (.ladd, 1) := dk_f0 (m := 97) (fun pc c p q h => by unfold Jvm.ClassFile.Decoder.instr; rw [dk_bind, h]; rfl) H h
set_option maxRecDepth 100000 in
theorem dko_100 {c d : ByteArray} {a k : Nat} (H : dk_A c d a) (h : dk_t0 d k 100 = true) : decode c (a + k) = .ok (.isub, 1) := dk_f0 (m := 100) (fun pc c p q h => by unfold Jvm.ClassFile.Decoder.instr; rw [dk_bind, h]; rfl) H h
set_option maxRecDepth 100000 in
theorem dko_101 {c d : ByteArray} {a k : Nat} (H : dk_A c d a) (h : dk_t0 d k 101 = true) : decode c (a + k) = .ok (.lsub, 1) := dk_f0 (m := 101) (fun pc c p q h => by unfold Jvm.ClassFile.Decoder.instr; rw [dk_bind, h]; rfl) H h
set_option maxRecDepth 100000 in
theorem dko_104 {c d : ByteArray} {a k : Nat} (H : dk_A c d a) (h : dk_t0 d k 104 = true) : decode c (a + k) = .ok (.imul, 1) := dk_f0 (m := 104) (fun pc c p q h => by unfold Jvm.ClassFile.Decoder.instr; rw [dk_bind, h]; rfl) H h
set_option maxRecDepth 100000 in
theorem dko_105 {c d : ByteArray} {a k : Nat} (H : dk_A c d a) (h : dk_t0 d k 105 = true) : decode c (a + k) = .ok (.lmul, 1) := dk_f0 (m := 105) (fun pc c p q h => by unfold Jvm.ClassFile.Decoder.instr; rw [dk_bind, h]; rfl) H h
set_option maxRecDepth 100000 in
theorem dko_108 {c d : ByteArray} {a k : Nat} (H : dk_A c d a) (h : dk_t0 d k 108 = true) : decode c (a + k) = .ok (.idiv, 1) := dk_f0 (m := 108) (fun pc c p q h => by unfold Jvm.ClassFile.Decoder.instr; rw [dk_bind, h]; rfl) H h
set_option maxRecDepth 100000 in
theorem dko_109 {c d : ByteArray} {a k : Nat} (H : dk_A c d a) (h : dk_t0 d k 109 = true) : decode c (a + k) = .ok (.ldiv, 1) := dk_f0 (m := 109) (fun pc c p q h => by unfold Jvm.ClassFile.Decoder.instr; rw [dk_bind, h]; rfl) H h
set_option maxRecDepth 100000 in
theorem dko_112 {c d : ByteArray} {a k : Nat} (H : dk_A c d a) (h : dk_t0 d k 112 = true) : decode c (a + k) = .ok (.irem, 1) := dk_f0 (m := 112) (fun pc c p q h => by unfold Jvm.ClassFile.Decoder.instr; rw [dk_bind, h]; rfl) H h
set_option maxRecDepth 100000 in
theorem dko_113 {c d : ByteArray} {a k : Nat} (H : dk_A c d a) (h : dk_t0 d k 113 = true) : decode c (a + k) = .ok (.lrem, 1) := dk_f0 (m := 113) (fun pc c p q h => by unfold Jvm.ClassFile.Decoder.instr; rw [dk_bind, h]; rfl) H h
set_option maxRecDepth 100000 in
theorem dko_117 {c d : ByteArray} {a k : Nat} (H : dk_A c d a) (h : dk_t0 d k 117 = true) : decode c (a + k) = .ok (.lneg, 1) := dk_f0 (m := 117) (fun pc c p q h => by unfold Jvm.ClassFile.Decoder.instr; rw [dk_bind, h]; rfl) H h
set_option maxRecDepth 100000 in
theorem dko_120 {c d : ByteArray} {a k : Nat} (H : dk_A c d a) (h : dk_t0 d k 120 = true) : decode c (a + k) = .ok (.ishl, 1) := dk_f0 (m := 120) (fun pc c p q h => by unfold Jvm.ClassFile.Decoder.instr; rw [dk_bind, h]; rfl) H h
set_option maxRecDepth 100000 in
theorem dko_122 {c d : ByteArray} {a k : Nat} (H : dk_A c d a) (h : dk_t0 d k 122 = true) : decode c (a + k) = .ok (.ishr, 1) := dk_f0 (m := 122) (fun pc c p q h => by unfold Jvm.ClassFile.Decoder.instr; rw [dk_bind, h]; rfl) H h
set_option maxRecDepth 100000 in
theorem dko_124 {c d : ByteArray} {a k : Nat} (H : dk_A c d a) (h : dk_t0 d k 124 = true) : decode c (a + k) = .ok (.iushr, 1) := dk_f0 (m := 124) (fun pc c p q h => by unfold Jvm.ClassFile.Decoder.instr; rw [dk_bind, h]; rfl) H h
set_option maxRecDepth 100000 in
theorem dko_126 {c d : ByteArray} {a k : Nat} (H : dk_A c d a) (h : dk_t0 d k 126 = true) : decode c (a + k) = .ok (.iand, 1) := dk_f0 (m := 126) (fun pc c p q h => by unfold Jvm.ClassFile.Decoder.instr; rw [dk_bind, h]; rfl) H h
set_option maxRecDepth 100000 in
theorem dko_127 {c d : ByteArray} {a k : Nat} (H : dk_A c d a) (h : dk_t0 d k 127 = true) : decode c (a + k) = .ok (.land, 1) := dk_f0 (m := 127) (fun pc c p q h => by unfold Jvm.ClassFile.Decoder.instr; rw [dk_bind, h]; rfl) H h
set_option maxRecDepth 100000 in
theorem dko_128 {c d : ByteArray} {a k : Nat} (H : dk_A c d a) (h : dk_t0 d k 128 = true) : decode c (a + k) = .ok (.ior, 1) := dk_f0 (m := 128) (fun pc c p q h => by unfold Jvm.ClassFile.Decoder.instr; rw [dk_bind, h]; rfl) H h
set_option maxRecDepth 100000 in
theorem dko_132 {c d : ByteArray} {a k : Nat} {v : Nat} {w : Int} (H : dk_A c d a) (h : dk_t5 d k 132 v w = true) : decode c (a + k) = .ok (.iinc v w, 3) := dk_f5 (m := 132) (f := fun v w => .iinc v w) (fun pc c p q h => by unfold Jvm.ClassFile.Decoder.instr; rw [dk_bind, h]; rfl) H h
set_option maxRecDepth 100000 in
theorem dko_133 {c d : ByteArray} {a k : Nat} (H : dk_A c d a) (h : dk_t0 d k 133 = true) : decode c (a + k) = .ok (.i2l, 1) := dk_f0 (m := 133) (fun pc c p q h => by unfold Jvm.ClassFile.Decoder.instr; rw [dk_bind, h]; rfl) H h
set_option maxRecDepth 100000 in
theorem dko_136 {c d : ByteArray} {a k : Nat} (H : dk_A c d a) (h : dk_t0 d k 136 = true) : decode c (a + k) = .ok (.l2i, 1) := dk_f0 (m := 136) (fun pc c p q h => by unfold Jvm.ClassFile.Decoder.instr; rw [dk_bind, h]; rfl) H h
set_option maxRecDepth 100000 in
theorem dko_145 {c d : ByteArray} {a k : Nat} (H : dk_A c d a) (h : dk_t0 d k 145 = true) : decode c (a + k) = .ok (.i2b, 1) := dk_f0 (m := 145) (fun pc c p q h => by unfold Jvm.ClassFile.Decoder.instr; rw [dk_bind, h]; rfl) H h
set_option maxRecDepth 100000 in
theorem dko_146 {c d : ByteArray} {a k : Nat} (H : dk_A c d a) (h : dk_t0 d k 146 = true) : decode c (a + k) = .ok (.i2c, 1) := dk_f0 (m := 146) (fun pc c p q h => by unfold Jvm.ClassFile.Decoder.instr; rw [dk_bind, h]; rfl) H h
set_option maxRecDepth 100000 in
theorem dko_148 {c d : ByteArray} {a k : Nat} (H : dk_A c d a) (h : dk_t0 d k 148 = true) : decode c (a + k) = .ok (.lcmp, 1) := dk_f0 (m := 148) (fun pc c p q h => by unfold Jvm.ClassFile.Decoder.instr; rw [dk_bind, h]; rfl) H h
set_option maxRecDepth 100000 in
theorem dko_153 {c d : ByteArray} {a k : Nat} {v : Int} (H : dk_A c d a) (h : dk_t4 d k 153 v = true) : decode c (a + k) = .ok (.ifCond .eq v, 3) := dk_f4 (m := 153) (f := fun v => .ifCond .eq v) (fun pc c p q h => by unfold Jvm.ClassFile.Decoder.instr; rw [dk_bind, h]; rfl) H h
set_option maxRecDepth 100000 in
theorem dko_154 {c d : ByteArray} {a k : Nat} {v : Int} (H : dk_A c d a) (h : dk_t4 d k 154 v = true) : decode c (a + k) = .ok (.ifCond .ne v, 3) := dk_f4 (m := 154) (f := fun v => .ifCond .ne v) (fun pc c p q h => by unfold Jvm.ClassFile.Decoder.instr; rw [dk_bind, h]; rfl) H h
set_option maxRecDepth 100000 in
theorem dko_155 {c d : ByteArray} {a k : Nat} {v : Int} (H : dk_A c d a) (h : dk_t4 d k 155 v = true) : decode c (a + k) = .ok (.ifCond .lt v, 3) := dk_f4 (m := 155) (f := fun v => .ifCond .lt v) (fun pc c p q h => by unfold Jvm.ClassFile.Decoder.instr; rw [dk_bind, h]; rfl) H h
set_option maxRecDepth 100000 in
theorem dko_156 {c d : ByteArray} {a k : Nat} {v : Int} (H : dk_A c d a) (h : dk_t4 d k 156 v = true) : decode c (a + k) = .ok (.ifCond .ge v, 3) := dk_f4 (m := 156) (f := fun v => .ifCond .ge v) (fun pc c p q h => by unfold Jvm.ClassFile.Decoder.instr; rw [dk_bind, h]; rfl) H h
set_option maxRecDepth 100000 in
theorem dko_157 {c d : ByteArray} {a k : Nat} {v : Int} (H : dk_A c d a) (h : dk_t4 d k 157 v = true) : decode c (a + k) = .ok (.ifCond .gt v, 3) := dk_f4 (m := 157) (f := fun v => .ifCond .gt v) (fun pc c p q h => by unfold Jvm.ClassFile.Decoder.instr; rw [dk_bind, h]; rfl) H h
set_option maxRecDepth 100000 in
theorem dko_158 {c d : ByteArray} {a k : Nat} {v : Int} (H : dk_A c d a) (h : dk_t4 d k 158 v = true) : decode c (a + k) = .ok (.ifCond .le v, 3) := dk_f4 (m := 158) (f := fun v => .ifCond .le v) (fun pc c p q h => by unfold Jvm.ClassFile.Decoder.instr; rw [dk_bind, h]; rfl) H h
set_option maxRecDepth 100000 in
theorem dko_159 {c d : ByteArray} {a k : Nat} {v : Int} (H : dk_A c d a) (h : dk_t4 d k 159 v = true) : decode c (a + k) = .ok (.if_icmp .eq v, 3) := dk_f4 (m := 159) (f := fun v => .if_icmp .eq v) (fun pc c p q h => by unfold Jvm.ClassFile.Decoder.instr; rw [dk_bind, h]; rfl) H h
set_option maxRecDepth 100000 in
theorem dko_160 {c d : ByteArray} {a k : Nat} {v : Int} (H : dk_A c d a) (h : dk_t4 d k 160 v = true) : decode c (a + k) = .ok (.if_icmp .ne v, 3) := dk_f4 (m := 160) (f := fun v => .if_icmp .ne v) (fun pc c p q h => by unfold Jvm.ClassFile.Decoder.instr; rw [dk_bind, h]; rfl) H h
set_option maxRecDepth 100000 in
theorem dko_161 {c d : ByteArray} {a k : Nat} {v : Int} (H : dk_A c d a) (h : dk_t4 d k 161 v = true) : decode c (a + k) = .ok (.if_icmp .lt v, 3) := dk_f4 (m := 161) (f := fun v => .if_icmp .lt v) (fun pc c p q h => by unfold Jvm.ClassFile.Decoder.instr; rw [dk_bind, h]; rfl) H h
set_option maxRecDepth 100000 in
theorem dko_162 {c d : ByteArray} {a k : Nat} {v : Int} (H : dk_A c d a) (h : dk_t4 d k 162 v = true) : decode c (a + k) = .ok (.if_icmp .ge v, 3) := dk_f4 (m := 162) (f := fun v => .if_icmp .ge v) (fun pc c p q h => by unfold Jvm.ClassFile.Decoder.instr; rw [dk_bind, h]; rfl) H h
set_option maxRecDepth 100000 in
theorem dko_163 {c d : ByteArray} {a k : Nat} {v : Int} (H : dk_A c d a) (h : dk_t4 d k 163 v = true) : decode c (a + k) = .ok (.if_icmp .gt v, 3) := dk_f4 (m := 163) (f := fun v => .if_icmp .gt v) (fun pc c p q h => by unfold Jvm.ClassFile.Decoder.instr; rw [dk_bind, h]; rfl) H h
set_option maxRecDepth 100000 in
theorem dko_164 {c d : ByteArray} {a k : Nat} {v : Int} (H : dk_A c d a) (h : dk_t4 d k 164 v = true) : decode c (a + k) = .ok (.if_icmp .le v, 3) := dk_f4 (m := 164) (f := fun v => .if_icmp .le v) (fun pc c p q h => by unfold Jvm.ClassFile.Decoder.instr; rw [dk_bind, h]; rfl) H h
set_option maxRecDepth 100000 in
theorem dko_167 {c d : ByteArray} {a k : Nat} {v : Int} (H : dk_A c d a) (h : dk_t4 d k 167 v = true) : decode c (a + k) = .ok (.goto v, 3) := dk_f4 (m := 167) (f := fun v => .goto v) (fun pc c p q h => by unfold Jvm.ClassFile.Decoder.instr; rw [dk_bind, h]; rfl) H h
set_option maxRecDepth 100000 in
theorem dko_172 {c d : ByteArray} {a k : Nat} (H : dk_A c d a) (h : dk_t0 d k 172 = true) : decode c (a + k) = .ok (.ireturn, 1) := dk_f0 (m := 172) (fun pc c p q h => by unfold Jvm.ClassFile.Decoder.instr; rw [dk_bind, h]; rfl) H h
set_option maxRecDepth 100000 in
theorem dko_173 {c d : ByteArray} {a k : Nat} (H : dk_A c d a) (h : dk_t0 d k 173 = true) : decode c (a + k) = .ok (.lreturn, 1) := dk_f0 (m := 173) (fun pc c p q h => by unfold Jvm.ClassFile.Decoder.instr; rw [dk_bind, h]; rfl) H h
set_option maxRecDepth 100000 in
theorem dko_177 {c d : ByteArray} {a k : Nat} (H : dk_A c d a) (h : dk_t0 d k 177 = true) : decode c (a + k) = .ok (.return_, 1) := dk_f0 (m := 177) (fun pc c p q h => by unfold Jvm.ClassFile.Decoder.instr; rw [dk_bind, h]; rfl) H h
set_option maxRecDepth 100000 in
theorem dko_178 {c d : ByteArray} {a k : Nat} {v : Nat} (H : dk_A c d a) (h : dk_t2 d k 178 v = true) : decode c (a + k) = .ok (.getstatic v, 3) := dk_f2 (m := 178) (f := fun v => .getstatic v) (fun pc c p q h => by unfold Jvm.ClassFile.Decoder.instr; rw [dk_bind, h]; rfl) H h
set_option maxRecDepth 100000 in
theorem dko_180 {c d : ByteArray} {a k : Nat} {v : Nat} (H : dk_A c d a) (h : dk_t2 d k 180 v = true) : decode c (a + k) = .ok (.getfield v, 3) := dk_f2 (m := 180) (f := fun v => .getfield v) (fun pc c p q h => by unfold Jvm.ClassFile.Decoder.instr; rw [dk_bind, h]; rfl) H h
set_option maxRecDepth 100000 in
theorem dko_181 {c d : ByteArray} {a k : Nat} {v : Nat} (H : dk_A c d a) (h : dk_t2 d k 181 v = true) : decode c (a + k) = .ok (.putfield v, 3) := dk_f2 (m := 181) (f := fun v => .putfield v) (fun pc c p q h => by unfold Jvm.ClassFile.Decoder.instr; rw [dk_bind, h]; rfl) H h
set_option maxRecDepth 100000 in
theorem dko_182 {c d : ByteArray} {a k : Nat} {v : Nat} (H : dk_A c d a) (h : dk_t2 d k 182 v = true) : decode c (a + k) = .ok (.invokevirtual v, 3) := dk_f2 (m := 182) (f := fun v => .invokevirtual v) (fun pc c p q h => by unfold Jvm.ClassFile.Decoder.instr; rw [dk_bind, h]; rfl) H h
set_option maxRecDepth 100000 in
theorem dko_183 {c d : ByteArray} {a k : Nat} {v : Nat} (H : dk_A c d a) (h : dk_t2 d k 183 v = true) : decode c (a + k) = .ok (.invokespecial v, 3) := dk_f2 (m := 183) (f := fun v => .invokespecial v) (fun pc c p q h => by unfold Jvm.ClassFile.Decoder.instr; rw [dk_bind, h]; rfl) H h
set_option maxRecDepth 100000 in
theorem dko_184 {c d : ByteArray} {a k : Nat} {v : Nat} (H : dk_A c d a) (h : dk_t2 d k 184 v = true) : decode c (a + k) = .ok (.invokestatic v, 3) := dk_f2 (m := 184) (f := fun v => .invokestatic v) (fun pc c p q h => by unfold Jvm.ClassFile.Decoder.instr; rw [dk_bind, h]; rfl) H h
set_option maxRecDepth 100000 in
theorem dko_187 {c d : ByteArray} {a k : Nat} {v : Nat} (H : dk_A c d a) (h : dk_t2 d k 187 v = true) : decode c (a + k) = .ok (.new v, 3) := dk_f2 (m := 187) (f := fun v => .new v) (fun pc c p q h => by unfold Jvm.ClassFile.Decoder.instr; rw [dk_bind, h]; rfl) H h
set_option maxRecDepth 100000 in
theorem dko_189 {c d : ByteArray} {a k : Nat} {v : Nat} (H : dk_A c d a) (h : dk_t2 d k 189 v = true) : decode c (a + k) = .ok (.anewarray v, 3) := dk_f2 (m := 189) (f := fun v => .anewarray v) (fun pc c p q h => by unfold Jvm.ClassFile.Decoder.instr; rw [dk_bind, h]; rfl) H h
set_option maxRecDepth 100000 in
theorem dko_190 {c d : ByteArray} {a k : Nat} (H : dk_A c d a) (h : dk_t0 d k 190 = true) : decode c (a + k) = .ok (.arraylength, 1) := dk_f0 (m := 190) (fun pc c p q h => by unfold Jvm.ClassFile.Decoder.instr; rw [dk_bind, h]; rfl) H h
set_option maxRecDepth 100000 in
theorem dko_191 {c d : ByteArray} {a k : Nat} (H : dk_A c d a) (h : dk_t0 d k 191 = true) : decode c (a + k) = .ok (.athrow, 1) := dk_f0 (m := 191) (fun pc c p q h => by unfold Jvm.ClassFile.Decoder.instr; rw [dk_bind, h]; rfl) H h
set_option maxRecDepth 100000 in
theorem dko_1004 {c d : ByteArray} {a k : Nat} (H : dk_A c d a) (h : dk_t1 d k 188 4 = true) : decode c (a + k) = .ok (.newarray .boolean, 2) := by
  unfold dk_t1 at h
  split at h
  · rename_i b x r e
    obtain ⟨e1, e2⟩ := dk_dr e
    obtain ⟨e3, e4⟩ := dk_dr e2
    obtain ⟨h1, h2⟩ := Bool.and_eq_true_iff.mp h
    have u := dk_c1 H e1
    have u2 := dk_c1 H e3
    rw [Nat.eq_of_beq_eq_true h1] at u
    rw [Nat.eq_of_beq_eq_true h2] at u2
    refine dk_end (m := 188) (r := fun pc => Jvm.ClassFile.Decoder.newarray pc) (fun pc c p q h => by unfold Jvm.ClassFile.Decoder.instr; rw [dk_bind, h]; rfl) u ?_
    show Jvm.ClassFile.Decoder.newarray (a + k) c (a + (k + 1)) = _
    unfold Jvm.ClassFile.Decoder.newarray
    rw [dk_bind, u2]
    rfl
  · cases h
set_option maxRecDepth 100000 in
theorem dko_1008 {c d : ByteArray} {a k : Nat} (H : dk_A c d a) (h : dk_t1 d k 188 8 = true) : decode c (a + k) = .ok (.newarray .byte, 2) := by
  unfold dk_t1 at h
  split at h
  · rename_i b x r e
    obtain ⟨e1, e2⟩ := dk_dr e
    obtain ⟨e3, e4⟩ := dk_dr e2
    obtain ⟨h1, h2⟩ := Bool.and_eq_true_iff.mp h
    have u := dk_c1 H e1
    have u2 := dk_c1 H e3
    rw [Nat.eq_of_beq_eq_true h1] at u
    rw [Nat.eq_of_beq_eq_true h2] at u2
    refine dk_end (m := 188) (r := fun pc => Jvm.ClassFile.Decoder.newarray pc) (fun pc c p q h => by unfold Jvm.ClassFile.Decoder.instr; rw [dk_bind, h]; rfl) u ?_
    show Jvm.ClassFile.Decoder.newarray (a + k) c (a + (k + 1)) = _
    unfold Jvm.ClassFile.Decoder.newarray
    rw [dk_bind, u2]
    rfl
  · cases h
set_option maxRecDepth 100000 in
theorem dko_1010 {c d : ByteArray} {a k : Nat} (H : dk_A c d a) (h : dk_t1 d k 188 10 = true) : decode c (a + k) = .ok (.newarray .int, 2) := by
  unfold dk_t1 at h
  split at h
  · rename_i b x r e
    obtain ⟨e1, e2⟩ := dk_dr e
    obtain ⟨e3, e4⟩ := dk_dr e2
    obtain ⟨h1, h2⟩ := Bool.and_eq_true_iff.mp h
    have u := dk_c1 H e1
    have u2 := dk_c1 H e3
    rw [Nat.eq_of_beq_eq_true h1] at u
    rw [Nat.eq_of_beq_eq_true h2] at u2
    refine dk_end (m := 188) (r := fun pc => Jvm.ClassFile.Decoder.newarray pc) (fun pc c p q h => by unfold Jvm.ClassFile.Decoder.instr; rw [dk_bind, h]; rfl) u ?_
    show Jvm.ClassFile.Decoder.newarray (a + k) c (a + (k + 1)) = _
    unfold Jvm.ClassFile.Decoder.newarray
    rw [dk_bind, u2]
    rfl
  · cases h
set_option maxRecDepth 100000 in
theorem dko_1011 {c d : ByteArray} {a k : Nat} (H : dk_A c d a) (h : dk_t1 d k 188 11 = true) : decode c (a + k) = .ok (.newarray .long, 2) := by
  unfold dk_t1 at h
  split at h
  · rename_i b x r e
    obtain ⟨e1, e2⟩ := dk_dr e
    obtain ⟨e3, e4⟩ := dk_dr e2
    obtain ⟨h1, h2⟩ := Bool.and_eq_true_iff.mp h
    have u := dk_c1 H e1
    have u2 := dk_c1 H e3
    rw [Nat.eq_of_beq_eq_true h1] at u
    rw [Nat.eq_of_beq_eq_true h2] at u2
    refine dk_end (m := 188) (r := fun pc => Jvm.ClassFile.Decoder.newarray pc) (fun pc c p q h => by unfold Jvm.ClassFile.Decoder.instr; rw [dk_bind, h]; rfl) u ?_
    show Jvm.ClassFile.Decoder.newarray (a + k) c (a + (k + 1)) = _
    unfold Jvm.ClassFile.Decoder.newarray
    rw [dk_bind, u2]
    rfl
  · cases h
