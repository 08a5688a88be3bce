/-! the reference: where a reading succeeds, fault and its place stay -/
def fk (S q : Tr) : Prop := q 0 4 = S 0 4 ∧ q 0 5 = S 0 5
def fk1 (S : Tr) (q : Int32 × Tr) : Prop := ¬ q.1 = 0 → fk S q.2
theorem fk_r {S : Tr} : fk S S := ⟨rfl, rfl⟩
theorem fk_t {S T U : Tr} (h1 : fk S T) (h2 : fk T U) : fk S U := ⟨h2.1.trans h1.1, h2.2.trans h1.2⟩
theorem fk_s {S T : Tr} {a i : Nat} {v : Int32} (h : fk S T) (hn : ¬ (a = 0 ∧ (i = 4 ∨ i = 5))) : fk S (st T a i v) := ⟨by rw [st_no (by omega)]; exact h.1, by rw [st_no (by omega)]; exact h.2⟩
theorem fk_tok {S T : Tr} (h : fk S T) : Ep (f_X8_token T) (fk S) := Ep_mono frT_tok (fun q g => fk_t h ⟨g 0 4 (by omega), g 0 5 (by omega)⟩)
theorem fk_no {S T : Tr} {c : Int32} : Ep (bd (f_X8_wrong T c) fun q => lt q.1 fun r3 => lt q.2 fun S_4 => ck (okB r3) (some (r3, S_4))) (fk1 S) := by
  rw [wrE]; exact Ep_some (fun h => absurd rfl h)
theorem fk_0 {S T : Tr} : Ep (some ((0 : Int32), T)) (fk1 S) := Ep_some (fun h => absurd rfl h)
theorem fk_b2 {S : Tr} {ρ : Type} {x : Option (Int32 × Tr)} {k : Int32 × Tr → Option ρ} {Q : ρ → Prop} (h1 : Ep x (fk1 S)) (h : ∀ r T, (¬ r = 0 → fk S T) → Ep (k (r, T)) Q) : Ep (bd x k) Q := Ep_bd h1 (fun q hq => h q.1 q.2 hq)
theorem fk_num {S T : Tr} {lo hi : Int32} (h : fk S T) : Ep (f_X8_number T lo hi) (fun q => (q.1 = 0 ∨ q.1 = 1) ∧ fk1 S q) := by
  have no : ∀ c : Int32, Ep (bd (f_X8_wrong T c) fun q => lt q.1 fun r3 => lt q.2 fun S_4 => ck (okB r3) (some (r3, S_4))) (fun q => (q.1 = 0 ∨ q.1 = 1) ∧ fk1 S q) := fun c => by
    rw [wrE]; exact Ep_some ⟨Or.inl rfl, fun h => absurd rfl h⟩
  unfold f_X8_number
  exact Ep_ite (fun _ => Ep_any (fun _ => Ep_ite (fun _ => no _) (fun _ => Ep_lt (fun T1 e1 => Ep_bd (fk_tok (by rw [e1]; exact fk_s h (by omega))) (fun T2 g => Ep_some ⟨Or.inr rfl, fun _ => g⟩))))) (fun _ => no _)
/-- behind a number: either it failed, or all stays -/
theorem fk_n {S T : Tr} {lo hi : Int32} {k : Tr → Option (Int32 × Tr)} (h : fk S T) (hk : ∀ T1, fk S T1 → Ep (k T1) (fk1 S)) : Ep (bd (f_X8_number T lo hi) fun q => lt q.1 fun r18 => lt q.2 fun S_19 => if r18 = 0 then (some ((0 : Int32), S_19)) else k S_19) (fk1 S) := by
  refine Ep_bd (fk_num h) (fun q hq => ?_)
  obtain ⟨r, T1⟩ := q
  obtain ⟨h1, h2⟩ := hq
  show Ep (if r = 0 then (some ((0 : Int32), T1)) else k T1) (fk1 S)
  refine Ep_ite (fun _ => fk_0) (fun c => hk T1 (h2 c))
theorem fk_place {S T : Tr} (h : fk S T) : Ep (f_X8_placeLine T) (fk1 S) := by
  unfold f_X8_placeLine fJ_X8_placeLine_J44
  refine Ep_ite (fun _ => fk_no) (fun _ => Ep_bd (fk_tok h) (fun T2 h2 => Ep_ite (fun _ => Ep_ite (fun _ => fk_no) (fun _ => Ep_ite (fun _ => Ep_ck (Ep_lt (fun T3 e3 => Ep_bd (fk_tok (S := S) (T := T3) (by rw [e3]; exact fk_s h2 (by omega))) (fun T4 h4 => fk_n h4 (fun T5 h5 => Ep_ck (Ep_lt (fun T6 e6 => Ep_lt (fun T7 e7 => Ep_some (fun _ => ?_))))))))) (fun _ => fk_no))) (fun _ => fk_no)))
  show fk S T7
  rw [e7, e6]; exact fk_s (fk_s h5 (by omega)) (by omega)
theorem fk_person {S T : Tr} (h : fk S T) : Ep (f_X8_personLine T) (fk1 S) := by
  unfold f_X8_personLine
  refine Ep_ite (fun _ => fk_no) (fun _ => Ep_bd (fk_tok h) (fun T2 h2 => Ep_ite (fun _ => Ep_any (fun _ => Ep_ite (fun _ => Ep_lt (fun y _ => Ep_ck (Ep_lt (fun T3 e3 => Ep_bd (fk_tok (S := S) (T := T3) (by rw [e3]; exact fk_s h2 (by omega))) (fun T4 h4 => fk_n h4 (fun T5 h5 => Ep_lt (fun T6 e6 => fk_n (by rw [e6]; exact fk_s h5 (by omega)) (fun T7 h7 => Ep_lt (fun T8 e8 => fk_n (by rw [e8]; exact fk_s h7 (by omega)) (fun T9 h9 => Ep_lt (fun TA eA => Ep_lt (fun TB eB => Ep_some (fun _ => ?_))))))))))))) (fun _ => fk_no))) (fun _ => fk_no)))
  show fk S TB
  rw [eB, eA]; exact fk_s (fk_s h9 (by omega)) (by omega)
theorem fk_piece {S T : Tr} (h : fk S T) : Ep (f_X8_pieceLine T) (fk1 S) := by
  have j170 : ∀ T1, fk S T1 → Ep (fJ_X8_pieceLine_J170 T1) (fk1 S) := fun T1 h1 => by
    unfold fJ_X8_pieceLine_J170
    exact Ep_lt (fun T2 e2 => Ep_some (fun _ => by show fk S T2; rw [e2]; exact fk_s h1 (by omega)))
  unfold f_X8_pieceLine
  refine Ep_ite (fun _ => fk_no) (fun _ => Ep_bd (fk_tok h) (fun T2 h2 => Ep_ite (fun _ => Ep_any (fun _ => Ep_ite (fun _ => Ep_lt (fun y _ => Ep_ck (Ep_lt (fun T3 e3 => Ep_bd (fk_tok (S := S) (T := T3) (by rw [e3]; exact fk_s h2 (by omega))) (fun T4 h4 => fk_n h4 (fun T5 h5 => Ep_lt (fun T6 e6 => fk_n (by rw [e6]; exact fk_s h5 (by omega)) (fun T7 h7 => Ep_lt (fun T8 e8 => Ep_lt (fun T9 e9 => ?_)))))))))) (fun _ => fk_no))) (fun _ => fk_no)))
  have h9 : fk S T9 := by rw [e9, e8]; exact fk_s (fk_s h7 (by omega)) (by omega)
  exact Ep_ite (fun _ => Ep_ite (fun _ => Ep_lt (fun TA eA => Ep_bd (fk_tok (by rw [eA]; exact fk_s h9 (by omega))) (fun TB hB => j170 _ hB))) (fun _ => fk_no)) (fun _ => j170 _ h9)
theorem fk_wait {S T : Tr} (h : fk S T) : Ep (f_X8_waitLine T) (fk1 S) := by
  unfold f_X8_waitLine
  refine Ep_ite (fun _ => fk_no) (fun _ => Ep_bd (fk_tok h) (fun T2 h2 => Ep_lt (fun y5 _ => fk_n h2 (fun T3 h3 => Ep_lt (fun y _ => Ep_ck (Ep_ite (fun _ => Ep_lt (fun T4 e4 => fk_n (by rw [e4]; exact fk_s h3 (by omega)) (fun T5 h5 => Ep_ck (Ep_lt (fun T6 e6 => Ep_lt (fun T7 e7 => Ep_some (fun _ => ?_))))))) (fun _ => Ep_lt (fun T4 e4 => fk_no))))))))
  show fk S T7
  rw [e7, e6]; exact fk_s (fk_s h5 (by omega)) (by omega)
theorem fk_once {S T : Tr} {x : Int32} (h : fk S T) : Ep (f_X8_isOnce T x) (fun q => (q.1 = 0 ∨ q.1 = 1) ∧ fk1 S q) := by
  unfold f_X8_isOnce
  refine Ep_ck (Ep_ite (fun _ => Ep_lt (fun T1 e1 => Ep_bd (fk_tok (by rw [e1]; exact fk_s h (by omega))) (fun T2 g => Ep_some ⟨Or.inr rfl, fun _ => g⟩))) (fun _ => ?_))
  rw [wrE]; exact Ep_some ⟨Or.inl rfl, fun h => absurd rfl h⟩
theorem fk_cnt {S T : Tr} {k : Tr → Option (Int32 × Tr)} (h : fk S T) (hk : ∀ T1, fk S T1 → Ep (k T1) (fk1 S)) : Ep (bd (f_X8_isCounted T) fun q => lt q.1 fun r14 => lt q.2 fun S_15 => if r14 = 0 then (some ((0 : Int32), S_15)) else k S_15) (fk1 S) := by
  unfold f_X8_isCounted
  by_cases c : T 0 46 = 64
  · rw [if_pos c, wrE]
    show Ep (some ((0 : Int32), _)) (fk1 S)
    exact fk_0
  · rw [if_neg c]
    show Ep (k (st T 0 46 (T 0 46 + 1))) (fk1 S)
    exact hk _ (fk_s h (by omega))
theorem fk_grow {S T : Tr} {a b c : Int32} (h : fk S T) : Ep (f_X8_grown T a b c) (fk S) := by
  unfold f_X8_grown
  refine Ep_ck (Ep_lt (fun T1 e1 => Ep_ck (Ep_lt (fun T2 e2 => Ep_ck (Ep_lt (fun T3 e3 => Ep_ck (Ep_lt (fun T4 e4 => Ep_lt (fun T5 e5 => Ep_lt (fun T6 e6 => Ep_some ?_))))))))))
  rw [e6, e5, e4, e3, e2, e1]
  exact fk_s (fk_s (fk_s (fk_s (fk_s (fk_s h (by omega)) (by omega)) (by omega)) (by omega)) (by omega)) (by omega)
theorem fk_drop {S T : Tr} (h : fk S T) : Ep (f_X8_dropHeld T) (fun q => fk S q.2) := by
  unfold f_X8_dropHeld
  exact Ep_lt (fun T1 e1 => Ep_ck (Ep_some (by show fk S T1; rw [e1]; exact fk_s h (by omega))))
theorem fk_bind {S : Tr} {x : Int32} (N : Nat) : ∀ T, fk S T → Ep (lpF (fun _ => none) (fB_X8_bind_L0 x) N T) (fk S) := by
  induction N with
  | zero => intro T _; exact Ep_none
  | succ N ih =>
    intro T h
    show Ep (fB_X8_bind_L0 x (lpF (fun _ => none) (fB_X8_bind_L0 x) N) T) _
    generalize lpF (fun _ => none) (fB_X8_bind_L0 x) N = k at ih ⊢
    have j58 : ∀ (y z : Int32) T1, fk S T1 → Ep (fJ_X8_bind_J58 k x y z T1) (fk S) := fun y z T1 h1 => by
      unfold fJ_X8_bind_J58
      exact Ep_bd (fk_drop h1) (fun q hq => Ep_lt (fun _ _ => Ep_lt (fun T2 e2 => Ep_bd (fk_grow (by rw [e2]; exact hq)) (fun T3 h3 => ih T3 h3))))
    unfold fB_X8_bind_L0
    exact Ep_ite (fun _ => Ep_some h) (fun _ => Ep_ck (Ep_any (fun _ => Ep_ite (fun _ => Ep_some h) (fun _ => Ep_lt (fun T1 e1 => Ep_ck (Ep_lt (fun y _ => Ep_ite (fun _ => j58 _ _ T1 (by rw [e1]; exact fk_s h (by omega))) (fun _ => Ep_bd (fk_drop (S := S) (T := T1) (by rw [e1]; exact fk_s h (by omega))) (fun q hq => Ep_lt (fun _ _ => Ep_lt (fun T2 e2 => j58 _ _ T2 (by rw [e2]; exact hq))))))))))))
theorem fk_bd {S T : Tr} {x : Int32} (h : fk S T) : Ep (f_X8_bind T x) (fk S) := fk_bind 2000 T h
theorem fk_wf {S T : Tr} {x : Int32} (h : fk S T) : Ep (f_X8_waitsFor T x) (fk S) := by
  unfold f_X8_waitsFor
  exact Ep_ck (Ep_lt (fun T1 e1 => Ep_lt (fun T2 e2 => Ep_some (by rw [e2, e1]; exact fk_s (fk_s h (by omega)) (by omega)))))
theorem fk_lf {S T : Tr} (h : fk S T) : Ep (f_X8_leafRead T) (fk1 S) := by
  have j160 : ∀ (a b : Int32) T1, fk S T1 → Ep (fJ_X8_leafRead_J160 a b T1) (fk1 S) := fun a b T1 h1 => by
    unfold fJ_X8_leafRead_J160
    exact Ep_bd (fk_grow h1) (fun T2 h2 => Ep_lt (fun T3 e3 => Ep_bd (fk_tok (S := S) (T := T3) (by rw [e3]; exact fk_s h2 (by omega))) (fun T4 h4 => Ep_some (fun _ => h4))))
  have j129 : ∀ x : Int32, Ep (fJ_X8_leafRead_J129 x T) (fk1 S) := fun x => by
    unfold fJ_X8_leafRead_J129 fJ_X8_leafRead_J148
    exact fk_cnt (k := fun S_15 => if x < 0 then (if x < 0 then (fJ_X8_leafRead_J160  (S_15 0 9) 0 S_15) else (fJ_X8_leafRead_J160  x 0 S_15)) else (if x < 0 then (fJ_X8_leafRead_J160  (S_15 0 9) 1 S_15) else (fJ_X8_leafRead_J160  x 1 S_15))) h (fun T1 h1 => Ep_ite (fun _ => Ep_ite (fun _ => j160 _ _ _ h1) (fun _ => j160 _ _ _ h1)) (fun _ => Ep_ite (fun _ => j160 _ _ _ h1) (fun _ => j160 _ _ _ h1)))
  have j86 : Ep (fJ_X8_leafRead_J86 T) (fk1 S) := by
    unfold fJ_X8_leafRead_J86 fJ_X8_leafRead_J109
    exact Ep_any (fun _ => Ep_ite (fun _ => Ep_ite (fun _ => j129 _) (fun _ => Ep_ite (fun _ => j129 _) (fun _ => fk_no))) (fun _ => Ep_ite (fun _ => Ep_ite (fun _ => j129 _) (fun _ => Ep_ite (fun _ => j129 _) (fun _ => fk_no))) (fun _ => fk_no)))
  unfold f_X8_leafRead
  refine Ep_any (fun _ => Ep_ite (fun _ => Ep_any (fun _ => Ep_ite (fun _ => j86) (fun _ => Ep_ite (fun _ => j86) (fun _ => ?_)))) (fun _ => Ep_ite (fun _ => fk_no) (fun _ => Ep_lt (fun T1 e1 => Ep_bd (fk_wf (S := S) (T := T1) (by rw [e1]; exact fk_s h (by omega))) (fun T2 h2 => Ep_lt (fun T3 e3 => Ep_bd (fk_tok (S := S) (T := T3) (by rw [e3]; exact fk_s h2 (by omega))) (fun T4 h4 => Ep_some (fun _ => h4))))))))
  exact fk_cnt (k := fun S_42 => bd (f_X8_waitsFor S_42 (2 : Int32)) fun S_46 => bd (f_X8_token S_46) fun S_49 => some (1, S_49)) h (fun T1 h1 => Ep_bd (fk_wf h1) (fun T2 h2 => Ep_bd (fk_tok h2) (fun T3 h3 => Ep_some (fun _ => h3))))
