-- 62.za.2k1
/-! the reference: where a reading succeeds, fault and its place stay -/
def fk (S q : Tr) : Prop := q 0 4 = S 0 4 ∧ q 0 5 = S 0 5
def fk1 (S : Tr) (q : Int32 × Tr) : Prop := ¬ q.1 = 0 → fk S q.2
theorem fk_r {S : Tr} : fk S S := ⟨rfl, rfl⟩
theorem fk_t {S T U : Tr} (h1 : fk S T) (h2 : fk T U) : fk S U := ⟨h2.1.trans h1.1, h2.2.trans h1.2⟩
theorem fk_s {S T : Tr} {a i : Nat} {v : Int32} (h : fk S T) (hn : ¬ (a = 0 ∧ (i = 4 ∨ i = 5))) : fk S (st T a i v) := ⟨by rw [st_no (by omega)]; exact h.1, by rw [st_no (by omega)]; exact h.2⟩
theorem fk_tok {S T : Tr} (h : fk S T) : Ep (f_X8_token T) (fk S) := Ep_mono frT_tok (fun q g => fk_t h ⟨g 0 4 (by omega), g 0 5 (by omega)⟩)
theorem fk_no {S T : Tr} {c : Int32} : Ep (bd (f_X8_wrong T c) fun q => lt q.1 fun r3 => lt q.2 fun S_4 => ck (okB r3) (some (r3, S_4))) (fk1 S) := by
  rw [wrE]; exact Ep_some (fun h => absurd rfl h)
theorem fk_0 {S T : Tr} : Ep (some ((0 : Int32), T)) (fk1 S) := Ep_some (fun h => absurd rfl h)
theorem fk_b2 {S : Tr} {ρ : Type} {x : Option (Int32 × Tr)} {k : Int32 × Tr → Option ρ} {Q : ρ → Prop} (h1 : Ep x (fk1 S)) (h : ∀ r T, (¬ r = 0 → fk S T) → Ep (k (r, T)) Q) : Ep (bd x k) Q := Ep_bd h1 (fun q hq => h q.1 q.2 hq)
theorem fk_num {S T : Tr} {lo hi : Int32} (h : fk S T) : Ep (f_X8_number T lo hi) (fun q => (q.1 = 0 ∨ q.1 = 1) ∧ fk1 S q) := by
  have no : ∀ c : Int32, Ep (bd (f_X8_wrong T c) fun q => lt q.1 fun r3 => lt q.2 fun S_4 => ck (okB r3) (some (r3, S_4))) (fun q => (q.1 = 0 ∨ q.1 = 1) ∧ fk1 S q) := fun c => by
    rw [wrE]; exact Ep_some ⟨Or.inl rfl, fun h => absurd rfl h⟩
  unfold f_X8_number
  exact Ep_ite (fun _ => Ep_any (fun _ => Ep_ite (fun _ => no _) (fun _ => Ep_lt (fun T1 e1 => Ep_bd (fk_tok (by rw [e1]; exact fk_s h (by omega))) (fun T2 g => Ep_some ⟨Or.inr rfl, fun _ => g⟩))))) (fun _ => no _)
/-- behind a number: either it failed, or all stays -/
theorem fk_n {S T : Tr} {lo hi : Int32} {k : Tr → Option (Int32 × Tr)} (h : fk S T) (hk : ∀ T1, fk S T1 → Ep (k T1) (fk1 S)) : Ep (bd (f_X8_number T lo hi) fun q => lt q.1 fun r18 => lt q.2 fun S_19 => if r18 = 0 then (some ((0 : Int32), S_19)) else k S_19) (fk1 S) := by
  refine Ep_bd (fk_num h) (fun q hq => ?_)
  obtain ⟨r, T1⟩ := q
  obtain ⟨h1, h2⟩ := hq
  show Ep (if r = 0 then (some ((0 : Int32), T1)) else k T1) (fk1 S)
  refine Ep_ite (fun _ => fk_0) (fun c => hk T1 (h2 c))
theorem fk_place {S T : Tr} (h : fk S T) : Ep (f_X8_placeLine T) (fk1 S) := by
  unfold f_X8_placeLine fJ_X8_placeLine_J44
  refine Ep_ite (fun _ => fk_no) (fun _ => Ep_bd (fk_tok h) (fun T2 h2 => Ep_ite (fun _ => Ep_ite (fun _ => fk_no) (fun _ => Ep_ite (fun _ => Ep_ck (Ep_lt (fun T3 e3 => Ep_bd (fk_tok (S := S) (T := T3) (by rw [e3]; exact fk_s h2 (by omega))) (fun T4 h4 => fk_n h4 (fun T5 h5 => Ep_ck (Ep_lt (fun T6 e6 => Ep_lt (fun T7 e7 => Ep_some (fun _ => ?_))))))))) (fun _ => fk_no))) (fun _ => fk_no)))
  show fk S T7
  rw [e7, e6]; exact fk_s (fk_s h5 (by omega)) (by omega)
theorem fk_person {S T : Tr} (h : fk S T) : Ep (f_X8_personLine T) (fk1 S) := by
  unfold f_X8_personLine
  refine Ep_ite (fun _ => fk_no) (fun _ => Ep_bd (fk_tok h) (fun T2 h2 => Ep_ite (fun _ => Ep_any (fun _ => Ep_ite (fun _ => Ep_lt (fun y _ => Ep_ck (Ep_lt (fun T3 e3 => Ep_bd (fk_tok (S := S) (T := T3) (by rw [e3]; exact fk_s h2 (by omega))) (fun T4 h4 => fk_n h4 (fun T5 h5 => Ep_lt (fun T6 e6 => fk_n (by rw [e6]; exact fk_s h5 (by omega)) (fun T7 h7 => Ep_lt (fun T8 e8 => fk_n (by rw [e8]; exact fk_s h7 (by omega)) (fun T9 h9 => Ep_lt (fun TA eA => Ep_lt (fun TB eB => Ep_some (fun _ => ?_))))))))))))) (fun _ => fk_no))) (fun _ => fk_no)))
  show fk S TB
  rw [eB, eA]; exact fk_s (fk_s h9 (by omega)) (by omega)
theorem fk_piece {S T : Tr} (h : fk S T) : Ep (f_X8_pieceLine T) (fk1 S) := by
  have j170 : ∀ T1, fk S T1 → Ep (fJ_X8_pieceLine_J170 T1) (fk1 S) := fun T1 h1 => by
    unfold fJ_X8_pieceLine_J170
    exact Ep_lt (fun T2 e2 => Ep_some (fun _ => by show fk S T2; rw [e2]; exact fk_s h1 (by omega)))
  unfold f_X8_pieceLine
  refine Ep_ite (fun _ => fk_no) (fun _ => Ep_bd (fk_tok h) (fun T2 h2 => Ep_ite (fun _ => Ep_any (fun _ => Ep_ite (fun _ => Ep_lt (fun y _ => Ep_ck (Ep_lt (fun T3 e3 => Ep_bd (fk_tok (S := S) (T := T3) (by rw [e3]; exact fk_s h2 (by omega))) (fun T4 h4 => fk_n h4 (fun T5 h5 => Ep_lt (fun T6 e6 => fk_n (by rw [e6]; exact fk_s h5 (by omega)) (fun T7 h7 => Ep_lt (fun T8 e8 => Ep_lt (fun T9 e9 => ?_)))))))))) (fun _ => fk_no))) (fun _ => fk_no)))
  have h9 : fk S T9 := by rw [e9, e8]; exact fk_s (fk_s h7 (by omega)) (by omega)
  exact Ep_ite (fun _ => Ep_ite (fun _ => Ep_lt (fun TA eA => Ep_bd (fk_tok (by rw [eA]; exact fk_s h9 (by omega))) (fun TB hB => j170 _ hB))) (fun _ => fk_no)) (fun _ => j170 _ h9)
theorem fk_wait {S T : Tr} (h : fk S T) : Ep (f_X8_waitLine T) (fk1 S) := by
  unfold f_X8_waitLine
  refine Ep_ite (fun _ => fk_no) (fun _ => Ep_bd (fk_tok h) (fun T2 h2 => Ep_lt (fun y5 _ => fk_n h2 (fun T3 h3 => Ep_lt (fun y _ => Ep_ck (Ep_ite (fun _ => Ep_lt (fun T4 e4 => fk_n (by rw [e4]; exact fk_s h3 (by omega)) (fun T5 h5 => Ep_ck (Ep_lt (fun T6 e6 => Ep_lt (fun T7 e7 => Ep_some (fun _ => ?_))))))) (fun _ => Ep_lt (fun T4 e4 => fk_no))))))))
  show fk S T7
  rw [e7, e6]; exact fk_s (fk_s h5 (by omega)) (by omega)
theorem fk_once {S T : Tr} {x : Int32} (h : fk S T) : Ep (f_X8_isOnce T x) (fun q => (q.1 = 0 ∨ q.1 = 1) ∧ fk1 S q) := by
  unfold f_X8_isOnce
  refine Ep_ck (Ep_ite (fun _ => Ep_lt (fun T1 e1 => Ep_bd (fk_tok (by rw [e1]; exact fk_s h (by omega))) (fun T2 g => Ep_some ⟨Or.inr rfl, fun _ => g⟩))) (fun _ => ?_))
  rw [wrE]; exact Ep_some ⟨Or.inl rfl, fun h => absurd rfl h⟩
theorem fk_cnt {S T : Tr} {k : Tr → Option (Int32 × Tr)} (h : fk S T) (hk : ∀ T1, fk S T1 → Ep (k T1) (fk1 S)) : Ep (bd (f_X8_isCounted T) fun q => lt q.1 fun r14 => lt q.2 fun S_15 => if r14 = 0 then (some ((0 : Int32), S_15)) else k S_15) (fk1 S) := by
  unfold f_X8_isCounted
  by_cases c : T 0 46 = 64
  · rw [if_pos c, wrE]
    show Ep (some ((0 : Int32), _)) (fk1 S)
    exact fk_0
  · rw [if_neg c]
    show Ep (k (st T 0 46 (T 0 46 + 1))) (fk1 S)
    exact hk _ (fk_s h (by omega))
theorem fk_grow {S T : Tr} {a b c : Int32} (h : fk S T) : Ep (f_X8_grown T a b c) (fk S) := by
  unfold f_X8_grown
  refine Ep_ck (Ep_lt (fun T1 e1 => Ep_ck (Ep_lt (fun T2 e2 => Ep_ck (Ep_lt (fun T3 e3 => Ep_ck (Ep_lt (fun T4 e4 => Ep_lt (fun T5 e5 => Ep_lt (fun T6 e6 => Ep_some ?_))))))))))
  rw [e6, e5, e4, e3, e2, e1]
  exact fk_s (fk_s (fk_s (fk_s (fk_s (fk_s h (by omega)) (by omega)) (by omega)) (by omega)) (by omega)) (by omega)
theorem fk_drop {S T : Tr} (h : fk S T) : Ep (f_X8_dropHeld T) (fun q => fk S q.2) := by
  unfold f_X8_dropHeld
  exact Ep_lt (fun T1 e1 => Ep_ck (Ep_some (by show fk S T1; rw [e1]; exact fk_s h (by omega))))
theorem fk_bind {S : Tr} {x : Int32} (N : Nat) : ∀ T, fk S T → Ep (lpF (fun _ => none) (fB_X8_bind_L0 x) N T) (fk S) := by
  induction N with
  | zero => intro T _; exact Ep_none
  | succ N ih =>
    intro T h
    show Ep (fB_X8_bind_L0 x (lpF (fun _ => none) (fB_X8_bind_L0 x) N) T) _
    generalize lpF (fun _ => none) (fB_X8_bind_L0 x) N = k at ih ⊢
    have j58 : ∀ (y z : Int32) T1, fk S T1 → Ep (fJ_X8_bind_J58 k x y z T1) (fk S) := fun y z T1 h1 => by
      unfold fJ_X8_bind_J58
      exact Ep_bd (fk_drop h1) (fun q hq => Ep_lt (fun _ _ => Ep_lt (fun T2 e2 => Ep_bd (fk_grow (by rw [e2]; exact hq)) (fun T3 h3 => ih T3 h3))))
    unfold fB_X8_bind_L0
    exact Ep_ite (fun _ => Ep_some h) (fun _ => Ep_ck (Ep_any (fun _ => Ep_ite (fun _ => Ep_some h) (fun _ => Ep_lt (fun T1 e1 => Ep_ck (Ep_lt (fun y _ => Ep_ite (fun _ => j58 _ _ T1 (by rw [e1]; exact fk_s h (by omega))) (fun _ => Ep_bd (fk_drop (S := S) (T := T1) (by rw [e1]; exact fk_s h (by omega))) (fun q hq => Ep_lt (fun _ _ => Ep_lt (fun T2 e2 => j58 _ _ T2 (by rw [e2]; exact hq))))))))))))
theorem fk_bd {S T : Tr} {x : Int32} (h : fk S T) : Ep (f_X8_bind T x) (fk S) := fk_bind 2000 T h
theorem fk_wf {S T : Tr} {x : Int32} (h : fk S T) : Ep (f_X8_waitsFor T x) (fk S) := by
  unfold f_X8_waitsFor
  exact Ep_ck (Ep_lt (fun T1 e1 => Ep_lt (fun T2 e2 => Ep_some (by rw [e2, e1]; exact fk_s (fk_s h (by omega)) (by omega)))))
theorem fk_lf {S T : Tr} (h : fk S T) : Ep (f_X8_leafRead T) (fk1 S) := by
  have j160 : ∀ (a b : Int32) T1, fk S T1 → Ep (fJ_X8_leafRead_J160 a b T1) (fk1 S) := fun a b T1 h1 => by
    unfold fJ_X8_leafRead_J160
    exact Ep_bd (fk_grow h1) (fun T2 h2 => Ep_lt (fun T3 e3 => Ep_bd (fk_tok (S := S) (T := T3) (by rw [e3]; exact fk_s h2 (by omega))) (fun T4 h4 => Ep_some (fun _ => h4))))
  have j129 : ∀ x : Int32, Ep (fJ_X8_leafRead_J129 x T) (fk1 S) := fun x => by
    unfold fJ_X8_leafRead_J129 fJ_X8_leafRead_J148
    exact fk_cnt (k := fun S_15 => if x < 0 then (if x < 0 then (fJ_X8_leafRead_J160  (S_15 0 9) 0 S_15) else (fJ_X8_leafRead_J160  x 0 S_15)) else (if x < 0 then (fJ_X8_leafRead_J160  (S_15 0 9) 1 S_15) else (fJ_X8_leafRead_J160  x 1 S_15))) h (fun T1 h1 => Ep_ite (fun _ => Ep_ite (fun _ => j160 _ _ _ h1) (fun _ => j160 _ _ _ h1)) (fun _ => Ep_ite (fun _ => j160 _ _ _ h1) (fun _ => j160 _ _ _ h1)))
  have j86 : Ep (fJ_X8_leafRead_J86 T) (fk1 S) := by
    unfold fJ_X8_leafRead_J86 fJ_X8_leafRead_J109
    exact Ep_any (fun _ => Ep_ite (fun _ => Ep_ite (fun _ => j129 _) (fun _ => Ep_ite (fun _ => j129 _) (fun _ => fk_no))) (fun _ => Ep_ite (fun _ => Ep_ite (fun _ => j129 _) (fun _ => Ep_ite (fun _ => j129 _) (fun _ => fk_no))) (fun _ => fk_no)))
  unfold f_X8_leafRead
  refine Ep_any (fun _ => Ep_ite (fun _ => Ep_any (fun _ => Ep_ite (fun _ => j86) (fun _ => Ep_ite (fun _ => j86) (fun _ => ?_)))) (fun _ => Ep_ite (fun _ => fk_no) (fun _ => Ep_lt (fun T1 e1 => Ep_bd (fk_wf (S := S) (T := T1) (by rw [e1]; exact fk_s h (by omega))) (fun T2 h2 => Ep_lt (fun T3 e3 => Ep_bd (fk_tok (S := S) (T := T3) (by rw [e3]; exact fk_s h2 (by omega))) (fun T4 h4 => Ep_some (fun _ => h4))))))))
  exact fk_cnt (k := fun S_42 => bd (f_X8_waitsFor S_42 (2 : Int32)) fun S_46 => bd (f_X8_token S_46) fun S_49 => some (1, S_49)) h (fun T1 h1 => Ep_bd (fk_wf h1) (fun T2 h2 => Ep_bd (fk_tok h2) (fun T3 h3 => Ep_some (fun _ => h3))))
-- 62.za.3k2
/-- an answer that is yes or no -/
def r01 (q : Int32 × Tr) : Prop := q.1 = 0 ∨ q.1 = 1
theorem r01_no {T : Tr} {c : Int32} : Ep (bd (f_X8_wrong T c) fun q => lt q.1 fun r3 => lt q.2 fun S_4 => ck (okB r3) (some (r3, S_4))) (fun q => q.1 = 0 ∨ q.1 = 1) := by
  rw [wrE]; exact Ep_some (Or.inl rfl)
theorem r01_lf {T : Tr} : Ep (f_X8_leafRead T) (fun q => q.1 = 0 ∨ q.1 = 1) := by
  have j160 : ∀ (a b : Int32) (T1 : Tr), Ep (fJ_X8_leafRead_J160 a b T1) (fun q => q.1 = 0 ∨ q.1 = 1) := fun a b T1 => by
    unfold fJ_X8_leafRead_J160
    exact Ep_any (fun _ => Ep_lt (fun _ _ => Ep_any (fun _ => Ep_some (Or.inr rfl))))
  have j129 : ∀ x : Int32, Ep (fJ_X8_leafRead_J129 x T) (fun q => q.1 = 0 ∨ q.1 = 1) := fun x => by
    unfold fJ_X8_leafRead_J129 fJ_X8_leafRead_J148
    exact Ep_any (fun _ => Ep_lt (fun _ _ => Ep_lt (fun _ _ => Ep_ite (fun _ => Ep_some (Or.inl rfl)) (fun _ => Ep_ite (fun _ => Ep_ite (fun _ => j160 _ _ _) (fun _ => j160 _ _ _)) (fun _ => Ep_ite (fun _ => j160 _ _ _) (fun _ => j160 _ _ _))))))
  have j86 : Ep (fJ_X8_leafRead_J86 T) (fun q => q.1 = 0 ∨ q.1 = 1) := by
    unfold fJ_X8_leafRead_J86 fJ_X8_leafRead_J109
    exact Ep_any (fun _ => Ep_ite (fun _ => Ep_ite (fun _ => j129 _) (fun _ => Ep_ite (fun _ => j129 _) (fun _ => r01_no))) (fun _ => Ep_ite (fun _ => Ep_ite (fun _ => j129 _) (fun _ => Ep_ite (fun _ => j129 _) (fun _ => r01_no))) (fun _ => r01_no)))
  unfold f_X8_leafRead
  exact Ep_any (fun _ => Ep_ite (fun _ => Ep_any (fun _ => Ep_ite (fun _ => j86) (fun _ => Ep_ite (fun _ => j86) (fun _ => Ep_any (fun _ => Ep_lt (fun _ _ => Ep_lt (fun _ _ => Ep_ite (fun _ => Ep_some (Or.inl rfl)) (fun _ => Ep_any (fun _ => Ep_any (fun _ => Ep_some (Or.inr rfl))))))))))) (fun _ => Ep_ite (fun _ => r01_no) (fun _ => Ep_lt (fun _ _ => Ep_any (fun _ => Ep_lt (fun _ _ => Ep_any (fun _ => Ep_some (Or.inr rfl))))))))
theorem r01_sg {T : Tr} : Ep (f_X8_signs T) (fun q => q.1 = 0 ∨ q.1 = 1) := by
  have j250 : ∀ (a : Int32) (T1 : Tr), Ep (fJ_X8_signs_J250 a T1) (fun q => q.1 = 0 ∨ q.1 = 1) := fun a T1 => by
    unfold fJ_X8_signs_J250
    exact Ep_ck (Ep_lt (fun _ _ => Ep_any (fun _ => Ep_some (Or.inr rfl))))
  have j217 : ∀ (x : Int32) (T1 : Tr), Ep (fJ_X8_signs_J217 x T1) (fun q => q.1 = 0 ∨ q.1 = 1) := fun x T1 => by
    unfold fJ_X8_signs_J217
    exact Ep_any (fun _ => Ep_lt (fun _ _ => Ep_lt (fun _ _ => Ep_ite (fun _ => Ep_some (Or.inl rfl)) (fun _ => Ep_any (fun _ => Ep_lt (fun _ _ => Ep_any (fun _ => Ep_ite (fun _ => j250 _ _) (fun _ => j250 _ _))))))))
  have j175 : ∀ x y : Int32, Ep (fJ_X8_signs_J175 x y T) (fun q => q.1 = 0 ∨ q.1 = 1) := fun x y => by
    unfold fJ_X8_signs_J175
    exact Ep_any (fun _ => Ep_any (fun _ => Ep_ite (fun _ => Ep_ite (fun _ => j217 _ _) (fun _ => Ep_ck (Ep_any (fun _ => Ep_ite (fun _ => r01_no) (fun _ => j217 _ _))))) (fun _ => j217 _ _)))
  have j147 : ∀ x : Int32, Ep (fJ_X8_signs_J147 x T) (fun q => q.1 = 0 ∨ q.1 = 1) := fun x => by
    unfold fJ_X8_signs_J147
    exact Ep_ite (fun _ => r01_no) (fun _ => Ep_any (fun _ => Ep_ite (fun _ => j175 _ _) (fun _ => Ep_any (fun _ => j175 _ _))))
  have j47 : Ep (fJ_X8_signs_J47 T) (fun q => q.1 = 0 ∨ q.1 = 1) := by
    unfold fJ_X8_signs_J47
    exact Ep_any (fun _ => Ep_ite (fun _ => Ep_any (fun _ => Ep_ite (fun _ => Ep_ite (fun _ => j147 _) (fun _ => Ep_any (fun _ => Ep_ite (fun _ => Ep_any (fun _ => Ep_ite (fun _ => Ep_any (fun _ => Ep_ite (fun _ => Ep_any (fun _ => Ep_ite (fun _ => j147 _) (fun _ => j147 _))) (fun _ => j147 _))) (fun _ => j147 _))) (fun _ => j147 _)))) (fun _ => j147 _))) (fun _ => j147 _))
  unfold f_X8_signs
  exact Ep_any (fun _ => Ep_ite (fun _ => j47) (fun _ => Ep_ite (fun _ => j47) (fun _ => Ep_any (fun _ => Ep_lt (fun _ _ => Ep_lt (fun _ _ => Ep_any (fun _ => Ep_some (Or.inr rfl))))))))
theorem fk_sg {S T : Tr} (h : fk S T) : Ep (f_X8_signs T) (fk1 S) := by
  have j250 : ∀ (a : Int32) T1, fk S T1 → Ep (fJ_X8_signs_J250 a T1) (fk1 S) := fun a T1 h1 => by
    unfold fJ_X8_signs_J250
    exact Ep_ck (Ep_lt (fun T2 e2 => Ep_bd (fk_tok (by rw [e2]; exact fk_s h1 (by omega))) (fun T3 h3 => Ep_some (fun _ => h3))))
  have j217 : ∀ (x : Int32) T1, fk S T1 → Ep (fJ_X8_signs_J217 x T1) (fk1 S) := fun x T1 h1 => by
    unfold fJ_X8_signs_J217
    exact fk_cnt (k := fun S_46 => bd (f_X8_waitsFor S_46 x) fun S_50 => lt (st S_50 0 47 1) fun S_53 => bd (f_X8_rank x) fun r54 => if 3 ≤ r54 then (fJ_X8_signs_J250  0 S_53) else (fJ_X8_signs_J250  1 S_53)) h1 (fun T2 h2 => Ep_bd (fk_wf h2) (fun T3 h3 => Ep_lt (fun T4 e4 => Ep_any (fun _ => Ep_ite (fun _ => j250 _ _ (by rw [e4]; exact fk_s h3 (by omega))) (fun _ => j250 _ _ (by rw [e4]; exact fk_s h3 (by omega)))))))
  have j175 : ∀ x y : Int32, Ep (fJ_X8_signs_J175 x y T) (fk1 S) := fun x y => by
    unfold fJ_X8_signs_J175
    exact Ep_bd (fk_bd h) (fun T1 h1 => Ep_any (fun _ => Ep_ite (fun _ => Ep_ite (fun _ => j217 _ _ h1) (fun _ => Ep_ck (Ep_any (fun _ => Ep_ite (fun _ => fk_no) (fun _ => j217 _ _ h1))))) (fun _ => j217 _ _ h1)))
  have j147 : ∀ x : Int32, Ep (fJ_X8_signs_J147 x T) (fk1 S) := fun x => by
    unfold fJ_X8_signs_J147
    exact Ep_ite (fun _ => fk_no) (fun _ => Ep_any (fun _ => Ep_ite (fun _ => j175 _ _) (fun _ => Ep_any (fun _ => j175 _ _))))
  have j47 : Ep (fJ_X8_signs_J47 T) (fk1 S) := by
    unfold fJ_X8_signs_J47
    exact Ep_any (fun _ => Ep_ite (fun _ => Ep_any (fun _ => Ep_ite (fun _ => Ep_ite (fun _ => j147 _) (fun _ => Ep_any (fun _ => Ep_ite (fun _ => Ep_any (fun _ => Ep_ite (fun _ => Ep_any (fun _ => Ep_ite (fun _ => Ep_any (fun _ => Ep_ite (fun _ => j147 _) (fun _ => j147 _))) (fun _ => j147 _))) (fun _ => j147 _))) (fun _ => j147 _)))) (fun _ => j147 _))) (fun _ => j147 _))
  unfold f_X8_signs
  exact Ep_any (fun _ => Ep_ite (fun _ => j47) (fun _ => Ep_ite (fun _ => j47) (fun _ => Ep_bd (fk_bd h) (fun T1 h1 => Ep_lt (fun T2 e2 => Ep_lt (fun T3 e3 => Ep_bd (fk_tok (by rw [e3, e2]; exact fk_s (fk_s h1 (by omega)) (by omega))) (fun T4 h4 => Ep_some (fun _ => h4))))))))
theorem fk_L25 {S : Tr} (N : Nat) : ∀ T, fk S T → Ep (lpF (fun _ => none) fB_X8_sumRead_L25 N T) (fk1 S) := by
  induction N with
  | zero => intro T _; exact Ep_none
  | succ N ih =>
    intro T h
    show Ep (fB_X8_sumRead_L25 (lpF (fun _ => none) fB_X8_sumRead_L25 N) T) _
    generalize lpF (fun _ => none) fB_X8_sumRead_L25 N = k at ih ⊢
    have st1 : ∀ x : Option (Int32 × Tr), Ep x (fun q => (q.1 = 0 ∨ q.1 = 1) ∧ fk1 S q) → Ep (bd x fun q => lt q.1 fun r11 => lt q.2 fun S_12 => if r11 = 0 then (some ((0 : Int32), S_12)) else (k S_12)) (fk1 S) := fun x hx => by
      refine Ep_bd hx (fun q hq => ?_)
      obtain ⟨r, T1⟩ := q
      obtain ⟨h1, h2⟩ := hq
      show Ep (if r = 0 then (some ((0 : Int32), T1)) else k T1) (fk1 S)
      refine Ep_ite (fun _ => fk_0) (fun c => ih T1 (h2 c))
    have b01 : ∀ (x : Option (Int32 × Tr)), Ep x (fun q => q.1 = 0 ∨ q.1 = 1) → Ep x (fk1 S) → Ep x (fun q => (q.1 = 0 ∨ q.1 = 1) ∧ fk1 S q) := fun x a b => Ep_and a b
    have j48 : Ep (fJ_X8_sumRead_J48 k T) (fk1 S) := by
      unfold fJ_X8_sumRead_J48
      exact Ep_ite (fun _ => st1 _ (b01 _ r01_sg (fk_sg h))) (fun _ => st1 _ (b01 _ r01_lf (fk_lf h)))
    have j74 : Ep (fJ_X8_sumRead_J74 T) (fk1 S) := by
      unfold fJ_X8_sumRead_J74
      exact Ep_bd (fk_bd h) (fun T1 h1 => Ep_some (fun _ => h1))
    unfold fB_X8_sumRead_L25
    exact Ep_any (fun _ => Ep_ite (fun _ => j48) (fun _ => Ep_ite (fun _ => Ep_ite (fun _ => j74) (fun _ => j48)) (fun _ => j48)))
-- 62.za.4k3
/-! a formula, a line, a text of the reference: where it succeeds, fault and its place stay -/
theorem fk_sum {S T : Tr} (h : fk S T) : Ep (f_X8_sumRead T) (fk1 S) := by
  unfold f_X8_sumRead fL_X8_sumRead_L25
  exact Ep_lt (fun T1 e1 => Ep_lt (fun T2 e2 => Ep_lt (fun T3 e3 => Ep_lt (fun T4 e4 => Ep_lt (fun T5 e5 => fk_L25 2000 T5 (by rw [e5, e4, e3, e2, e1]; exact fk_s (fk_s (fk_s (fk_s (fk_s h (by omega)) (by omega)) (by omega)) (by omega)) (by omega)))))))
theorem fk_343 {S T : Tr} {x : Int32} (h : ¬ x = 0 → fk S T) : Ep (fJ_X8_lineRead_J343 x T) (fk1 S) := by
  unfold fJ_X8_lineRead_J343
  exact Ep_ite (fun _ => fk_0) (fun c => Ep_any (fun r => Ep_ite (fun _ => fk_no) (fun _ => Ep_bd (fk_tok (h c)) (fun T1 h1 => Ep_some (fun _ => h1)))))
theorem fk_343b {S : Tr} {x : Option (Int32 × Tr)} (hx : Ep x (fk1 S)) : Ep (bd x fun q => lt q.1 fun r10 => lt q.2 fun S_11 => fJ_X8_lineRead_J343 r10 S_11) (fk1 S) := Ep_bd hx (fun q hq => fk_343 (x := q.1) (T := q.2) hq)
theorem fk_line {S T : Tr} (h : fk S T) : Ep (f_X8_lineRead T) (fk1 S) := by
  have no : ∀ (T1 : Tr) (c : Int32), Ep (bd (f_X8_wrong T1 c) fun q => lt q.1 fun r2 => lt q.2 fun S_3 => ck (okB r2) (some (r2, S_3))) (fk1 S) := fun T1 c => fk_no
  have once : ∀ (x : Int32) (k0 k1 : Tr → Option (Int32 × Tr)), (∀ T1, Ep (k0 T1) (fk1 S)) → (∀ T1, fk S T1 → Ep (k1 T1) (fk1 S)) → Ep (bd (f_X8_isOnce T x) fun q => lt q.1 fun r61 => lt q.2 fun S_62 => if r61 = 0 then k0 S_62 else k1 S_62) (fk1 S) := fun x k0 k1 h0 h1 => Ep_bd (fk_once h) (fun q hq => by
    show Ep (if q.1 = 0 then k0 q.2 else k1 q.2) (fk1 S)
    exact Ep_ite (fun _ => h0 _) (fun c => h1 _ (hq.2 c)))
  have num : ∀ (T1 : Tr) (lo hi : Int32) (k0 k1 : Tr → Option (Int32 × Tr)), fk S T1 → (∀ T2, Ep (k0 T2) (fk1 S)) → (∀ T2, fk S T2 → Ep (k1 T2) (fk1 S)) → Ep (bd (f_X8_number T1 lo hi) fun q => lt q.1 fun r61 => lt q.2 fun S_62 => if r61 = 0 then k0 S_62 else k1 S_62) (fk1 S) := fun T1 lo hi k0 k1 hT h0 h1 => Ep_bd (fk_num hT) (fun q hq => by
    show Ep (if q.1 = 0 then k0 q.2 else k1 q.2) (fk1 S)
    exact Ep_ite (fun _ => h0 _) (fun c => h1 _ (hq.2 c)))
  have z0 : ∀ T1 : Tr, Ep (fJ_X8_lineRead_J343 0 T1) (fk1 S) := fun T1 => fk_343 (fun c => absurd rfl c)
  have j186 : ∀ T1, Ep (fJ_X8_lineRead_J186 T1) (fk1 S) := fun T1 => by unfold fJ_X8_lineRead_J186 fJ_X8_lineRead_J187; exact Ep_ite (fun _ => z0 _) (fun c => absurd rfl c)
  have j227 : ∀ T1, Ep (fJ_X8_lineRead_J227 T1) (fk1 S) := fun T1 => by unfold fJ_X8_lineRead_J227 fJ_X8_lineRead_J228; exact Ep_ite (fun _ => z0 _) (fun c => absurd rfl c)
  have j187 : ∀ T1, fk S T1 → Ep (fJ_X8_lineRead_J187 1 T1) (fk1 S) := fun T1 h1 => by
    unfold fJ_X8_lineRead_J187
    exact Ep_ite (fun c => absurd c (by decide)) (fun _ => Ep_lt (fun T2 e2 => fk_343 (T := T2) (fun _ => by rw [e2]; exact fk_s h1 (by omega))))
  have j228 : ∀ T1, fk S T1 → Ep (fJ_X8_lineRead_J228 1 T1) (fk1 S) := fun T1 h1 => by
    unfold fJ_X8_lineRead_J228
    exact Ep_ite (fun c => absurd c (by decide)) (fun _ => Ep_lt (fun T2 e2 => fk_343 (T := T2) (fun _ => by rw [e2]; exact fk_s h1 (by omega))))
  unfold f_X8_lineRead fJ_X8_lineRead_J17 fJ_X8_lineRead_J136 fJ_X8_lineRead_J276
  refine Ep_ite (fun _ => Ep_ite (fun _ => Ep_lt (fun y8 _ => Ep_ite (fun _ => fk_343b (fk_place h)) (fun _ => Ep_ite (fun _ => fk_343b (fk_person h)) (fun _ => Ep_ite (fun _ => fk_343b (fk_piece h)) (fun _ => Ep_ite (fun _ => fk_343b (fk_wait h)) (fun _ => Ep_ite (fun _ => ?_) (fun _ => Ep_ite (fun _ => ?_) (fun _ => Ep_ite (fun _ => ?_) (fun _ => ?_))))))))) (fun _ => no _ _)) (fun _ => no _ _)
  · refine once 0 (fun S_44 => some (0, S_44)) (fun S_44 => if (S_44 0 8) = 1 then (if (S_44 0 9) < 13 then (bd (f_X8_wrong S_44 (1 : Int32)) fun q => lt q.1 fun r49 => lt q.2 fun S_50 => ck (okB r49) (some (r49, S_50))) else (if (S_44 0 9) ≤ 15 then (lt (st S_44 23 3 ((S_44 0 9) - 13)) fun S_56 => bd (f_X8_token S_56) fun S_57 => fJ_X8_lineRead_J343 1 S_57) else (bd (f_X8_wrong S_44 (1 : Int32)) fun q => lt q.1 fun r49 => lt q.2 fun S_50 => ck (okB r49) (some (r49, S_50))))) else (bd (f_X8_wrong S_44 (1 : Int32)) fun q => lt q.1 fun r49 => lt q.2 fun S_50 => ck (okB r49) (some (r49, S_50)))) (fun T1 => fk_0) (fun T1 h1 => ?_)
    exact Ep_ite (fun _ => Ep_ite (fun _ => no _ _) (fun _ => Ep_ite (fun _ => Ep_lt (fun T2 e2 => Ep_bd (fk_tok (S := S) (T := T2) (by rw [e2]; exact fk_s h1 (by omega))) (fun T3 h3 => fk_343 (fun _ => h3)))) (fun _ => no _ _))) (fun _ => no _ _)
  · refine once 1 (fun S_62 => fJ_X8_lineRead_J186 S_62) (fun S_62 => bd (f_X8_number S_62 (0 : Int32) (99 : Int32)) fun q => lt q.1 fun r68 => lt q.2 fun S_69 => if r68 = 0 then (fJ_X8_lineRead_J186 S_69) else (fJ_X8_lineRead_J187 1 S_69)) j186 (fun T1 h1 => ?_)
    exact num T1 0 99 (fun S_69 => fJ_X8_lineRead_J186 S_69) (fun S_69 => fJ_X8_lineRead_J187 1 S_69) h1 j186 j187
  · refine once 2 (fun S_62 => fJ_X8_lineRead_J227 S_62) (fun S_62 => bd (f_X8_number S_62 (0 : Int32) (99999 : Int32)) fun q => lt q.1 fun r68 => lt q.2 fun S_69 => if r68 = 0 then (fJ_X8_lineRead_J227 S_69) else (fJ_X8_lineRead_J228 1 S_69)) j227 (fun T1 h1 => ?_)
    exact num T1 0 99999 (fun S_69 => fJ_X8_lineRead_J227 S_69) (fun S_69 => fJ_X8_lineRead_J228 1 S_69) h1 j227 j228
  · refine Ep_bd (fk_tok h) (fun T2 h2 => Ep_ite (fun _ => Ep_ite (fun _ => no _ _) (fun _ => Ep_ite (fun _ => Ep_lt (fun y _ => Ep_ck (Ep_ite (fun _ => Ep_lt (fun T3 e3 => Ep_bd (fk_tok (S := S) (T := T3) (by rw [e3]; exact fk_s h2 (by omega))) (fun T4 h4 => Ep_lt (fun T5 e5 => Ep_bd (fk_sum (S := S) (T := T5) (by rw [e5]; exact fk_s h4 (by omega))) (fun q hq => ?_))))) (fun _ => no _ _)))) (fun _ => no _ _))) (fun _ => no _ _))
    exact Ep_lt (fun r105 e105 => Ep_lt (fun T6 e6 => Ep_lt (fun T7 e7 => fk_343 (fun c => by
      have e105 : r105 = q.1 := e105
      have e6 : T6 = q.2 := e6
      rw [e7, e6]
      exact fk_s (hq (by rw [← e105]; exact c)) (by omega)))))
-- 62.za.5k4
/-! keeping a text, feeding: faults stay -/
set_option maxHeartbeats 1000000 in
set_option maxRecDepth 100000 in
theorem fzB_X8_copies_23_L2 {S0 : Tr} (x1 : Int32)    (N : Nat) : ∀ (x2 : Int32) (S : Tr), fk S0 S → Ep (lpF (fun _ _ => none) (fB_X8_copies_23_L2 x1) N x2 S) (fun q => fk S0 q) := by
  induction N with
  | zero => intro x2 S _; exact Ep_none
  | succ N ih =>
    intro x2 S hS
    show Ep (fB_X8_copies_23_L2 x1 (lpF (fun _ _ => none) (fB_X8_copies_23_L2 x1) N) x2 S) _
    have hk2 := ih
    clear ih
    generalize lpF (fun _ _ => none) (fB_X8_copies_23_L2 x1) N = k2 at hk2 ⊢
    unfold fB_X8_copies_23_L2
    refine Ep_ite (fun _ => ?_) (fun _ => ?_)
    · exact Ep_some hS
    · refine Ep_ck ?_
      refine Ep_ck ?_
      refine Ep_lt (fun S_4 eS_4 => ?_)
      have hS_4 : fk S0 S_4 := by rw [eS_4]; exact fk_s hS (by omega)
      refine Ep_lt (fun y5 ey5 => ?_)
      exact hk2 y5 S_4 hS_4
set_option maxHeartbeats 1000000 in
set_option maxRecDepth 100000 in
theorem fzL_X8_copies_23_L2 {S0 : Tr} (x1 : Int32)    (x2 : Int32) (S : Tr) (hS : fk S0 S) : Ep (fL_X8_copies_23_L2 x1 x2 S) (fun q => fk S0 q) := by
  unfold fL_X8_copies_23_L2
  exact fzB_X8_copies_23_L2 x1 2000 x2 S hS
set_option maxHeartbeats 1000000 in
set_option maxRecDepth 100000 in
theorem fz_X8_copies_23 {S0 : Tr} (S : Tr) (x1 : Int32) (hS : fk S0 S)   : Ep (f_X8_copies_23 S x1) (fun q => fk S0 q) := by
  unfold f_X8_copies_23
  exact fzL_X8_copies_23_L2 x1 0 S hS
set_option maxHeartbeats 1000000 in
set_option maxRecDepth 100000 in
theorem fzB_X8_copies_24_L2 {S0 : Tr} (x1 : Int32)    (N : Nat) : ∀ (x2 : Int32) (S : Tr), fk S0 S → Ep (lpF (fun _ _ => none) (fB_X8_copies_24_L2 x1) N x2 S) (fun q => fk S0 q) := by
  induction N with
  | zero => intro x2 S _; exact Ep_none
  | succ N ih =>
    intro x2 S hS
    show Ep (fB_X8_copies_24_L2 x1 (lpF (fun _ _ => none) (fB_X8_copies_24_L2 x1) N) x2 S) _
    have hk2 := ih
    clear ih
    generalize lpF (fun _ _ => none) (fB_X8_copies_24_L2 x1) N = k2 at hk2 ⊢
    unfold fB_X8_copies_24_L2
    refine Ep_ite (fun _ => ?_) (fun _ => ?_)
    · exact Ep_some hS
    · refine Ep_ck ?_
      refine Ep_ck ?_
      refine Ep_lt (fun S_4 eS_4 => ?_)
      have hS_4 : fk S0 S_4 := by rw [eS_4]; exact fk_s hS (by omega)
      refine Ep_lt (fun y5 ey5 => ?_)
      exact hk2 y5 S_4 hS_4
set_option maxHeartbeats 1000000 in
set_option maxRecDepth 100000 in
theorem fzL_X8_copies_24_L2 {S0 : Tr} (x1 : Int32)    (x2 : Int32) (S : Tr) (hS : fk S0 S) : Ep (fL_X8_copies_24_L2 x1 x2 S) (fun q => fk S0 q) := by
  unfold fL_X8_copies_24_L2
  exact fzB_X8_copies_24_L2 x1 2000 x2 S hS
set_option maxHeartbeats 1000000 in
set_option maxRecDepth 100000 in
theorem fz_X8_copies_24 {S0 : Tr} (S : Tr) (x1 : Int32) (hS : fk S0 S)   : Ep (f_X8_copies_24 S x1) (fun q => fk S0 q) := by
  unfold f_X8_copies_24
  exact fzL_X8_copies_24_L2 x1 0 S hS
set_option maxHeartbeats 1000000 in
set_option maxRecDepth 100000 in
theorem fzB_X8_copies_25_L2 {S0 : Tr} (x1 : Int32)    (N : Nat) : ∀ (x2 : Int32) (S : Tr), fk S0 S → Ep (lpF (fun _ _ => none) (fB_X8_copies_25_L2 x1) N x2 S) (fun q => fk S0 q) := by
  induction N with
  | zero => intro x2 S _; exact Ep_none
  | succ N ih =>
    intro x2 S hS
    show Ep (fB_X8_copies_25_L2 x1 (lpF (fun _ _ => none) (fB_X8_copies_25_L2 x1) N) x2 S) _
    have hk2 := ih
    clear ih
    generalize lpF (fun _ _ => none) (fB_X8_copies_25_L2 x1) N = k2 at hk2 ⊢
    unfold fB_X8_copies_25_L2
    refine Ep_ite (fun _ => ?_) (fun _ => ?_)
    · exact Ep_some hS
    · refine Ep_ck ?_
      refine Ep_ck ?_
      refine Ep_lt (fun S_4 eS_4 => ?_)
      have hS_4 : fk S0 S_4 := by rw [eS_4]; exact fk_s hS (by omega)
      refine Ep_lt (fun y5 ey5 => ?_)
      exact hk2 y5 S_4 hS_4
set_option maxHeartbeats 1000000 in
set_option maxRecDepth 100000 in
theorem fzL_X8_copies_25_L2 {S0 : Tr} (x1 : Int32)    (x2 : Int32) (S : Tr) (hS : fk S0 S) : Ep (fL_X8_copies_25_L2 x1 x2 S) (fun q => fk S0 q) := by
  unfold fL_X8_copies_25_L2
  exact fzB_X8_copies_25_L2 x1 2000 x2 S hS
set_option maxHeartbeats 1000000 in
set_option maxRecDepth 100000 in
theorem fz_X8_copies_25 {S0 : Tr} (S : Tr) (x1 : Int32) (hS : fk S0 S)   : Ep (f_X8_copies_25 S x1) (fun q => fk S0 q) := by
  unfold f_X8_copies_25
  exact fzL_X8_copies_25_L2 x1 0 S hS
set_option maxHeartbeats 1000000 in
set_option maxRecDepth 100000 in
theorem fzB_X8_copies_26_L2 {S0 : Tr} (x1 : Int32)    (N : Nat) : ∀ (x2 : Int32) (S : Tr), fk S0 S → Ep (lpF (fun _ _ => none) (fB_X8_copies_26_L2 x1) N x2 S) (fun q => fk S0 q) := by
  induction N with
  | zero => intro x2 S _; exact Ep_none
  | succ N ih =>
    intro x2 S hS
    show Ep (fB_X8_copies_26_L2 x1 (lpF (fun _ _ => none) (fB_X8_copies_26_L2 x1) N) x2 S) _
    have hk2 := ih
    clear ih
    generalize lpF (fun _ _ => none) (fB_X8_copies_26_L2 x1) N = k2 at hk2 ⊢
    unfold fB_X8_copies_26_L2
    refine Ep_ite (fun _ => ?_) (fun _ => ?_)
    · exact Ep_some hS
    · refine Ep_ck ?_
      refine Ep_ck ?_
      refine Ep_lt (fun S_4 eS_4 => ?_)
      have hS_4 : fk S0 S_4 := by rw [eS_4]; exact fk_s hS (by omega)
      refine Ep_lt (fun y5 ey5 => ?_)
      exact hk2 y5 S_4 hS_4
set_option maxHeartbeats 1000000 in
set_option maxRecDepth 100000 in
theorem fzL_X8_copies_26_L2 {S0 : Tr} (x1 : Int32)    (x2 : Int32) (S : Tr) (hS : fk S0 S) : Ep (fL_X8_copies_26_L2 x1 x2 S) (fun q => fk S0 q) := by
  unfold fL_X8_copies_26_L2
  exact fzB_X8_copies_26_L2 x1 2000 x2 S hS
set_option maxHeartbeats 1000000 in
set_option maxRecDepth 100000 in
theorem fz_X8_copies_26 {S0 : Tr} (S : Tr) (x1 : Int32) (hS : fk S0 S)   : Ep (f_X8_copies_26 S x1) (fun q => fk S0 q) := by
  unfold f_X8_copies_26
  exact fzL_X8_copies_26_L2 x1 0 S hS
set_option maxHeartbeats 1000000 in
set_option maxRecDepth 100000 in
theorem fzB_X8_copies_27_L2 {S0 : Tr} (x1 : Int32)    (N : Nat) : ∀ (x2 : Int32) (S : Tr), fk S0 S → Ep (lpF (fun _ _ => none) (fB_X8_copies_27_L2 x1) N x2 S) (fun q => fk S0 q) := by
  induction N with
  | zero => intro x2 S _; exact Ep_none
  | succ N ih =>
    intro x2 S hS
    show Ep (fB_X8_copies_27_L2 x1 (lpF (fun _ _ => none) (fB_X8_copies_27_L2 x1) N) x2 S) _
    have hk2 := ih
    clear ih
    generalize lpF (fun _ _ => none) (fB_X8_copies_27_L2 x1) N = k2 at hk2 ⊢
    unfold fB_X8_copies_27_L2
    refine Ep_ite (fun _ => ?_) (fun _ => ?_)
    · exact Ep_some hS
    · refine Ep_ck ?_
      refine Ep_ck ?_
      refine Ep_lt (fun S_4 eS_4 => ?_)
      have hS_4 : fk S0 S_4 := by rw [eS_4]; exact fk_s hS (by omega)
      refine Ep_lt (fun y5 ey5 => ?_)
      exact hk2 y5 S_4 hS_4
set_option maxHeartbeats 1000000 in
set_option maxRecDepth 100000 in
theorem fzL_X8_copies_27_L2 {S0 : Tr} (x1 : Int32)    (x2 : Int32) (S : Tr) (hS : fk S0 S) : Ep (fL_X8_copies_27_L2 x1 x2 S) (fun q => fk S0 q) := by
  unfold fL_X8_copies_27_L2
  exact fzB_X8_copies_27_L2 x1 2000 x2 S hS
set_option maxHeartbeats 1000000 in
set_option maxRecDepth 100000 in
theorem fz_X8_copies_27 {S0 : Tr} (S : Tr) (x1 : Int32) (hS : fk S0 S)   : Ep (f_X8_copies_27 S x1) (fun q => fk S0 q) := by
  unfold f_X8_copies_27
  exact fzL_X8_copies_27_L2 x1 0 S hS
set_option maxHeartbeats 1000000 in
set_option maxRecDepth 100000 in
theorem fzB_X8_copies_28_L2 {S0 : Tr} (x1 : Int32)    (N : Nat) : ∀ (x2 : Int32) (S : Tr), fk S0 S → Ep (lpF (fun _ _ => none) (fB_X8_copies_28_L2 x1) N x2 S) (fun q => fk S0 q) := by
  induction N with
  | zero => intro x2 S _; exact Ep_none
  | succ N ih =>
    intro x2 S hS
    show Ep (fB_X8_copies_28_L2 x1 (lpF (fun _ _ => none) (fB_X8_copies_28_L2 x1) N) x2 S) _
    have hk2 := ih
    clear ih
    generalize lpF (fun _ _ => none) (fB_X8_copies_28_L2 x1) N = k2 at hk2 ⊢
    unfold fB_X8_copies_28_L2
    refine Ep_ite (fun _ => ?_) (fun _ => ?_)
    · exact Ep_some hS
    · refine Ep_ck ?_
      refine Ep_ck ?_
      refine Ep_lt (fun S_4 eS_4 => ?_)
      have hS_4 : fk S0 S_4 := by rw [eS_4]; exact fk_s hS (by omega)
      refine Ep_lt (fun y5 ey5 => ?_)
      exact hk2 y5 S_4 hS_4
set_option maxHeartbeats 1000000 in
set_option maxRecDepth 100000 in
theorem fzL_X8_copies_28_L2 {S0 : Tr} (x1 : Int32)    (x2 : Int32) (S : Tr) (hS : fk S0 S) : Ep (fL_X8_copies_28_L2 x1 x2 S) (fun q => fk S0 q) := by
  unfold fL_X8_copies_28_L2
  exact fzB_X8_copies_28_L2 x1 2000 x2 S hS
set_option maxHeartbeats 1000000 in
set_option maxRecDepth 100000 in
theorem fz_X8_copies_28 {S0 : Tr} (S : Tr) (x1 : Int32) (hS : fk S0 S)   : Ep (f_X8_copies_28 S x1) (fun q => fk S0 q) := by
  unfold f_X8_copies_28
  exact fzL_X8_copies_28_L2 x1 0 S hS
set_option maxHeartbeats 1000000 in
set_option maxRecDepth 100000 in
theorem fzB_X8_copies_29_L2 {S0 : Tr} (x1 : Int32)    (N : Nat) : ∀ (x2 : Int32) (S : Tr), fk S0 S → Ep (lpF (fun _ _ => none) (fB_X8_copies_29_L2 x1) N x2 S) (fun q => fk S0 q) := by
  induction N with
  | zero => intro x2 S _; exact Ep_none
  | succ N ih =>
    intro x2 S hS
    show Ep (fB_X8_copies_29_L2 x1 (lpF (fun _ _ => none) (fB_X8_copies_29_L2 x1) N) x2 S) _
    have hk2 := ih
    clear ih
    generalize lpF (fun _ _ => none) (fB_X8_copies_29_L2 x1) N = k2 at hk2 ⊢
    unfold fB_X8_copies_29_L2
    refine Ep_ite (fun _ => ?_) (fun _ => ?_)
    · exact Ep_some hS
    · refine Ep_ck ?_
      refine Ep_ck ?_
      refine Ep_lt (fun S_4 eS_4 => ?_)
      have hS_4 : fk S0 S_4 := by rw [eS_4]; exact fk_s hS (by omega)
      refine Ep_lt (fun y5 ey5 => ?_)
      exact hk2 y5 S_4 hS_4
set_option maxHeartbeats 1000000 in
set_option maxRecDepth 100000 in
theorem fzL_X8_copies_29_L2 {S0 : Tr} (x1 : Int32)    (x2 : Int32) (S : Tr) (hS : fk S0 S) : Ep (fL_X8_copies_29_L2 x1 x2 S) (fun q => fk S0 q) := by
  unfold fL_X8_copies_29_L2
  exact fzB_X8_copies_29_L2 x1 2000 x2 S hS
set_option maxHeartbeats 1000000 in
set_option maxRecDepth 100000 in
theorem fz_X8_copies_29 {S0 : Tr} (S : Tr) (x1 : Int32) (hS : fk S0 S)   : Ep (f_X8_copies_29 S x1) (fun q => fk S0 q) := by
  unfold f_X8_copies_29
  exact fzL_X8_copies_29_L2 x1 0 S hS
set_option maxHeartbeats 1000000 in
set_option maxRecDepth 100000 in
theorem fzB_X8_copies_30_L2 {S0 : Tr} (x1 : Int32)    (N : Nat) : ∀ (x2 : Int32) (S : Tr), fk S0 S → Ep (lpF (fun _ _ => none) (fB_X8_copies_30_L2 x1) N x2 S) (fun q => fk S0 q) := by
  induction N with
  | zero => intro x2 S _; exact Ep_none
  | succ N ih =>
    intro x2 S hS
    show Ep (fB_X8_copies_30_L2 x1 (lpF (fun _ _ => none) (fB_X8_copies_30_L2 x1) N) x2 S) _
    have hk2 := ih
    clear ih
    generalize lpF (fun _ _ => none) (fB_X8_copies_30_L2 x1) N = k2 at hk2 ⊢
    unfold fB_X8_copies_30_L2
    refine Ep_ite (fun _ => ?_) (fun _ => ?_)
    · exact Ep_some hS
    · refine Ep_ck ?_
      refine Ep_ck ?_
      refine Ep_lt (fun S_4 eS_4 => ?_)
      have hS_4 : fk S0 S_4 := by rw [eS_4]; exact fk_s hS (by omega)
      refine Ep_lt (fun y5 ey5 => ?_)
      exact hk2 y5 S_4 hS_4
set_option maxHeartbeats 1000000 in
set_option maxRecDepth 100000 in
theorem fzL_X8_copies_30_L2 {S0 : Tr} (x1 : Int32)    (x2 : Int32) (S : Tr) (hS : fk S0 S) : Ep (fL_X8_copies_30_L2 x1 x2 S) (fun q => fk S0 q) := by
  unfold fL_X8_copies_30_L2
  exact fzB_X8_copies_30_L2 x1 2000 x2 S hS
set_option maxHeartbeats 1000000 in
set_option maxRecDepth 100000 in
theorem fz_X8_copies_30 {S0 : Tr} (S : Tr) (x1 : Int32) (hS : fk S0 S)   : Ep (f_X8_copies_30 S x1) (fun q => fk S0 q) := by
  unfold f_X8_copies_30
  exact fzL_X8_copies_30_L2 x1 0 S hS
set_option maxHeartbeats 1000000 in
set_option maxRecDepth 100000 in
theorem fzB_X8_copies_31_L2 {S0 : Tr} (x1 : Int32)    (N : Nat) : ∀ (x2 : Int32) (S : Tr), fk S0 S → Ep (lpF (fun _ _ => none) (fB_X8_copies_31_L2 x1) N x2 S) (fun q => fk S0 q) := by
  induction N with
  | zero => intro x2 S _; exact Ep_none
  | succ N ih =>
    intro x2 S hS
    show Ep (fB_X8_copies_31_L2 x1 (lpF (fun _ _ => none) (fB_X8_copies_31_L2 x1) N) x2 S) _
    have hk2 := ih
    clear ih
    generalize lpF (fun _ _ => none) (fB_X8_copies_31_L2 x1) N = k2 at hk2 ⊢
    unfold fB_X8_copies_31_L2
    refine Ep_ite (fun _ => ?_) (fun _ => ?_)
    · exact Ep_some hS
    · refine Ep_ck ?_
      refine Ep_ck ?_
      refine Ep_lt (fun S_4 eS_4 => ?_)
      have hS_4 : fk S0 S_4 := by rw [eS_4]; exact fk_s hS (by omega)
      refine Ep_lt (fun y5 ey5 => ?_)
      exact hk2 y5 S_4 hS_4
set_option maxHeartbeats 1000000 in
set_option maxRecDepth 100000 in
theorem fzL_X8_copies_31_L2 {S0 : Tr} (x1 : Int32)    (x2 : Int32) (S : Tr) (hS : fk S0 S) : Ep (fL_X8_copies_31_L2 x1 x2 S) (fun q => fk S0 q) := by
  unfold fL_X8_copies_31_L2
  exact fzB_X8_copies_31_L2 x1 2000 x2 S hS
set_option maxHeartbeats 1000000 in
set_option maxRecDepth 100000 in
theorem fz_X8_copies_31 {S0 : Tr} (S : Tr) (x1 : Int32) (hS : fk S0 S)   : Ep (f_X8_copies_31 S x1) (fun q => fk S0 q) := by
  unfold f_X8_copies_31
  exact fzL_X8_copies_31_L2 x1 0 S hS
set_option maxHeartbeats 1000000 in
set_option maxRecDepth 100000 in
theorem fzB_X8_copies_32_L2 {S0 : Tr} (x1 : Int32)    (N : Nat) : ∀ (x2 : Int32) (S : Tr), fk S0 S → Ep (lpF (fun _ _ => none) (fB_X8_copies_32_L2 x1) N x2 S) (fun q => fk S0 q) := by
  induction N with
  | zero => intro x2 S _; exact Ep_none
  | succ N ih =>
    intro x2 S hS
    show Ep (fB_X8_copies_32_L2 x1 (lpF (fun _ _ => none) (fB_X8_copies_32_L2 x1) N) x2 S) _
    have hk2 := ih
    clear ih
    generalize lpF (fun _ _ => none) (fB_X8_copies_32_L2 x1) N = k2 at hk2 ⊢
    unfold fB_X8_copies_32_L2
    refine Ep_ite (fun _ => ?_) (fun _ => ?_)
    · exact Ep_some hS
    · refine Ep_ck ?_
      refine Ep_ck ?_
      refine Ep_lt (fun S_4 eS_4 => ?_)
      have hS_4 : fk S0 S_4 := by rw [eS_4]; exact fk_s hS (by omega)
      refine Ep_lt (fun y5 ey5 => ?_)
      exact hk2 y5 S_4 hS_4
set_option maxHeartbeats 1000000 in
set_option maxRecDepth 100000 in
theorem fzL_X8_copies_32_L2 {S0 : Tr} (x1 : Int32)    (x2 : Int32) (S : Tr) (hS : fk S0 S) : Ep (fL_X8_copies_32_L2 x1 x2 S) (fun q => fk S0 q) := by
  unfold fL_X8_copies_32_L2
  exact fzB_X8_copies_32_L2 x1 2000 x2 S hS
set_option maxHeartbeats 1000000 in
set_option maxRecDepth 100000 in
theorem fz_X8_copies_32 {S0 : Tr} (S : Tr) (x1 : Int32) (hS : fk S0 S)   : Ep (f_X8_copies_32 S x1) (fun q => fk S0 q) := by
  unfold f_X8_copies_32
  exact fzL_X8_copies_32_L2 x1 0 S hS
set_option maxHeartbeats 1000000 in
set_option maxRecDepth 100000 in
theorem fzB_X8_copies_33_L2 {S0 : Tr} (x1 : Int32)    (N : Nat) : ∀ (x2 : Int32) (S : Tr), fk S0 S → Ep (lpF (fun _ _ => none) (fB_X8_copies_33_L2 x1) N x2 S) (fun q => fk S0 q) := by
  induction N with
  | zero => intro x2 S _; exact Ep_none
  | succ N ih =>
    intro x2 S hS
    show Ep (fB_X8_copies_33_L2 x1 (lpF (fun _ _ => none) (fB_X8_copies_33_L2 x1) N) x2 S) _
    have hk2 := ih
    clear ih
    generalize lpF (fun _ _ => none) (fB_X8_copies_33_L2 x1) N = k2 at hk2 ⊢
    unfold fB_X8_copies_33_L2
    refine Ep_ite (fun _ => ?_) (fun _ => ?_)
    · exact Ep_some hS
    · refine Ep_ck ?_
      refine Ep_ck ?_
      refine Ep_lt (fun S_4 eS_4 => ?_)
      have hS_4 : fk S0 S_4 := by rw [eS_4]; exact fk_s hS (by omega)
      refine Ep_lt (fun y5 ey5 => ?_)
      exact hk2 y5 S_4 hS_4
set_option maxHeartbeats 1000000 in
set_option maxRecDepth 100000 in
theorem fzL_X8_copies_33_L2 {S0 : Tr} (x1 : Int32)    (x2 : Int32) (S : Tr) (hS : fk S0 S) : Ep (fL_X8_copies_33_L2 x1 x2 S) (fun q => fk S0 q) := by
  unfold fL_X8_copies_33_L2
  exact fzB_X8_copies_33_L2 x1 2000 x2 S hS
set_option maxHeartbeats 1000000 in
set_option maxRecDepth 100000 in
theorem fz_X8_copies_33 {S0 : Tr} (S : Tr) (x1 : Int32) (hS : fk S0 S)   : Ep (f_X8_copies_33 S x1) (fun q => fk S0 q) := by
  unfold f_X8_copies_33
  exact fzL_X8_copies_33_L2 x1 0 S hS
set_option maxHeartbeats 1000000 in
set_option maxRecDepth 100000 in
theorem fzB_X8_copies_34_L2 {S0 : Tr} (x1 : Int32)    (N : Nat) : ∀ (x2 : Int32) (S : Tr), fk S0 S → Ep (lpF (fun _ _ => none) (fB_X8_copies_34_L2 x1) N x2 S) (fun q => fk S0 q) := by
  induction N with
  | zero => intro x2 S _; exact Ep_none
  | succ N ih =>
    intro x2 S hS
    show Ep (fB_X8_copies_34_L2 x1 (lpF (fun _ _ => none) (fB_X8_copies_34_L2 x1) N) x2 S) _
    have hk2 := ih
    clear ih
    generalize lpF (fun _ _ => none) (fB_X8_copies_34_L2 x1) N = k2 at hk2 ⊢
    unfold fB_X8_copies_34_L2
    refine Ep_ite (fun _ => ?_) (fun _ => ?_)
    · exact Ep_some hS
    · refine Ep_ck ?_
      refine Ep_ck ?_
      refine Ep_lt (fun S_4 eS_4 => ?_)
      have hS_4 : fk S0 S_4 := by rw [eS_4]; exact fk_s hS (by omega)
      refine Ep_lt (fun y5 ey5 => ?_)
      exact hk2 y5 S_4 hS_4
set_option maxHeartbeats 1000000 in
set_option maxRecDepth 100000 in
theorem fzL_X8_copies_34_L2 {S0 : Tr} (x1 : Int32)    (x2 : Int32) (S : Tr) (hS : fk S0 S) : Ep (fL_X8_copies_34_L2 x1 x2 S) (fun q => fk S0 q) := by
  unfold fL_X8_copies_34_L2
  exact fzB_X8_copies_34_L2 x1 2000 x2 S hS
set_option maxHeartbeats 1000000 in
set_option maxRecDepth 100000 in
theorem fz_X8_copies_34 {S0 : Tr} (S : Tr) (x1 : Int32) (hS : fk S0 S)   : Ep (f_X8_copies_34 S x1) (fun q => fk S0 q) := by
  unfold f_X8_copies_34
  exact fzL_X8_copies_34_L2 x1 0 S hS
set_option maxHeartbeats 1000000 in
set_option maxRecDepth 100000 in
theorem fzB_X8_copies_37_L2 {S0 : Tr} (x1 : Int32)    (N : Nat) : ∀ (x2 : Int32) (S : Tr), fk S0 S → Ep (lpF (fun _ _ => none) (fB_X8_copies_37_L2 x1) N x2 S) (fun q => fk S0 q) := by
  induction N with
  | zero => intro x2 S _; exact Ep_none
  | succ N ih =>
    intro x2 S hS
    show Ep (fB_X8_copies_37_L2 x1 (lpF (fun _ _ => none) (fB_X8_copies_37_L2 x1) N) x2 S) _
    have hk2 := ih
    clear ih
    generalize lpF (fun _ _ => none) (fB_X8_copies_37_L2 x1) N = k2 at hk2 ⊢
    unfold fB_X8_copies_37_L2
    refine Ep_ite (fun _ => ?_) (fun _ => ?_)
    · exact Ep_some hS
    · refine Ep_ck ?_
      refine Ep_ck ?_
      refine Ep_lt (fun S_4 eS_4 => ?_)
      have hS_4 : fk S0 S_4 := by rw [eS_4]; exact fk_s hS (by omega)
      refine Ep_lt (fun y5 ey5 => ?_)
      exact hk2 y5 S_4 hS_4
set_option maxHeartbeats 1000000 in
set_option maxRecDepth 100000 in
theorem fzL_X8_copies_37_L2 {S0 : Tr} (x1 : Int32)    (x2 : Int32) (S : Tr) (hS : fk S0 S) : Ep (fL_X8_copies_37_L2 x1 x2 S) (fun q => fk S0 q) := by
  unfold fL_X8_copies_37_L2
  exact fzB_X8_copies_37_L2 x1 2000 x2 S hS
set_option maxHeartbeats 1000000 in
set_option maxRecDepth 100000 in
theorem fz_X8_copies_37 {S0 : Tr} (S : Tr) (x1 : Int32) (hS : fk S0 S)   : Ep (f_X8_copies_37 S x1) (fun q => fk S0 q) := by
  unfold f_X8_copies_37
  exact fzL_X8_copies_37_L2 x1 0 S hS
set_option maxHeartbeats 1000000 in
set_option maxRecDepth 100000 in
theorem fzB_X8_copies_38_L2 {S0 : Tr} (x1 : Int32)    (N : Nat) : ∀ (x2 : Int32) (S : Tr), fk S0 S → Ep (lpF (fun _ _ => none) (fB_X8_copies_38_L2 x1) N x2 S) (fun q => fk S0 q) := by
  induction N with
  | zero => intro x2 S _; exact Ep_none
  | succ N ih =>
    intro x2 S hS
    show Ep (fB_X8_copies_38_L2 x1 (lpF (fun _ _ => none) (fB_X8_copies_38_L2 x1) N) x2 S) _
    have hk2 := ih
    clear ih
    generalize lpF (fun _ _ => none) (fB_X8_copies_38_L2 x1) N = k2 at hk2 ⊢
    unfold fB_X8_copies_38_L2
    refine Ep_ite (fun _ => ?_) (fun _ => ?_)
    · exact Ep_some hS
    · refine Ep_ck ?_
      refine Ep_ck ?_
      refine Ep_lt (fun S_4 eS_4 => ?_)
      have hS_4 : fk S0 S_4 := by rw [eS_4]; exact fk_s hS (by omega)
      refine Ep_lt (fun y5 ey5 => ?_)
      exact hk2 y5 S_4 hS_4
set_option maxHeartbeats 1000000 in
set_option maxRecDepth 100000 in
theorem fzL_X8_copies_38_L2 {S0 : Tr} (x1 : Int32)    (x2 : Int32) (S : Tr) (hS : fk S0 S) : Ep (fL_X8_copies_38_L2 x1 x2 S) (fun q => fk S0 q) := by
  unfold fL_X8_copies_38_L2
  exact fzB_X8_copies_38_L2 x1 2000 x2 S hS
set_option maxHeartbeats 1000000 in
set_option maxRecDepth 100000 in
theorem fz_X8_copies_38 {S0 : Tr} (S : Tr) (x1 : Int32) (hS : fk S0 S)   : Ep (f_X8_copies_38 S x1) (fun q => fk S0 q) := by
  unfold f_X8_copies_38
  exact fzL_X8_copies_38_L2 x1 0 S hS
set_option maxHeartbeats 1000000 in
set_option maxRecDepth 100000 in
theorem fzB_X8_copies_39_L2 {S0 : Tr} (x1 : Int32)    (N : Nat) : ∀ (x2 : Int32) (S : Tr), fk S0 S → Ep (lpF (fun _ _ => none) (fB_X8_copies_39_L2 x1) N x2 S) (fun q => fk S0 q) := by
  induction N with
  | zero => intro x2 S _; exact Ep_none
  | succ N ih =>
    intro x2 S hS
    show Ep (fB_X8_copies_39_L2 x1 (lpF (fun _ _ => none) (fB_X8_copies_39_L2 x1) N) x2 S) _
    have hk2 := ih
    clear ih
    generalize lpF (fun _ _ => none) (fB_X8_copies_39_L2 x1) N = k2 at hk2 ⊢
    unfold fB_X8_copies_39_L2
    refine Ep_ite (fun _ => ?_) (fun _ => ?_)
    · exact Ep_some hS
    · refine Ep_ck ?_
      refine Ep_ck ?_
      refine Ep_lt (fun S_4 eS_4 => ?_)
      have hS_4 : fk S0 S_4 := by rw [eS_4]; exact fk_s hS (by omega)
      refine Ep_lt (fun y5 ey5 => ?_)
      exact hk2 y5 S_4 hS_4
set_option maxHeartbeats 1000000 in
set_option maxRecDepth 100000 in
theorem fzL_X8_copies_39_L2 {S0 : Tr} (x1 : Int32)    (x2 : Int32) (S : Tr) (hS : fk S0 S) : Ep (fL_X8_copies_39_L2 x1 x2 S) (fun q => fk S0 q) := by
  unfold fL_X8_copies_39_L2
  exact fzB_X8_copies_39_L2 x1 2000 x2 S hS
set_option maxHeartbeats 1000000 in
set_option maxRecDepth 100000 in
theorem fz_X8_copies_39 {S0 : Tr} (S : Tr) (x1 : Int32) (hS : fk S0 S)   : Ep (f_X8_copies_39 S x1) (fun q => fk S0 q) := by
  unfold f_X8_copies_39
  exact fzL_X8_copies_39_L2 x1 0 S hS
set_option maxHeartbeats 1000000 in
set_option maxRecDepth 100000 in
theorem fzB_X8_copies_40_L2 {S0 : Tr} (x1 : Int32)    (N : Nat) : ∀ (x2 : Int32) (S : Tr), fk S0 S → Ep (lpF (fun _ _ => none) (fB_X8_copies_40_L2 x1) N x2 S) (fun q => fk S0 q) := by
  induction N with
  | zero => intro x2 S _; exact Ep_none
  | succ N ih =>
    intro x2 S hS
    show Ep (fB_X8_copies_40_L2 x1 (lpF (fun _ _ => none) (fB_X8_copies_40_L2 x1) N) x2 S) _
    have hk2 := ih
    clear ih
    generalize lpF (fun _ _ => none) (fB_X8_copies_40_L2 x1) N = k2 at hk2 ⊢
    unfold fB_X8_copies_40_L2
    refine Ep_ite (fun _ => ?_) (fun _ => ?_)
    · exact Ep_some hS
    · refine Ep_ck ?_
      refine Ep_ck ?_
      refine Ep_lt (fun S_4 eS_4 => ?_)
      have hS_4 : fk S0 S_4 := by rw [eS_4]; exact fk_s hS (by omega)
      refine Ep_lt (fun y5 ey5 => ?_)
      exact hk2 y5 S_4 hS_4
set_option maxHeartbeats 1000000 in
set_option maxRecDepth 100000 in
theorem fzL_X8_copies_40_L2 {S0 : Tr} (x1 : Int32)    (x2 : Int32) (S : Tr) (hS : fk S0 S) : Ep (fL_X8_copies_40_L2 x1 x2 S) (fun q => fk S0 q) := by
  unfold fL_X8_copies_40_L2
  exact fzB_X8_copies_40_L2 x1 2000 x2 S hS
set_option maxHeartbeats 1000000 in
set_option maxRecDepth 100000 in
theorem fz_X8_copies_40 {S0 : Tr} (S : Tr) (x1 : Int32) (hS : fk S0 S)   : Ep (f_X8_copies_40 S x1) (fun q => fk S0 q) := by
  unfold f_X8_copies_40
  exact fzL_X8_copies_40_L2 x1 0 S hS
set_option maxHeartbeats 1000000 in
set_option maxRecDepth 100000 in
theorem fzB_X8_copies_41_L2 {S0 : Tr} (x1 : Int32)    (N : Nat) : ∀ (x2 : Int32) (S : Tr), fk S0 S → Ep (lpF (fun _ _ => none) (fB_X8_copies_41_L2 x1) N x2 S) (fun q => fk S0 q) := by
  induction N with
  | zero => intro x2 S _; exact Ep_none
  | succ N ih =>
    intro x2 S hS
    show Ep (fB_X8_copies_41_L2 x1 (lpF (fun _ _ => none) (fB_X8_copies_41_L2 x1) N) x2 S) _
    have hk2 := ih
    clear ih
    generalize lpF (fun _ _ => none) (fB_X8_copies_41_L2 x1) N = k2 at hk2 ⊢
    unfold fB_X8_copies_41_L2
    refine Ep_ite (fun _ => ?_) (fun _ => ?_)
    · exact Ep_some hS
    · refine Ep_ck ?_
      refine Ep_ck ?_
      refine Ep_lt (fun S_4 eS_4 => ?_)
      have hS_4 : fk S0 S_4 := by rw [eS_4]; exact fk_s hS (by omega)
      refine Ep_lt (fun y5 ey5 => ?_)
      exact hk2 y5 S_4 hS_4
set_option maxHeartbeats 1000000 in
set_option maxRecDepth 100000 in
theorem fzL_X8_copies_41_L2 {S0 : Tr} (x1 : Int32)    (x2 : Int32) (S : Tr) (hS : fk S0 S) : Ep (fL_X8_copies_41_L2 x1 x2 S) (fun q => fk S0 q) := by
  unfold fL_X8_copies_41_L2
  exact fzB_X8_copies_41_L2 x1 2000 x2 S hS
set_option maxHeartbeats 1000000 in
set_option maxRecDepth 100000 in
theorem fz_X8_copies_41 {S0 : Tr} (S : Tr) (x1 : Int32) (hS : fk S0 S)   : Ep (f_X8_copies_41 S x1) (fun q => fk S0 q) := by
  unfold f_X8_copies_41
  exact fzL_X8_copies_41_L2 x1 0 S hS
set_option maxHeartbeats 1000000 in
set_option maxRecDepth 100000 in
theorem fzJ_X8_atFirst_J134 {S0 : Tr} (x1 : Int32) (S : Tr) (hS : fk S0 S)   : Ep (fJ_X8_atFirst_J134 x1 S) (fun q => fk S0 q) := by
  unfold fJ_X8_atFirst_J134
  refine Ep_ck ?_
  refine Ep_lt (fun S_5 eS_5 => ?_)
  have hS_5 : fk S0 S_5 := by rw [eS_5]; exact fk_s hS (by omega)
  refine Ep_lt (fun S_6 eS_6 => ?_)
  have hS_6 : fk S0 S_6 := by rw [eS_6]; exact fk_s hS_5 (by omega)
  refine Ep_lt (fun S_7 eS_7 => ?_)
  have hS_7 : fk S0 S_7 := by rw [eS_7]; exact fk_s hS_6 (by omega)
  exact Ep_some hS_7
set_option maxHeartbeats 1000000 in
set_option maxRecDepth 100000 in
theorem fzB_X8_atFirst_L64 {S0 : Tr} (x1 : Int32)    (N : Nat) : ∀ (x2 : Int32) (S : Tr), fk S0 S → Ep (lpF (fun _ _ => none) (fB_X8_atFirst_L64 x1) N x2 S) (fun q => fk S0 q) := by
  induction N with
  | zero => intro x2 S _; exact Ep_none
  | succ N ih =>
    intro x2 S hS
    show Ep (fB_X8_atFirst_L64 x1 (lpF (fun _ _ => none) (fB_X8_atFirst_L64 x1) N) x2 S) _
    have hk64 := ih
    clear ih
    generalize lpF (fun _ _ => none) (fB_X8_atFirst_L64 x1) N = k64 at hk64 ⊢
    unfold fB_X8_atFirst_L64
    refine Ep_ite (fun _ => ?_) (fun _ => ?_)
    · exact fzJ_X8_atFirst_J134 x1 S hS
    · refine Ep_ck ?_
      refine Ep_ck ?_
      refine Ep_lt (fun S_10 eS_10 => ?_)
      have hS_10 : fk S0 S_10 := by rw [eS_10]; exact fk_s hS (by omega)
      refine Ep_lt (fun S_11 eS_11 => ?_)
      have hS_11 : fk S0 S_11 := by rw [eS_11]; exact fk_s hS_10 (by omega)
      refine Ep_lt (fun S_12 eS_12 => ?_)
      have hS_12 : fk S0 S_12 := by rw [eS_12]; exact fk_s hS_11 (by omega)
      refine Ep_lt (fun S_13 eS_13 => ?_)
      have hS_13 : fk S0 S_13 := by rw [eS_13]; exact fk_s hS_12 (by omega)
      refine Ep_lt (fun y14 ey14 => ?_)
      exact hk64 y14 S_13 hS_13
set_option maxHeartbeats 1000000 in
set_option maxRecDepth 100000 in
theorem fzL_X8_atFirst_L64 {S0 : Tr} (x1 : Int32)    (x2 : Int32) (S : Tr) (hS : fk S0 S) : Ep (fL_X8_atFirst_L64 x1 x2 S) (fun q => fk S0 q) := by
  unfold fL_X8_atFirst_L64
  exact fzB_X8_atFirst_L64 x1 2000 x2 S hS
set_option maxHeartbeats 1000000 in
set_option maxRecDepth 100000 in
theorem fzB_X8_atFirst_L40 {S0 : Tr} (x1 : Int32)    (N : Nat) : ∀ (x2 : Int32) (S : Tr), fk S0 S → Ep (lpF (fun _ _ => none) (fB_X8_atFirst_L40 x1) N x2 S) (fun q => fk S0 q) := by
  induction N with
  | zero => intro x2 S _; exact Ep_none
  | succ N ih =>
    intro x2 S hS
    show Ep (fB_X8_atFirst_L40 x1 (lpF (fun _ _ => none) (fB_X8_atFirst_L40 x1) N) x2 S) _
    have hk40 := ih
    clear ih
    generalize lpF (fun _ _ => none) (fB_X8_atFirst_L40 x1) N = k40 at hk40 ⊢
    unfold fB_X8_atFirst_L40
    refine Ep_ite (fun _ => ?_) (fun _ => ?_)
    · exact fzL_X8_atFirst_L64 x1 0 S hS
    · refine Ep_ck ?_
      refine Ep_lt (fun S_16 eS_16 => ?_)
      have hS_16 : fk S0 S_16 := by rw [eS_16]; exact fk_s hS (by omega)
      refine Ep_lt (fun y17 ey17 => ?_)
      exact hk40 y17 S_16 hS_16
set_option maxHeartbeats 1000000 in
set_option maxRecDepth 100000 in
theorem fzL_X8_atFirst_L40 {S0 : Tr} (x1 : Int32)    (x2 : Int32) (S : Tr) (hS : fk S0 S) : Ep (fL_X8_atFirst_L40 x1 x2 S) (fun q => fk S0 q) := by
  unfold fL_X8_atFirst_L40
  exact fzB_X8_atFirst_L40 x1 2000 x2 S hS
set_option maxHeartbeats 1000000 in
set_option maxRecDepth 100000 in
theorem fzB_X8_atFirst_L2 {S0 : Tr} (x1 : Int32)    (N : Nat) : ∀ (x2 : Int32) (S : Tr), fk S0 S → Ep (lpF (fun _ _ => none) (fB_X8_atFirst_L2 x1) N x2 S) (fun q => fk S0 q) := by
  induction N with
  | zero => intro x2 S _; exact Ep_none
  | succ N ih =>
    intro x2 S hS
    show Ep (fB_X8_atFirst_L2 x1 (lpF (fun _ _ => none) (fB_X8_atFirst_L2 x1) N) x2 S) _
    have hk2 := ih
    clear ih
    generalize lpF (fun _ _ => none) (fB_X8_atFirst_L2 x1) N = k2 at hk2 ⊢
    unfold fB_X8_atFirst_L2
    refine Ep_ite (fun _ => ?_) (fun _ => ?_)
    · exact fzL_X8_atFirst_L40 x1 0 S hS
    · refine Ep_ck ?_
      refine Ep_lt (fun S_19 eS_19 => ?_)
      have hS_19 : fk S0 S_19 := by rw [eS_19]; exact fk_s hS (by omega)
      refine Ep_lt (fun S_20 eS_20 => ?_)
      have hS_20 : fk S0 S_20 := by rw [eS_20]; exact fk_s hS_19 (by omega)
      refine Ep_lt (fun y21 ey21 => ?_)
      exact hk2 y21 S_20 hS_20
set_option maxHeartbeats 1000000 in
set_option maxRecDepth 100000 in
theorem fzL_X8_atFirst_L2 {S0 : Tr} (x1 : Int32)    (x2 : Int32) (S : Tr) (hS : fk S0 S) : Ep (fL_X8_atFirst_L2 x1 x2 S) (fun q => fk S0 q) := by
  unfold fL_X8_atFirst_L2
  exact fzB_X8_atFirst_L2 x1 2000 x2 S hS
set_option maxHeartbeats 1000000 in
set_option maxRecDepth 100000 in
theorem fz_X8_atFirst {S0 : Tr} (S : Tr) (x1 : Int32) (hS : fk S0 S)   : Ep (f_X8_atFirst S x1) (fun q => fk S0 q) := by
  unfold f_X8_atFirst
  exact fzL_X8_atFirst_L2 x1 0 S hS
set_option maxHeartbeats 1000000 in
set_option maxRecDepth 100000 in
theorem fzB_X8_plainTried_L42 {S0 : Tr}     (N : Nat) : ∀ (x1 : Int32) (S : Tr), fk S0 S → Ep (lpF (fun _ _ => none) (fB_X8_plainTried_L42) N x1 S) (fun q => fk S0 q) := by
  induction N with
  | zero => intro x1 S _; exact Ep_none
  | succ N ih =>
    intro x1 S hS
    show Ep (fB_X8_plainTried_L42 (lpF (fun _ _ => none) (fB_X8_plainTried_L42) N) x1 S) _
    have hk42 := ih
    clear ih
    generalize lpF (fun _ _ => none) (fB_X8_plainTried_L42) N = k42 at hk42 ⊢
    unfold fB_X8_plainTried_L42
    refine Ep_ite (fun _ => ?_) (fun _ => ?_)
    · exact Ep_some hS
    · refine Ep_ck ?_
      refine Ep_lt (fun S_10 eS_10 => ?_)
      have hS_10 : fk S0 S_10 := by rw [eS_10]; exact fk_s hS (by omega)
      refine Ep_lt (fun y11 ey11 => ?_)
      exact hk42 y11 S_10 hS_10
set_option maxHeartbeats 1000000 in
set_option maxRecDepth 100000 in
theorem fzL_X8_plainTried_L42 {S0 : Tr}     (x1 : Int32) (S : Tr) (hS : fk S0 S) : Ep (fL_X8_plainTried_L42 x1 S) (fun q => fk S0 q) := by
  unfold fL_X8_plainTried_L42
  exact fzB_X8_plainTried_L42 2000 x1 S hS
set_option maxHeartbeats 1000000 in
set_option maxRecDepth 100000 in
theorem fz_X8_plainTried {S0 : Tr} (S : Tr) (hS : fk S0 S)   : Ep (f_X8_plainTried S) (fun q => fk S0 q) := by
  unfold f_X8_plainTried
  refine Ep_lt (fun S_1 eS_1 => ?_)
  have hS_1 : fk S0 S_1 := by rw [eS_1]; exact fk_s hS (by omega)
  refine Ep_lt (fun S_2 eS_2 => ?_)
  have hS_2 : fk S0 S_2 := by rw [eS_2]; exact fk_s hS_1 (by omega)
  refine Ep_lt (fun S_3 eS_3 => ?_)
  have hS_3 : fk S0 S_3 := by rw [eS_3]; exact fk_s hS_2 (by omega)
  refine Ep_lt (fun S_4 eS_4 => ?_)
  have hS_4 : fk S0 S_4 := by rw [eS_4]; exact fk_s hS_3 (by omega)
  refine Ep_lt (fun S_5 eS_5 => ?_)
  have hS_5 : fk S0 S_5 := by rw [eS_5]; exact fk_s hS_4 (by omega)
  refine Ep_lt (fun S_6 eS_6 => ?_)
  have hS_6 : fk S0 S_6 := by rw [eS_6]; exact fk_s hS_5 (by omega)
  refine Ep_lt (fun S_7 eS_7 => ?_)
  have hS_7 : fk S0 S_7 := by rw [eS_7]; exact fk_s hS_6 (by omega)
  exact fzL_X8_plainTried_L42 0 S_7 hS_7
set_option maxHeartbeats 1000000 in
set_option maxRecDepth 100000 in
theorem fz_X8_begin {S0 : Tr} (S : Tr) (L : Lo) (hS : fk S0 S)   : Ep (f_X8_begin S L) (fun q => fk S0 q.1) := by
  unfold f_X8_begin
  refine Ep_bd (fz_X8_atFirst S (0 : Int32) hS) (fun S_1 hS_1 => ?_)
  refine Ep_lt (fun L_4 eL_4 => ?_)
  refine Ep_bd (fz_X8_plainTried S_1 hS_1) (fun S_5 hS_5 => ?_)
  refine Ep_lt (fun S_8 eS_8 => ?_)
  have hS_8 : fk S0 S_8 := by rw [eS_8]; exact fk_s hS_5 (by omega)
  refine Ep_lt (fun S_9 eS_9 => ?_)
  have hS_9 : fk S0 S_9 := by rw [eS_9]; exact fk_s hS_8 (by omega)
  refine Ep_lt (fun S_10 eS_10 => ?_)
  have hS_10 : fk S0 S_10 := by rw [eS_10]; exact fk_s hS_9 (by omega)
  refine Ep_lt (fun S_11 eS_11 => ?_)
  have hS_11 : fk S0 S_11 := by rw [eS_11]; exact fk_s hS_10 (by omega)
  exact Ep_some hS_11
set_option maxHeartbeats 1000000 in
set_option maxRecDepth 100000 in
theorem fzJ_X8_keepText_J164 {S0 : Tr} (S : Tr) (L : Lo) (hS : fk S0 S)   : Ep (fJ_X8_keepText_J164 S L) (fun q => fk S0 q.1) := by
  unfold fJ_X8_keepText_J164
  refine Ep_bd (fz_X8_copies_37 S (3 : Int32) hS) (fun S_42 hS_42 => ?_)
  refine Ep_bd (fz_X8_copies_38 S_42 (3 : Int32) hS_42) (fun S_45 hS_45 => ?_)
  refine Ep_bd (fz_X8_copies_39 S_45 (64 : Int32) hS_45) (fun S_48 hS_48 => ?_)
  refine Ep_bd (fz_X8_copies_40 S_48 (64 : Int32) hS_48) (fun S_51 hS_51 => ?_)
  refine Ep_bd (fz_X8_copies_41 S_51 (64 : Int32) hS_51) (fun S_54 hS_54 => ?_)
  refine Ep_bd (fz_X8_begin S_54 L hS_54) (fun q hq => ?_)
  refine Ep_lt (fun S_57 eS_57 => ?_)
  have hS_57 : fk S0 S_57 := by rw [eS_57]; exact hq
  refine Ep_lt (fun L_58 eL_58 => ?_)
  exact Ep_some hS_57
set_option maxHeartbeats 1000000 in
set_option maxRecDepth 100000 in
theorem fzB_X8_keepText_L139 {S0 : Tr} (L : Lo)    (N : Nat) : ∀ (x1 : Int32) (S : Tr), fk S0 S → Ep (lpF (fun _ _ => none) (fB_X8_keepText_L139 L) N x1 S) (fun q => fk S0 q.1) := by
  induction N with
  | zero => intro x1 S _; exact Ep_none
  | succ N ih =>
    intro x1 S hS
    show Ep (fB_X8_keepText_L139 L (lpF (fun _ _ => none) (fB_X8_keepText_L139 L) N) x1 S) _
    have hk139 := ih
    clear ih
    generalize lpF (fun _ _ => none) (fB_X8_keepText_L139 L) N = k139 at hk139 ⊢
    unfold fB_X8_keepText_L139
    refine Ep_ite (fun _ => ?_) (fun _ => ?_)
    · exact fzJ_X8_keepText_J164 S L hS
    · refine Ep_ck ?_
      refine Ep_ck ?_
      refine Ep_lt (fun S_63 eS_63 => ?_)
      have hS_63 : fk S0 S_63 := by rw [eS_63]; exact fk_s hS (by omega)
      refine Ep_lt (fun y64 ey64 => ?_)
      exact hk139 y64 S_63 hS_63
set_option maxHeartbeats 1000000 in
set_option maxRecDepth 100000 in
theorem fzL_X8_keepText_L139 {S0 : Tr} (L : Lo)    (x1 : Int32) (S : Tr) (hS : fk S0 S) : Ep (fL_X8_keepText_L139 L x1 S) (fun q => fk S0 q.1) := by
  unfold fL_X8_keepText_L139
  exact fzB_X8_keepText_L139 L 2000 x1 S hS
set_option maxHeartbeats 1000000 in
set_option maxRecDepth 100000 in
theorem fz_X8_keepText {S0 : Tr} (S : Tr) (L : Lo) (hS : fk S0 S)   : Ep (f_X8_keepText S L) (fun q => fk S0 q.1) := by
  unfold f_X8_keepText
  refine Ep_lt (fun S_1 eS_1 => ?_)
  have hS_1 : fk S0 S_1 := by rw [eS_1]; exact fk_s hS (by omega)
  refine Ep_lt (fun S_2 eS_2 => ?_)
  have hS_2 : fk S0 S_2 := by rw [eS_2]; exact fk_s hS_1 (by omega)
  refine Ep_lt (fun S_3 eS_3 => ?_)
  have hS_3 : fk S0 S_3 := by rw [eS_3]; exact fk_s hS_2 (by omega)
  refine Ep_lt (fun S_4 eS_4 => ?_)
  have hS_4 : fk S0 S_4 := by rw [eS_4]; exact fk_s hS_3 (by omega)
  refine Ep_bd (fz_X8_copies_23 S_4 (3 : Int32) hS_4) (fun S_5 hS_5 => ?_)
  refine Ep_bd (fz_X8_copies_24 S_5 (5 : Int32) hS_5) (fun S_8 hS_8 => ?_)
  refine Ep_bd (fz_X8_copies_25 S_8 (5 : Int32) hS_8) (fun S_11 hS_11 => ?_)
  refine Ep_bd (fz_X8_copies_26 S_11 (6 : Int32) hS_11) (fun S_14 hS_14 => ?_)
  refine Ep_bd (fz_X8_copies_27 S_14 (6 : Int32) hS_14) (fun S_17 hS_17 => ?_)
  refine Ep_bd (fz_X8_copies_28 S_17 (6 : Int32) hS_17) (fun S_20 hS_20 => ?_)
  refine Ep_bd (fz_X8_copies_29 S_20 (6 : Int32) hS_20) (fun S_23 hS_23 => ?_)
  refine Ep_bd (fz_X8_copies_30 S_23 (10 : Int32) hS_23) (fun S_26 hS_26 => ?_)
  refine Ep_bd (fz_X8_copies_31 S_26 (10 : Int32) hS_26) (fun S_29 hS_29 => ?_)
  refine Ep_bd (fz_X8_copies_32 S_29 (10 : Int32) hS_29) (fun S_32 hS_32 => ?_)
  refine Ep_bd (fz_X8_copies_33 S_32 (10 : Int32) hS_32) (fun S_35 hS_35 => ?_)
  refine Ep_bd (fz_X8_copies_34 S_35 (21 : Int32) hS_35) (fun S_38 hS_38 => ?_)
  exact fzL_X8_keepText_L139 L 0 S_38 hS_38
set_option maxHeartbeats 1000000 in
set_option maxRecDepth 100000 in
theorem fzJ_X8_feed_J113 {S0 : Tr} (S : Tr) (hS : fk S0 S)   : Ep (fJ_X8_feed_J113 S) (fun q => fk S0 q.2) := by
  unfold fJ_X8_feed_J113
  refine Ep_lt (fun S_4 eS_4 => ?_)
  have hS_4 : fk S0 S_4 := by rw [eS_4]; exact fk_s hS (by omega)
  exact Ep_some hS_4
set_option maxHeartbeats 1000000 in
set_option maxRecDepth 100000 in
theorem fzJ_X8_feed_J76 {S0 : Tr} (k23 : Int32 → Tr → Option (Int32 × Tr)) (x1 : Int32) (x2 : Int32) (x3 : Int32) (x4 : Int32) (x5 : Int32) (x6 : Int32) (s0 : Int32) (S : Tr) (hS : fk S0 S) (hk23 : ∀ (x6 : Int32) (S : Tr), fk S0 S → Ep (k23 x6 S) (fun q => fk S0 q.2))  : Ep (fJ_X8_feed_J76 k23 x1 x2 x3 x4 x5 x6 s0 S) (fun q => fk S0 q.2) := by
  unfold fJ_X8_feed_J76
  refine Ep_ck ?_
  refine Ep_lt (fun S_10 eS_10 => ?_)
  have hS_10 : fk S0 S_10 := by rw [eS_10]; exact fk_s hS (by omega)
  refine Ep_lt (fun y11 ey11 => ?_)
  exact hk23 y11 S_10 hS_10
set_option maxHeartbeats 1000000 in
set_option maxRecDepth 100000 in
theorem fzB_X8_feed_L23 {S0 : Tr} (x1 : Int32) (x2 : Int32) (x3 : Int32) (x4 : Int32) (x5 : Int32)    (N : Nat) : ∀ (x6 : Int32) (S : Tr), fk S0 S → Ep (lpF (fun _ _ => none) (fB_X8_feed_L23 x1 x2 x3 x4 x5) N x6 S) (fun q => fk S0 q.2) := by
  induction N with
  | zero => intro x6 S _; exact Ep_none
  | succ N ih =>
    intro x6 S hS
    show Ep (fB_X8_feed_L23 x1 x2 x3 x4 x5 (lpF (fun _ _ => none) (fB_X8_feed_L23 x1 x2 x3 x4 x5) N) x6 S) _
    have hk23 := ih
    clear ih
    generalize lpF (fun _ _ => none) (fB_X8_feed_L23 x1 x2 x3 x4 x5) N = k23 at hk23 ⊢
    unfold fB_X8_feed_L23
    refine Ep_ite (fun _ => ?_) (fun _ => ?_)
    · exact fzJ_X8_feed_J113 S hS
    · refine Ep_ite (fun _ => ?_) (fun _ => ?_)
      · refine Ep_ite (fun _ => ?_) (fun _ => ?_)
        · refine Ep_ite (fun _ => ?_) (fun _ => ?_)
          · refine Ep_ite (fun _ => ?_) (fun _ => ?_)
            · exact fzJ_X8_feed_J76 k23 x1 x2 x3 x4 x5 x6 x5 S hS hk23
            · exact fzJ_X8_feed_J76 k23 x1 x2 x3 x4 x5 x6 x4 S hS hk23
          · exact fzJ_X8_feed_J76 k23 x1 x2 x3 x4 x5 x6 x3 S hS hk23
        · exact fzJ_X8_feed_J76 k23 x1 x2 x3 x4 x5 x6 x2 S hS hk23
      · exact fzJ_X8_feed_J76 k23 x1 x2 x3 x4 x5 x6 x1 S hS hk23
set_option maxHeartbeats 1000000 in
set_option maxRecDepth 100000 in
theorem fzL_X8_feed_L23 {S0 : Tr} (x1 : Int32) (x2 : Int32) (x3 : Int32) (x4 : Int32) (x5 : Int32)    (x6 : Int32) (S : Tr) (hS : fk S0 S) : Ep (fL_X8_feed_L23 x1 x2 x3 x4 x5 x6 S) (fun q => fk S0 q.2) := by
  unfold fL_X8_feed_L23
  exact fzB_X8_feed_L23 x1 x2 x3 x4 x5 2000 x6 S hS
set_option maxHeartbeats 1000000 in
set_option maxRecDepth 100000 in
theorem fz_X8_feed {S0 : Tr} (S : Tr) (x1 : Int32) (x2 : Int32) (x3 : Int32) (x4 : Int32) (x5 : Int32) (hS : fk S0 S)   : Ep (f_X8_feed S x1 x2 x3 x4 x5) (fun q => fk S0 q.2) := by
  unfold f_X8_feed
  refine Ep_lt (fun S_1 eS_1 => ?_)
  have hS_1 : fk S0 S_1 := by rw [eS_1]; exact fk_s hS (by omega)
  refine Ep_ite (fun _ => ?_) (fun _ => ?_)
  · exact fzL_X8_feed_L23 x1 x2 x3 x4 x5 0 S_1 hS_1
  · exact Ep_some hS_1
-- 62.za.6k5
/-! faults alike -/
def flR (R S : Tr) : Prop := R 0 1 = S 0 4 ∧ R 0 2 = S 0 5
theorem fk_tx {S0 : Tr} (L : Lo) (N : Nat) : ∀ (x2 : Int32) (T : Tr), fk S0 T → Ep (lpF (fun _ _ => none) (fB_X8_text_L55 L) N x2 T) (fun q => ¬ q.1 = -1 → fk S0 q.2.1) := by
  induction N with
  | zero => intro x2 T _; exact Ep_none
  | succ N ih =>
    intro x2 T h
    show Ep (fB_X8_text_L55 L (lpF (fun _ _ => none) (fB_X8_text_L55 L) N) x2 T) _
    generalize lpF (fun _ _ => none) (fB_X8_text_L55 L) N = k at ih ⊢
    unfold fB_X8_text_L55 fJ_X8_text_J77
    refine Ep_ite (fun _ => Ep_bd (fz_X8_keepText T L h) (fun q hq => Ep_some (fun _ => hq))) (fun _ => Ep_bd (fk_line h) (fun q hq => Ep_lt (fun r20 e20 => Ep_lt (fun T1 e1 => Ep_ite (fun _ => Ep_some (fun h9 => absurd rfl h9)) (fun c => Ep_lt (fun y _ => ih y T1 ?_))))))
    have e20 : r20 = q.1 := e20
    have e1 : T1 = q.2 := e1
    rw [e1]; exact hq (by rw [← e20]; exact c)
theorem fk_txt (S8 : Tr) (L : Lo) : Ep (bd (f_X8_plain S8) fun S_9 => bd (f_X8_token S_9) fun S_12 => fL_X8_text_L55 L 0 S_12) (fun q => ¬ q.1 = -1 → fk S8 q.2.1) := Ep_bd (e_plain S8) (fun T hT => Ep_bd (fk_tok (S := S8) (T := T) ⟨hT.2.2.2 0 4 (by omega), hT.2.2.2 0 5 (by omega)⟩) (fun T1 h1 => fk_tx L 2000 0 T1 h1))
theorem iv_txt (K R P : Tr) (x : Int32) : Ep (f_X3_readText K R P x) (fun q => q.2.2.1 0 1 = 0 → q.2.2.1 0 2 = -1) := by
  unfold f_X3_readText
  refine Ep_any (fun P1 => Ep_lt (fun R4 r4 => Ep_lt (fun R5 r5 => Ep_lt (fun R6 r6 => Ep_lt (fun R7 r7 => Ep_lt (fun R8 r8 => Ep_any (fun K1 => ?_)))))))
  refine ivL_X3_readText_L42 0 K1 R8 P1 (fun _ => ?_)
  rw [r8, st_ne (by decide), r7, st_ne (by decide), r6, st_ne (by decide), r5, st_same]
theorem e_flt (pa qa : Nat → Nat) (X K R P2 Tn C Z S : Tr) (L : Lo) (q0 q4 q5 : Nat) (x1 : Int32) (h : relT K S) (hb : 0 ≤ (K 0 0).toInt ∧ (K 0 0).toInt ≤ 700) (hf : flR R S) : E2 (f_X7_text pa qa X K R P2 Tn C Z q0 q4 q5 x1) (f_X8_text S L x1) (fun q q' => flR q.2.2.2.1 q'.2.1) := by
  obtain ⟨⟨t1, t2⟩, hC, hT⟩ := h
  unfold f_X7_text f_X8_text
  refine E2_ltr (fun S1 e1 => ?_)
  have s1 : S1 1 = S 1 := by rw [e1, st_oth (by decide)]
  have s01 : S1 0 1 = K 0 0 := by rw [e1, st_ne (by decide)]; exact t1.symm
  have f1 : flR R S1 := ⟨by rw [e1, st_ne (by decide)]; exact hf.1, by rw [e1, st_ne (by decide)]; exact hf.2⟩
  by_cases c : x1 < 0
  · exact E2_pl c (E2_pr c (E2_some f1))
  · refine E2_ql c (E2_qr c ?_)
    rw [s01]
    have c0 := tq_ltn (b := 0) rfl (by decide) c
    by_cases d : x1 ≤ K 0 0
    · have d0 := tq_le rfl rfl d
      refine E2_pl d (E2_pr d (E2_ckl (fun _ => E2_ltr (fun S4 f4 => E2_ltr (fun S5 f5 => E2_ltr (fun S6 f6 => E2_ltr (fun S7 f7 => E2_ltr (fun S8 f8 => ?_))))))))
      have o8 : ∀ a, ¬ a = 0 → S8 a = S a := fun a ha => by rw [f8, st_oth ha, f7, st_oth ha, f6, st_oth ha, f5, st_oth ha, f4, st_oth ha, e1, st_oth ha]
      have s6 : S8 0 6 = x1 := by rw [f8, st_ne (by decide), f7, st_ne (by decide), f6, st_ne (by decide), f5, st_ne (by decide), f4, st_same]
      have s7 : S8 0 7 = 0 := by rw [f8, st_same]
      have s4 : S8 0 4 = 0 := by rw [f8, st_ne (by decide), f7, st_ne (by decide), f6, st_same]
      have s5 : S8 0 5 = -1 := by rw [f8, st_ne (by decide), f7, st_same]
      have hT8 : wT S8 := fun j hj => by rw [o8 4 (by decide)]; exact hT j hj
      have z := e_rt (K := K) (R := R) (P := P2) (S8 := S8) (L := L) (x1 := x1) hC hT8 c0 (by omega) s6 s7 (fun j hj => by rw [o8 1 (by decide)]; exact t2 j (by omega))
      intro A B ea eb
      obtain ⟨v, v1, v2⟩ := tx_bd ea
      have hi := iv_txt K R P2 x1 v v1
      obtain ⟨r, K5, R6, P7⟩ := v
      have hiR : R6 0 1 = 0 → R6 0 2 = -1 := hi
      have hq := z (r, K5, R6, P7) B v1 eb
      have hk := fk_txt S8 L B eb
      have v2 : (if r = 0 then (some ((-1 : Int32), X, st K5 0 0 0, R6, P7, Tn, C, Z, q0, q4, qa 0)) else (bd (f_X6_begin qa Tn P7 q0) fun q => lt q.1 fun Tn_12 => lt q.2 fun q0_13 => lt (st X 0 4 0) fun X_16 => lt (st C 0 0 0) fun C_17 => bd (f_X4_forget_x pa qa Z) fun Z_18 => some ((R6 0 3), X_16, st K5 0 0 0, R6, P7, Tn_12, C_17, Z_18, q0_13, qa 0, q4))) = some A := v2
      have hq : (r = 0 ∧ B.1 = -1 ∧ flt R6 B.2.1 ∧ frK (st (st K 0 6 x1) 0 7 0) K5) ∨ (r = 1 ∧ ∃ T0, f_X8_keepText T0 L = some B.2 ∧ RD R6 P7 T0 ∧ R6 0 1 = 0 ∧ R6 0 3 = B.1 ∧ 0 ≤ B.1.toInt ∧ frK (st (st K 0 6 x1) 0 7 0) K5) := hq
      rcases hq with ⟨rfl, u1, u2, u3⟩ | ⟨rfl, T0, u1, u2, u3, u4, u5, u6⟩
      · rw [if_pos rfl] at v2
        have v2 := tx_1 v2
        subst v2
        exact ⟨u2.1, u2.2.1⟩
      · rw [if_neg (by decide)] at v2
        obtain ⟨w1, _, w2⟩ := tx_bd v2
        have w2 : bd (f_X4_forget_x pa qa Z) (fun Z_18 => some ((R6 0 3), st X 0 4 0, st K5 0 0 0, R6, P7, w1.1, st C 0 0 0, Z_18, w1.2, qa 0, q4)) = some A := w2
        obtain ⟨w3, _, w4⟩ := tx_bd w2
        have w4 := tx_1 w4
        subst w4
        have hk := hk (fun e => by rw [e] at u5; exact absurd u5 (by decide))
        exact ⟨by show R6 0 1 = B.2.1 0 4; rw [u3, hk.1, s4], by show R6 0 2 = B.2.1 0 5; rw [hiR u3, hk.2, s5]⟩
    · exact E2_ql d (E2_qr d (E2_some f1))
-- 62.za.7k6
/-! what has been read is kept: the kept rows after keepText -/
def kfT (S S1 : Tr) : Prop := ∀ a j, (a = 0 ∧ 12 ≤ j ∧ j ≤ 15) ∨ (23 ≤ a ∧ a ≤ 41) → S1 a j = S a j
theorem kfT_r {S : Tr} : kfT S S := fun _ _ _ => rfl
theorem kfT_t {S S1 S2 : Tr} (h1 : kfT S S1) (h2 : kfT S1 S2) : kfT S S2 := fun a j q => (h2 a j q).trans (h1 a j q)
theorem kfT_s {S0 S : Tr} {a i : Nat} {v : Int32} (h : kfT S0 S) (hn : ¬ ((a = 0 ∧ 12 ≤ i ∧ i ≤ 15) ∨ (23 ≤ a ∧ a ≤ 41))) : kfT S0 (st S a i v) := fun b j hb => by
  rw [st_no (fun e => by omega)]; exact h b j hb

set_option maxHeartbeats 1000000 in
set_option maxRecDepth 100000 in
theorem kbJ_X8_atFirst_J134 {S0 : Tr} (x1 : Int32) (S : Tr) (hS : kfT S0 S)   : Ep (fJ_X8_atFirst_J134 x1 S) (fun q => kfT S0 q) := by
  unfold fJ_X8_atFirst_J134
  refine Ep_ck ?_
  refine Ep_lt (fun S_5 eS_5 => ?_)
  have hS_5 : kfT S0 S_5 := by rw [eS_5]; exact kfT_s hS (by omega)
  refine Ep_lt (fun S_6 eS_6 => ?_)
  have hS_6 : kfT S0 S_6 := by rw [eS_6]; exact kfT_s hS_5 (by omega)
  refine Ep_lt (fun S_7 eS_7 => ?_)
  have hS_7 : kfT S0 S_7 := by rw [eS_7]; exact kfT_s hS_6 (by omega)
  exact Ep_some hS_7
set_option maxHeartbeats 1000000 in
set_option maxRecDepth 100000 in
theorem kbB_X8_atFirst_L64 {S0 : Tr} (x1 : Int32)    (N : Nat) : ∀ (x2 : Int32) (S : Tr), kfT S0 S → Ep (lpF (fun _ _ => none) (fB_X8_atFirst_L64 x1) N x2 S) (fun q => kfT S0 q) := by
  induction N with
  | zero => intro x2 S _; exact Ep_none
  | succ N ih =>
    intro x2 S hS
    show Ep (fB_X8_atFirst_L64 x1 (lpF (fun _ _ => none) (fB_X8_atFirst_L64 x1) N) x2 S) _
    have hk64 := ih
    clear ih
    generalize lpF (fun _ _ => none) (fB_X8_atFirst_L64 x1) N = k64 at hk64 ⊢
    unfold fB_X8_atFirst_L64
    refine Ep_ite (fun _ => ?_) (fun _ => ?_)
    · exact kbJ_X8_atFirst_J134 x1 S hS
    · refine Ep_ck ?_
      refine Ep_ck ?_
      refine Ep_lt (fun S_10 eS_10 => ?_)
      have hS_10 : kfT S0 S_10 := by rw [eS_10]; exact kfT_s hS (by omega)
      refine Ep_lt (fun S_11 eS_11 => ?_)
      have hS_11 : kfT S0 S_11 := by rw [eS_11]; exact kfT_s hS_10 (by omega)
      refine Ep_lt (fun S_12 eS_12 => ?_)
      have hS_12 : kfT S0 S_12 := by rw [eS_12]; exact kfT_s hS_11 (by omega)
      refine Ep_lt (fun S_13 eS_13 => ?_)
      have hS_13 : kfT S0 S_13 := by rw [eS_13]; exact kfT_s hS_12 (by omega)
      refine Ep_lt (fun y14 ey14 => ?_)
      exact hk64 y14 S_13 hS_13
set_option maxHeartbeats 1000000 in
set_option maxRecDepth 100000 in
theorem kbL_X8_atFirst_L64 {S0 : Tr} (x1 : Int32)    (x2 : Int32) (S : Tr) (hS : kfT S0 S) : Ep (fL_X8_atFirst_L64 x1 x2 S) (fun q => kfT S0 q) := by
  unfold fL_X8_atFirst_L64
  exact kbB_X8_atFirst_L64 x1 2000 x2 S hS
set_option maxHeartbeats 1000000 in
set_option maxRecDepth 100000 in
theorem kbB_X8_atFirst_L40 {S0 : Tr} (x1 : Int32)    (N : Nat) : ∀ (x2 : Int32) (S : Tr), kfT S0 S → Ep (lpF (fun _ _ => none) (fB_X8_atFirst_L40 x1) N x2 S) (fun q => kfT S0 q) := by
  induction N with
  | zero => intro x2 S _; exact Ep_none
  | succ N ih =>
    intro x2 S hS
    show Ep (fB_X8_atFirst_L40 x1 (lpF (fun _ _ => none) (fB_X8_atFirst_L40 x1) N) x2 S) _
    have hk40 := ih
    clear ih
    generalize lpF (fun _ _ => none) (fB_X8_atFirst_L40 x1) N = k40 at hk40 ⊢
    unfold fB_X8_atFirst_L40
    refine Ep_ite (fun _ => ?_) (fun _ => ?_)
    · exact kbL_X8_atFirst_L64 x1 0 S hS
    · refine Ep_ck ?_
      refine Ep_lt (fun S_16 eS_16 => ?_)
      have hS_16 : kfT S0 S_16 := by rw [eS_16]; exact kfT_s hS (by omega)
      refine Ep_lt (fun y17 ey17 => ?_)
      exact hk40 y17 S_16 hS_16
set_option maxHeartbeats 1000000 in
set_option maxRecDepth 100000 in
theorem kbL_X8_atFirst_L40 {S0 : Tr} (x1 : Int32)    (x2 : Int32) (S : Tr) (hS : kfT S0 S) : Ep (fL_X8_atFirst_L40 x1 x2 S) (fun q => kfT S0 q) := by
  unfold fL_X8_atFirst_L40
  exact kbB_X8_atFirst_L40 x1 2000 x2 S hS
set_option maxHeartbeats 1000000 in
set_option maxRecDepth 100000 in
theorem kbB_X8_atFirst_L2 {S0 : Tr} (x1 : Int32)    (N : Nat) : ∀ (x2 : Int32) (S : Tr), kfT S0 S → Ep (lpF (fun _ _ => none) (fB_X8_atFirst_L2 x1) N x2 S) (fun q => kfT S0 q) := by
  induction N with
  | zero => intro x2 S _; exact Ep_none
  | succ N ih =>
    intro x2 S hS
    show Ep (fB_X8_atFirst_L2 x1 (lpF (fun _ _ => none) (fB_X8_atFirst_L2 x1) N) x2 S) _
    have hk2 := ih
    clear ih
    generalize lpF (fun _ _ => none) (fB_X8_atFirst_L2 x1) N = k2 at hk2 ⊢
    unfold fB_X8_atFirst_L2
    refine Ep_ite (fun _ => ?_) (fun _ => ?_)
    · exact kbL_X8_atFirst_L40 x1 0 S hS
    · refine Ep_ck ?_
      refine Ep_lt (fun S_19 eS_19 => ?_)
      have hS_19 : kfT S0 S_19 := by rw [eS_19]; exact kfT_s hS (by omega)
      refine Ep_lt (fun S_20 eS_20 => ?_)
      have hS_20 : kfT S0 S_20 := by rw [eS_20]; exact kfT_s hS_19 (by omega)
      refine Ep_lt (fun y21 ey21 => ?_)
      exact hk2 y21 S_20 hS_20
set_option maxHeartbeats 1000000 in
set_option maxRecDepth 100000 in
theorem kbL_X8_atFirst_L2 {S0 : Tr} (x1 : Int32)    (x2 : Int32) (S : Tr) (hS : kfT S0 S) : Ep (fL_X8_atFirst_L2 x1 x2 S) (fun q => kfT S0 q) := by
  unfold fL_X8_atFirst_L2
  exact kbB_X8_atFirst_L2 x1 2000 x2 S hS
set_option maxHeartbeats 1000000 in
set_option maxRecDepth 100000 in
theorem kb_X8_atFirst {S0 : Tr} (S : Tr) (x1 : Int32) (hS : kfT S0 S)   : Ep (f_X8_atFirst S x1) (fun q => kfT S0 q) := by
  unfold f_X8_atFirst
  exact kbL_X8_atFirst_L2 x1 0 S hS
set_option maxHeartbeats 1000000 in
set_option maxRecDepth 100000 in
theorem kbB_X8_plainTried_L42 {S0 : Tr}     (N : Nat) : ∀ (x1 : Int32) (S : Tr), kfT S0 S → Ep (lpF (fun _ _ => none) (fB_X8_plainTried_L42) N x1 S) (fun q => kfT S0 q) := by
  induction N with
  | zero => intro x1 S _; exact Ep_none
  | succ N ih =>
    intro x1 S hS
    show Ep (fB_X8_plainTried_L42 (lpF (fun _ _ => none) (fB_X8_plainTried_L42) N) x1 S) _
    have hk42 := ih
    clear ih
    generalize lpF (fun _ _ => none) (fB_X8_plainTried_L42) N = k42 at hk42 ⊢
    unfold fB_X8_plainTried_L42
    refine Ep_ite (fun _ => ?_) (fun _ => ?_)
    · exact Ep_some hS
    · refine Ep_ck ?_
      refine Ep_lt (fun S_10 eS_10 => ?_)
      have hS_10 : kfT S0 S_10 := by rw [eS_10]; exact kfT_s hS (by omega)
      refine Ep_lt (fun y11 ey11 => ?_)
      exact hk42 y11 S_10 hS_10
set_option maxHeartbeats 1000000 in
set_option maxRecDepth 100000 in
theorem kbL_X8_plainTried_L42 {S0 : Tr}     (x1 : Int32) (S : Tr) (hS : kfT S0 S) : Ep (fL_X8_plainTried_L42 x1 S) (fun q => kfT S0 q) := by
  unfold fL_X8_plainTried_L42
  exact kbB_X8_plainTried_L42 2000 x1 S hS
set_option maxHeartbeats 1000000 in
set_option maxRecDepth 100000 in
theorem kb_X8_plainTried {S0 : Tr} (S : Tr) (hS : kfT S0 S)   : Ep (f_X8_plainTried S) (fun q => kfT S0 q) := by
  unfold f_X8_plainTried
  refine Ep_lt (fun S_1 eS_1 => ?_)
  have hS_1 : kfT S0 S_1 := by rw [eS_1]; exact kfT_s hS (by omega)
  refine Ep_lt (fun S_2 eS_2 => ?_)
  have hS_2 : kfT S0 S_2 := by rw [eS_2]; exact kfT_s hS_1 (by omega)
  refine Ep_lt (fun S_3 eS_3 => ?_)
  have hS_3 : kfT S0 S_3 := by rw [eS_3]; exact kfT_s hS_2 (by omega)
  refine Ep_lt (fun S_4 eS_4 => ?_)
  have hS_4 : kfT S0 S_4 := by rw [eS_4]; exact kfT_s hS_3 (by omega)
  refine Ep_lt (fun S_5 eS_5 => ?_)
  have hS_5 : kfT S0 S_5 := by rw [eS_5]; exact kfT_s hS_4 (by omega)
  refine Ep_lt (fun S_6 eS_6 => ?_)
  have hS_6 : kfT S0 S_6 := by rw [eS_6]; exact kfT_s hS_5 (by omega)
  refine Ep_lt (fun S_7 eS_7 => ?_)
  have hS_7 : kfT S0 S_7 := by rw [eS_7]; exact kfT_s hS_6 (by omega)
  exact kbL_X8_plainTried_L42 0 S_7 hS_7
set_option maxHeartbeats 1000000 in
set_option maxRecDepth 100000 in
theorem kb_X8_begin {S0 : Tr} (S : Tr) (L : Lo) (hS : kfT S0 S)   : Ep (f_X8_begin S L) (fun q => kfT S0 q.1) := by
  unfold f_X8_begin
  refine Ep_bd (kb_X8_atFirst S (0 : Int32) hS) (fun S_1 hS_1 => ?_)
  refine Ep_lt (fun L_4 eL_4 => ?_)
  refine Ep_bd (kb_X8_plainTried S_1 hS_1) (fun S_5 hS_5 => ?_)
  refine Ep_lt (fun S_8 eS_8 => ?_)
  have hS_8 : kfT S0 S_8 := by rw [eS_8]; exact kfT_s hS_5 (by omega)
  refine Ep_lt (fun S_9 eS_9 => ?_)
  have hS_9 : kfT S0 S_9 := by rw [eS_9]; exact kfT_s hS_8 (by omega)
  refine Ep_lt (fun S_10 eS_10 => ?_)
  have hS_10 : kfT S0 S_10 := by rw [eS_10]; exact kfT_s hS_9 (by omega)
  refine Ep_lt (fun S_11 eS_11 => ?_)
  have hS_11 : kfT S0 S_11 := by rw [eS_11]; exact kfT_s hS_10 (by omega)
  exact Ep_some hS_11
set_option maxHeartbeats 1000000 in
set_option maxRecDepth 100000 in
theorem kbJ_X8_feed_J113 {S0 : Tr} (S : Tr) (hS : kfT S0 S)   : Ep (fJ_X8_feed_J113 S) (fun q => kfT S0 q.2) := by
  unfold fJ_X8_feed_J113
  refine Ep_lt (fun S_4 eS_4 => ?_)
  have hS_4 : kfT S0 S_4 := by rw [eS_4]; exact kfT_s hS (by omega)
  exact Ep_some hS_4
set_option maxHeartbeats 1000000 in
set_option maxRecDepth 100000 in
theorem kbJ_X8_feed_J76 {S0 : Tr} (k23 : Int32 → Tr → Option (Int32 × Tr)) (x1 : Int32) (x2 : Int32) (x3 : Int32) (x4 : Int32) (x5 : Int32) (x6 : Int32) (s0 : Int32) (S : Tr) (hS : kfT S0 S) (hk23 : ∀ (x6 : Int32) (S : Tr), kfT S0 S → Ep (k23 x6 S) (fun q => kfT S0 q.2))  : Ep (fJ_X8_feed_J76 k23 x1 x2 x3 x4 x5 x6 s0 S) (fun q => kfT S0 q.2) := by
  unfold fJ_X8_feed_J76
  refine Ep_ck ?_
  refine Ep_lt (fun S_10 eS_10 => ?_)
  have hS_10 : kfT S0 S_10 := by rw [eS_10]; exact kfT_s hS (by omega)
  refine Ep_lt (fun y11 ey11 => ?_)
  exact hk23 y11 S_10 hS_10
set_option maxHeartbeats 1000000 in
set_option maxRecDepth 100000 in
theorem kbB_X8_feed_L23 {S0 : Tr} (x1 : Int32) (x2 : Int32) (x3 : Int32) (x4 : Int32) (x5 : Int32)    (N : Nat) : ∀ (x6 : Int32) (S : Tr), kfT S0 S → Ep (lpF (fun _ _ => none) (fB_X8_feed_L23 x1 x2 x3 x4 x5) N x6 S) (fun q => kfT S0 q.2) := by
  induction N with
  | zero => intro x6 S _; exact Ep_none
  | succ N ih =>
    intro x6 S hS
    show Ep (fB_X8_feed_L23 x1 x2 x3 x4 x5 (lpF (fun _ _ => none) (fB_X8_feed_L23 x1 x2 x3 x4 x5) N) x6 S) _
    have hk23 := ih
    clear ih
    generalize lpF (fun _ _ => none) (fB_X8_feed_L23 x1 x2 x3 x4 x5) N = k23 at hk23 ⊢
    unfold fB_X8_feed_L23
    refine Ep_ite (fun _ => ?_) (fun _ => ?_)
    · exact kbJ_X8_feed_J113 S hS
    · refine Ep_ite (fun _ => ?_) (fun _ => ?_)
      · refine Ep_ite (fun _ => ?_) (fun _ => ?_)
        · refine Ep_ite (fun _ => ?_) (fun _ => ?_)
          · refine Ep_ite (fun _ => ?_) (fun _ => ?_)
            · exact kbJ_X8_feed_J76 k23 x1 x2 x3 x4 x5 x6 x5 S hS hk23
            · exact kbJ_X8_feed_J76 k23 x1 x2 x3 x4 x5 x6 x4 S hS hk23
          · exact kbJ_X8_feed_J76 k23 x1 x2 x3 x4 x5 x6 x3 S hS hk23
        · exact kbJ_X8_feed_J76 k23 x1 x2 x3 x4 x5 x6 x2 S hS hk23
      · exact kbJ_X8_feed_J76 k23 x1 x2 x3 x4 x5 x6 x1 S hS hk23
set_option maxHeartbeats 1000000 in
set_option maxRecDepth 100000 in
theorem kbL_X8_feed_L23 {S0 : Tr} (x1 : Int32) (x2 : Int32) (x3 : Int32) (x4 : Int32) (x5 : Int32)    (x6 : Int32) (S : Tr) (hS : kfT S0 S) : Ep (fL_X8_feed_L23 x1 x2 x3 x4 x5 x6 S) (fun q => kfT S0 q.2) := by
  unfold fL_X8_feed_L23
  exact kbB_X8_feed_L23 x1 x2 x3 x4 x5 2000 x6 S hS
set_option maxHeartbeats 1000000 in
set_option maxRecDepth 100000 in
theorem kb_X8_feed {S0 : Tr} (S : Tr) (x1 : Int32) (x2 : Int32) (x3 : Int32) (x4 : Int32) (x5 : Int32) (hS : kfT S0 S)   : Ep (f_X8_feed S x1 x2 x3 x4 x5) (fun q => kfT S0 q.2) := by
  unfold f_X8_feed
  refine Ep_lt (fun S_1 eS_1 => ?_)
  have hS_1 : kfT S0 S_1 := by rw [eS_1]; exact kfT_s hS (by omega)
  refine Ep_ite (fun _ => ?_) (fun _ => ?_)
  · exact kbL_X8_feed_L23 x1 x2 x3 x4 x5 0 S_1 hS_1
  · exact Ep_some hS_1

theorem ke_139 (L : Lo) (S : Tr) {Q : Tr × Lo → Prop} (hE : ∀ T, bcp S T → Ep (fJ_X8_keepText_J164 T L) Q) (N : Nat) : ∀ (x1 : Int32) (T : Tr), 0 ≤ x1.toInt → x1.toInt ≤ 3 → (∀ w : Nat, (w : Int) < x1.toInt → T 36 w = vp_nar .boolean (S 36 (3 + w))) → (∀ (c j : Nat), ¬ (c = 36 ∧ (j : Int) < x1.toInt) → T c j = S c j) → Ep (lpF (fun _ _ => none) (fB_X8_keepText_L139 L) N x1 T) Q := by
  induction N with
  | zero => intro x1 T h1 h2 h4 h5; exact Ep_none
  | succ N ih =>
    intro x1 T h1 h2 h4 h5
    show Ep (fB_X8_keepText_L139 L (lpF (fun _ _ => none) (fB_X8_keepText_L139 L) N) x1 T) _
    generalize lpF (fun _ _ => none) (fB_X8_keepText_L139 L) N = k at ih ⊢
    unfold fB_X8_keepText_L139
    refine Ep_ite (fun c => ?_) (fun c => ?_)
    · have k1 := tq_le (x := (3 : Int32)) (y := x1) (a := 3) (by decide) rfl c
      exact hE T ⟨fun w hw => h4 w (by omega), fun c j q => h5 c j (fun g => q ⟨g.1, by omega⟩)⟩
    · have k1 := tq_len (x := (3 : Int32)) (y := x1) (a := 3) (by decide) rfl c
      have e1 : ((3 : Int32) + x1).toInt = 3 + x1.toInt := i_addK (by decide) rfl (by omega) (by omega)
      have c1 : ((3 : Int32) + x1).toNatClampNeg = 3 + x1.toInt.toNat := by simp only [i_cl]; omega
      have c2 : x1.toNatClampNeg = x1.toInt.toNat := rfl
      refine Ep_ck (Ep_ck (Ep_lt (fun T1 e => Ep_lt (fun y ey => ?_))))
      rw [c1, c2] at e
      have e2 : y.toInt = x1.toInt + 1 := by rw [ey]; exact i_addK rfl (by decide) (by omega) (by omega)
      refine ih y T1 (by omega) (by omega) (fun j hj => ?_) (fun c j q => ?_)
      · rw [e]
        by_cases hz : j = x1.toInt.toNat
        · subst hz; rw [st_same, h5 36 (3 + x1.toInt.toNat) (fun g => by omega)]
        · rw [st_ne hz]; exact h4 j (by omega)
      · rw [e]
        rcases st_or (S := T) (a := 36) (i := x1.toInt.toNat) (b := c) (j := j) (v := vp_nar .boolean (T 36 (3 + x1.toInt.toNat))) with g | ⟨g1, g2⟩
        · rw [g]; exact h5 c j (fun g => q ⟨g.1, by omega⟩)
        · exact absurd ⟨g1, by omega⟩ q
def KT (T S1 : Tr) : Prop := (∀ j, 12 ≤ j → j ≤ 15 → S1 0 j = T 0 (j + 4)) ∧ (∀ j, j < 3 → S1 23 j = T 23 (3 + j)) ∧ (∀ j, j < 5 → S1 24 j = T 24 (5 + j)) ∧ (∀ j, j < 5 → S1 25 j = T 25 (5 + j)) ∧ (∀ j, j < 6 → S1 26 j = T 26 (6 + j)) ∧ (∀ j, j < 6 → S1 27 j = T 27 (6 + j)) ∧ (∀ j, j < 6 → S1 28 j = T 28 (6 + j)) ∧ (∀ j, j < 6 → S1 29 j = T 29 (6 + j)) ∧ (∀ j, j < 10 → S1 30 j = T 30 (10 + j)) ∧ (∀ j, j < 10 → S1 31 j = T 31 (10 + j)) ∧ (∀ j, j < 10 → S1 32 j = T 32 (10 + j)) ∧ (∀ j, j < 10 → S1 33 j = T 33 (10 + j)) ∧ (∀ j, j < 21 → S1 34 j = T 34 (21 + j)) ∧ (∀ w, w < 3 → S1 36 w = vp_nar .boolean (T 36 (3 + w))) ∧ (∀ j, j < 3 → S1 37 j = T 37 (3 + j)) ∧ (∀ j, j < 3 → S1 38 j = T 38 (3 + j)) ∧ (∀ j, j < 64 → S1 39 j = T 39 (64 + j)) ∧ (∀ j, j < 64 → S1 40 j = T 40 (64 + j)) ∧ (∀ j, j < 64 → S1 41 j = T 41 (64 + j))
theorem k_keepText (T : Tr) (L : Lo) : Ep (f_X8_keepText T L) (fun q => KT T q.1) := by
  unfold f_X8_keepText
  refine Ep_lt (fun S1 e1 => Ep_lt (fun S2 e2 => Ep_lt (fun S3 e3 => Ep_lt (fun S4 e4 => ?_))))
  have o4 : ∀ a, ¬ a = 0 → S4 a = T a := fun a ha => by rw [e4, st_oth ha, e3, st_oth ha, e2, st_oth ha, e1, st_oth ha]
  have z12 : S4 0 12 = T 0 16 := by rw [e4, st_ne (by decide), e3, st_ne (by decide), e2, st_ne (by decide), e1, st_same]
  have z13 : S4 0 13 = T 0 17 := by rw [e4, st_ne (by decide), e3, st_ne (by decide), e2, st_same, e1, st_ne (by decide)]
  have z14 : S4 0 14 = T 0 18 := by rw [e4, st_ne (by decide), e3, st_same, e2, st_ne (by decide), e1, st_ne (by decide)]
  have z15 : S4 0 15 = T 0 19 := by rw [e4, st_same, e3, st_ne (by decide), e2, st_ne (by decide), e1, st_ne (by decide)]
  refine Ep_bd (D_to (r_cp_23 S4)) (fun T23 h23 => ?_)
  refine Ep_bd (D_to (r_cp_24 T23)) (fun T24 h24 => ?_)
  refine Ep_bd (D_to (r_cp_25 T24)) (fun T25 h25 => ?_)
  refine Ep_bd (D_to (r_cp_26 T25)) (fun T26 h26 => ?_)
  refine Ep_bd (D_to (r_cp_27 T26)) (fun T27 h27 => ?_)
  refine Ep_bd (D_to (r_cp_28 T27)) (fun T28 h28 => ?_)
  refine Ep_bd (D_to (r_cp_29 T28)) (fun T29 h29 => ?_)
  refine Ep_bd (D_to (r_cp_30 T29)) (fun T30 h30 => ?_)
  refine Ep_bd (D_to (r_cp_31 T30)) (fun T31 h31 => ?_)
  refine Ep_bd (D_to (r_cp_32 T31)) (fun T32 h32 => ?_)
  refine Ep_bd (D_to (r_cp_33 T32)) (fun T33 h33 => ?_)
  refine Ep_bd (D_to (r_cp_34 T33)) (fun T34 h34 => ?_)
  refine ke_139 L T34 (fun T36 h36 => ?_) 2000 0 T34 (by decide) (by decide) (fun j hj => absurd hj (by rw [show (0 : Int32).toInt = 0 by decide]; omega)) (fun _ _ _ => rfl)
  unfold fJ_X8_keepText_J164
  refine Ep_bd (D_to (r_cp_37 T36)) (fun T37 h37 => ?_)
  refine Ep_bd (D_to (r_cp_38 T37)) (fun T38 h38 => ?_)
  refine Ep_bd (D_to (r_cp_39 T38)) (fun T39 h39 => ?_)
  refine Ep_bd (D_to (r_cp_40 T39)) (fun T40 h40 => ?_)
  refine Ep_bd (D_to (r_cp_41 T40)) (fun T41 h41 => ?_)
  refine Ep_bd (kb_X8_begin T41 L kfT_r) (fun q hq => Ep_lt (fun S57 e57 => Ep_lt (fun L58 _ => Ep_some ?_)))
  have hq : kfT T41 S57 := by rw [e57]; exact hq
  have z0 : T41 0 = S4 0 := by rw [cpf h41 (by decide), cpf h40 (by decide), cpf h39 (by decide), cpf h38 (by decide), cpf h37 (by decide), bcf h36 (by decide), cpf h34 (by decide), cpf h33 (by decide), cpf h32 (by decide), cpf h31 (by decide), cpf h30 (by decide), cpf h29 (by decide), cpf h28 (by decide), cpf h27 (by decide), cpf h26 (by decide), cpf h25 (by decide), cpf h24 (by decide), cpf h23 (by decide)]
  refine ⟨fun j h1 h2 => ?_, ?_, ?_, ?_, ?_, ?_, ?_, ?_, ?_, ?_, ?_, ?_, ?_, ?_, ?_, ?_, ?_, ?_, ?_⟩
  · show S57 0 j = T 0 (j + 4)
    rw [hq 0 j (by omega), z0]
    rcases (by omega : j = 12 ∨ j = 13 ∨ j = 14 ∨ j = 15) with rfl | rfl | rfl | rfl
    · exact z12
    · exact z13
    · exact z14
    · exact z15
  · intro j hj
    have v : T41 23 = T23 23 := by rw [cpf h41 (by decide), cpf h40 (by decide), cpf h39 (by decide), cpf h38 (by decide), cpf h37 (by decide), bcf h36 (by decide), cpf h34 (by decide), cpf h33 (by decide), cpf h32 (by decide), cpf h31 (by decide), cpf h30 (by decide), cpf h29 (by decide), cpf h28 (by decide), cpf h27 (by decide), cpf h26 (by decide), cpf h25 (by decide), cpf h24 (by decide)]
    have u : S4 23 = T 23 := by rw [o4 23 (by decide)]
    show S57 23 j = _
    rw [hq 23 j (by omega), v, h23.1 j hj, u]
  · intro j hj
    have v : T41 24 = T24 24 := by rw [cpf h41 (by decide), cpf h40 (by decide), cpf h39 (by decide), cpf h38 (by decide), cpf h37 (by decide), bcf h36 (by decide), cpf h34 (by decide), cpf h33 (by decide), cpf h32 (by decide), cpf h31 (by decide), cpf h30 (by decide), cpf h29 (by decide), cpf h28 (by decide), cpf h27 (by decide), cpf h26 (by decide), cpf h25 (by decide)]
    have u : T23 24 = T 24 := by rw [cpf h23 (by decide), o4 24 (by decide)]
    show S57 24 j = _
    rw [hq 24 j (by omega), v, h24.1 j hj, u]
  · intro j hj
    have v : T41 25 = T25 25 := by rw [cpf h41 (by decide), cpf h40 (by decide), cpf h39 (by decide), cpf h38 (by decide), cpf h37 (by decide), bcf h36 (by decide), cpf h34 (by decide), cpf h33 (by decide), cpf h32 (by decide), cpf h31 (by decide), cpf h30 (by decide), cpf h29 (by decide), cpf h28 (by decide), cpf h27 (by decide), cpf h26 (by decide)]
    have u : T24 25 = T 25 := by rw [cpf h24 (by decide), cpf h23 (by decide), o4 25 (by decide)]
    show S57 25 j = _
    rw [hq 25 j (by omega), v, h25.1 j hj, u]
  · intro j hj
    have v : T41 26 = T26 26 := by rw [cpf h41 (by decide), cpf h40 (by decide), cpf h39 (by decide), cpf h38 (by decide), cpf h37 (by decide), bcf h36 (by decide), cpf h34 (by decide), cpf h33 (by decide), cpf h32 (by decide), cpf h31 (by decide), cpf h30 (by decide), cpf h29 (by decide), cpf h28 (by decide), cpf h27 (by decide)]
    have u : T25 26 = T 26 := by rw [cpf h25 (by decide), cpf h24 (by decide), cpf h23 (by decide), o4 26 (by decide)]
    show S57 26 j = _
    rw [hq 26 j (by omega), v, h26.1 j hj, u]
  · intro j hj
    have v : T41 27 = T27 27 := by rw [cpf h41 (by decide), cpf h40 (by decide), cpf h39 (by decide), cpf h38 (by decide), cpf h37 (by decide), bcf h36 (by decide), cpf h34 (by decide), cpf h33 (by decide), cpf h32 (by decide), cpf h31 (by decide), cpf h30 (by decide), cpf h29 (by decide), cpf h28 (by decide)]
    have u : T26 27 = T 27 := by rw [cpf h26 (by decide), cpf h25 (by decide), cpf h24 (by decide), cpf h23 (by decide), o4 27 (by decide)]
    show S57 27 j = _
    rw [hq 27 j (by omega), v, h27.1 j hj, u]
  · intro j hj
    have v : T41 28 = T28 28 := by rw [cpf h41 (by decide), cpf h40 (by decide), cpf h39 (by decide), cpf h38 (by decide), cpf h37 (by decide), bcf h36 (by decide), cpf h34 (by decide), cpf h33 (by decide), cpf h32 (by decide), cpf h31 (by decide), cpf h30 (by decide), cpf h29 (by decide)]
    have u : T27 28 = T 28 := by rw [cpf h27 (by decide), cpf h26 (by decide), cpf h25 (by decide), cpf h24 (by decide), cpf h23 (by decide), o4 28 (by decide)]
    show S57 28 j = _
    rw [hq 28 j (by omega), v, h28.1 j hj, u]
  · intro j hj
    have v : T41 29 = T29 29 := by rw [cpf h41 (by decide), cpf h40 (by decide), cpf h39 (by decide), cpf h38 (by decide), cpf h37 (by decide), bcf h36 (by decide), cpf h34 (by decide), cpf h33 (by decide), cpf h32 (by decide), cpf h31 (by decide), cpf h30 (by decide)]
    have u : T28 29 = T 29 := by rw [cpf h28 (by decide), cpf h27 (by decide), cpf h26 (by decide), cpf h25 (by decide), cpf h24 (by decide), cpf h23 (by decide), o4 29 (by decide)]
    show S57 29 j = _
    rw [hq 29 j (by omega), v, h29.1 j hj, u]
  · intro j hj
    have v : T41 30 = T30 30 := by rw [cpf h41 (by decide), cpf h40 (by decide), cpf h39 (by decide), cpf h38 (by decide), cpf h37 (by decide), bcf h36 (by decide), cpf h34 (by decide), cpf h33 (by decide), cpf h32 (by decide), cpf h31 (by decide)]
    have u : T29 30 = T 30 := by rw [cpf h29 (by decide), cpf h28 (by decide), cpf h27 (by decide), cpf h26 (by decide), cpf h25 (by decide), cpf h24 (by decide), cpf h23 (by decide), o4 30 (by decide)]
    show S57 30 j = _
    rw [hq 30 j (by omega), v, h30.1 j hj, u]
  · intro j hj
    have v : T41 31 = T31 31 := by rw [cpf h41 (by decide), cpf h40 (by decide), cpf h39 (by decide), cpf h38 (by decide), cpf h37 (by decide), bcf h36 (by decide), cpf h34 (by decide), cpf h33 (by decide), cpf h32 (by decide)]
    have u : T30 31 = T 31 := by rw [cpf h30 (by decide), cpf h29 (by decide), cpf h28 (by decide), cpf h27 (by decide), cpf h26 (by decide), cpf h25 (by decide), cpf h24 (by decide), cpf h23 (by decide), o4 31 (by decide)]
    show S57 31 j = _
    rw [hq 31 j (by omega), v, h31.1 j hj, u]
  · intro j hj
    have v : T41 32 = T32 32 := by rw [cpf h41 (by decide), cpf h40 (by decide), cpf h39 (by decide), cpf h38 (by decide), cpf h37 (by decide), bcf h36 (by decide), cpf h34 (by decide), cpf h33 (by decide)]
    have u : T31 32 = T 32 := by rw [cpf h31 (by decide), cpf h30 (by decide), cpf h29 (by decide), cpf h28 (by decide), cpf h27 (by decide), cpf h26 (by decide), cpf h25 (by decide), cpf h24 (by decide), cpf h23 (by decide), o4 32 (by decide)]
    show S57 32 j = _
    rw [hq 32 j (by omega), v, h32.1 j hj, u]
  · intro j hj
    have v : T41 33 = T33 33 := by rw [cpf h41 (by decide), cpf h40 (by decide), cpf h39 (by decide), cpf h38 (by decide), cpf h37 (by decide), bcf h36 (by decide), cpf h34 (by decide)]
    have u : T32 33 = T 33 := by rw [cpf h32 (by decide), cpf h31 (by decide), cpf h30 (by decide), cpf h29 (by decide), cpf h28 (by decide), cpf h27 (by decide), cpf h26 (by decide), cpf h25 (by decide), cpf h24 (by decide), cpf h23 (by decide), o4 33 (by decide)]
    show S57 33 j = _
    rw [hq 33 j (by omega), v, h33.1 j hj, u]
  · intro j hj
    have v : T41 34 = T34 34 := by rw [cpf h41 (by decide), cpf h40 (by decide), cpf h39 (by decide), cpf h38 (by decide), cpf h37 (by decide), bcf h36 (by decide)]
    have u : T33 34 = T 34 := by rw [cpf h33 (by decide), cpf h32 (by decide), cpf h31 (by decide), cpf h30 (by decide), cpf h29 (by decide), cpf h28 (by decide), cpf h27 (by decide), cpf h26 (by decide), cpf h25 (by decide), cpf h24 (by decide), cpf h23 (by decide), o4 34 (by decide)]
    show S57 34 j = _
    rw [hq 34 j (by omega), v, h34.1 j hj, u]
  · intro j hj
    have v : T41 36 = T36 36 := by rw [cpf h41 (by decide), cpf h40 (by decide), cpf h39 (by decide), cpf h38 (by decide), cpf h37 (by decide)]
    have u : T34 36 = T 36 := by rw [cpf h34 (by decide), cpf h33 (by decide), cpf h32 (by decide), cpf h31 (by decide), cpf h30 (by decide), cpf h29 (by decide), cpf h28 (by decide), cpf h27 (by decide), cpf h26 (by decide), cpf h25 (by decide), cpf h24 (by decide), cpf h23 (by decide), o4 36 (by decide)]
    show S57 36 j = _
    rw [hq 36 j (by omega), v, h36.1 j hj, u]
  · intro j hj
    have v : T41 37 = T37 37 := by rw [cpf h41 (by decide), cpf h40 (by decide), cpf h39 (by decide), cpf h38 (by decide)]
    have u : T36 37 = T 37 := by rw [bcf h36 (by decide), cpf h34 (by decide), cpf h33 (by decide), cpf h32 (by decide), cpf h31 (by decide), cpf h30 (by decide), cpf h29 (by decide), cpf h28 (by decide), cpf h27 (by decide), cpf h26 (by decide), cpf h25 (by decide), cpf h24 (by decide), cpf h23 (by decide), o4 37 (by decide)]
    show S57 37 j = _
    rw [hq 37 j (by omega), v, h37.1 j hj, u]
  · intro j hj
    have v : T41 38 = T38 38 := by rw [cpf h41 (by decide), cpf h40 (by decide), cpf h39 (by decide)]
    have u : T37 38 = T 38 := by rw [cpf h37 (by decide), bcf h36 (by decide), cpf h34 (by decide), cpf h33 (by decide), cpf h32 (by decide), cpf h31 (by decide), cpf h30 (by decide), cpf h29 (by decide), cpf h28 (by decide), cpf h27 (by decide), cpf h26 (by decide), cpf h25 (by decide), cpf h24 (by decide), cpf h23 (by decide), o4 38 (by decide)]
    show S57 38 j = _
    rw [hq 38 j (by omega), v, h38.1 j hj, u]
  · intro j hj
    have v : T41 39 = T39 39 := by rw [cpf h41 (by decide), cpf h40 (by decide)]
    have u : T38 39 = T 39 := by rw [cpf h38 (by decide), cpf h37 (by decide), bcf h36 (by decide), cpf h34 (by decide), cpf h33 (by decide), cpf h32 (by decide), cpf h31 (by decide), cpf h30 (by decide), cpf h29 (by decide), cpf h28 (by decide), cpf h27 (by decide), cpf h26 (by decide), cpf h25 (by decide), cpf h24 (by decide), cpf h23 (by decide), o4 39 (by decide)]
    show S57 39 j = _
    rw [hq 39 j (by omega), v, h39.1 j hj, u]
  · intro j hj
    have v : T41 40 = T40 40 := by rw [cpf h41 (by decide)]
    have u : T39 40 = T 40 := by rw [cpf h39 (by decide), cpf h38 (by decide), cpf h37 (by decide), bcf h36 (by decide), cpf h34 (by decide), cpf h33 (by decide), cpf h32 (by decide), cpf h31 (by decide), cpf h30 (by decide), cpf h29 (by decide), cpf h28 (by decide), cpf h27 (by decide), cpf h26 (by decide), cpf h25 (by decide), cpf h24 (by decide), cpf h23 (by decide), o4 40 (by decide)]
    show S57 40 j = _
    rw [hq 40 j (by omega), v, h40.1 j hj, u]
  · intro j hj
    have v : T41 41 = T41 41 := rfl
    have u : T40 41 = T 41 := by rw [cpf h40 (by decide), cpf h39 (by decide), cpf h38 (by decide), cpf h37 (by decide), bcf h36 (by decide), cpf h34 (by decide), cpf h33 (by decide), cpf h32 (by decide), cpf h31 (by decide), cpf h30 (by decide), cpf h29 (by decide), cpf h28 (by decide), cpf h27 (by decide), cpf h26 (by decide), cpf h25 (by decide), cpf h24 (by decide), cpf h23 (by decide), o4 41 (by decide)]
    show S57 41 j = _
    rw [hq 41 j (by omega), v, h41.1 j hj, u]
-- 62.za.8k7
/-! a text read, or not: what is kept -/
def kFT (S S1 : Tr) : Prop := ∀ a j, Wp a j = false → ¬ (a = 0 ∧ j ≤ 11) → S1 a j = S a j
def kTX (S : Tr) (L : Lo) (q : Int32 × Tr × Lo) : Prop := (q.1.toInt < 0 ∧ kFT S q.2.1 ∧ q.2.2 = L) ∨ (0 ≤ q.1.toInt ∧ ∃ z T0, rP 3 z T0 ∧ kFT S T0 ∧ f_X8_keepText T0 L = some q.2)
theorem r_L55b {z : Tr} (L : Lo) (hj : jR z) (N : Nat) : ∀ (x2 : Int32) (T : Tr), 0 ≤ x2.toInt → x2.toInt + (N : Int) ≤ 100000 → rP 3 z T → 40 - mu T < (N : Int) → D (lpF (fun _ _ => none) (fB_X8_text_L55 L) N x2 T) (kTX z L) := by
  induction N with
  | zero => intro x2 T _ _ h hn; have := mu_le h.1; omega
  | succ N ih =>
    intro x2 T h0 h1 h hn
    show D (fB_X8_text_L55 L (lpF (fun _ _ => none) (fB_X8_text_L55 L) N) x2 T) _
    generalize lpF (fun _ _ => none) (fB_X8_text_L55 L) N = k at ih ⊢
    unfold fB_X8_text_L55
    refine D_ite (fun _ => ?_) (fun _ => ?_)
    · unfold fJ_X8_text_J77
      exact D_bd (r_keepText L hj.2.2.2.2.2 h) (fun q e _ => D_some (Or.inr ⟨h0, z, T, h, fun a j g _ => h.2.1 a j g, e⟩))
    · refine D_bd (r_lineRead (rP_self h)) (fun q _ hq => ?_)
      rcases hq with ⟨hz, x, hr⟩ | ⟨hz, hm, hr⟩
      · refine D_ite (fun _ => ?_) (fun c => absurd hz c)
        have hr2 := rP_tr h hr
        exact D_some (Or.inl ⟨(by decide : (-1 : Int32).toInt < 0), fun a j g _ => hr2.2.1 a j g, rfl⟩)
      · refine D_ite (fun c => ?_) (fun _ => D_lt (fun y ey => ?_))
        · exact absurd (c.symm.trans hz) (by decide)
        · have e2 : y.toInt = x2.toInt + 1 := by rw [ey]; exact i_addK rfl (by decide) (by omega) (by omega)
          exact ih y q.2 (by omega) (by omega) (rP_tr h hr) (by omega)
theorem R_text2 (S : Tr) (L : Lo) (x1 : Int32) (h : jX S) : D (f_X8_text S L x1) (kTX S L) := by
  obtain ⟨h, hw⟩ := h
  have g := jR_thr (v := 0) h
  have b1 : 0 ≤ (S 0 1).toInt ∧ (S 0 1).toInt ≤ 700 := h.1 0 1
  unfold f_X8_text
  refine D_lt (fun S1 e1 => ?_)
  rw [← e1] at g
  have hw1 : wK S1 := wK_S (fun j => by rw [e1, st_oth (by decide)]) hw
  have t1 : S1 0 1 = S 0 1 := by rw [e1, st_ne (by decide)]
  have f1 : kFT S S1 := fun a j _ n => by rw [e1, st_no (fun e => n ⟨e.1, by omega⟩)]
  refine D_ite (fun c => ?_) (fun c => ?_)
  · exact D_some (Or.inl ⟨(by decide : (-2 : Int32).toInt < 0), f1, rfl⟩)
  have k := tq_ltn (x := x1) (y := (0 : Int32)) rfl (b := 0) (by decide) c
  refine D_ite (fun c2 => ?_) (fun c2 => ?_)
  rotate_left
  · exact D_some (Or.inl ⟨(by decide : (-2 : Int32).toInt < 0), f1, rfl⟩)
  have k2 := tq_le (x := x1) (y := S1 0 1) rfl rfl c2
  rw [t1] at k2
  refine D_lt (fun S4 e4 => D_lt (fun S5 e5 => D_lt (fun S6 e6 => D_lt (fun S7 e7 => D_lt (fun S8 e8 => ?_)))))
  have i4 : iR BM S4 := by
    rw [e4]; refine iR_set (a := 0) (i := 6) g.1 ?_ ?_
    · show (0 : Int) ≤ _; omega
    · show _ ≤ (700 : Int); omega
  have i5 : iR BM S5 := by rw [e5]; exact iR_set (a := 0) (i := 1) i4 (by decide) (by decide)
  have i6 : iR BM S6 := by rw [e6]; exact iR_setU i5 rfl
  have i7 : iR BM S7 := by rw [e7]; exact iR_setU i6 rfl
  have i8 : iR BM S8 := by rw [e8]; exact iR_set (a := 0) (i := 7) i7 (by decide) (by decide)
  have o8 : ∀ a, ¬ a = 0 → S8 a = S1 a := fun a ha => by rw [e8, st_oth ha, e7, st_oth ha, e6, st_oth ha, e5, st_oth ha, e4, st_oth ha]
  have z8 : ∀ j, 8 ≤ j → S8 0 j = S1 0 j := fun j hj => by rw [e8, st_ne (by omega), e7, st_ne (by omega), e6, st_ne (by omega), e5, st_ne (by omega), e4, st_ne (by omega)]
  have z7 : S8 0 7 = 0 := by rw [e8, st_same]
  have z1 : S8 0 1 = 0 := by rw [e8, st_ne (by decide), e7, st_ne (by decide), e6, st_ne (by decide), e5, st_same]
  have j8 : jR S8 := jR_fr g i8 (fun a n0 _ => o8 a n0) (z8 13 (by decide)) (z8 14 (by decide)) (z8 82 (by decide)) (z8 84 (by decide))
  have w8 : wK S8 := wK_S (fun j => by rw [o8 4 (by decide)]) hw1
  refine D_bd (D_and (t_X8_plain S8 i8) (t2_plain S8)) (fun S9 _ h9 => ?_)
  obtain ⟨⟨i9, a9⟩, y16, y17, y18, y19, y46, y36, y0, yo⟩ := h9
  have b6 : 0 ≤ (S9 0 6).toInt ∧ (S9 0 6).toInt ≤ 700 := i9 0 6
  have l0 : (0 : Int32).toInt = 0 := by decide
  have w9 : wK S9 := wK_S (fun j => by rw [yo 4 (by decide) (by decide) (by decide) (by decide) (by decide) (by decide)]) w8
  refine D_bd (t_X8_token S9 i9 w9 (by rw [y0 7 (by decide), z7, l0]; exact b6.1)) (fun S12 _ h12 => ?_)
  obtain ⟨i12, a12, k12⟩ := h12
  have n12 : ∀ k, nodeOK S12 k := fun k => nodeOK_eq (j8.2.1.1 k) (by rw [a12 39 k rfl, yo 39 (by decide) (by decide) (by decide) (by decide) (by decide) (by decide)]) (by rw [a12 40 k rfl, yo 40 (by decide) (by decide) (by decide) (by decide) (by decide) (by decide)]) (by rw [a12 41 k rfl, yo 41 (by decide) (by decide) (by decide) (by decide) (by decide) (by decide)])
  have aP12 : aP S8 S12 := aP_tr a9 (fun a j hf => aN_K a12 a j (Wn_p hf))
  have j12 : jR S12 := jR_P j8 i12 aP12 n12
  have r12 : rP 3 S12 S12 := by
    refine ⟨i12, aP_rfl, wK_K a12 w9, k12, ⟨fun i _ hl => ?_, fun p _ hl => ?_, n12, fun w hw1 _ hl => ?_, fun _ => ?_⟩, Int.le_refl _⟩
    · rw [a12 0 18 rfl, y18, l0] at hl; omega
    · rw [a12 0 17 rfl, y17, l0] at hl; omega
    · rw [a12 36 _ rfl, y36 w hw1] at hl; exact absurd rfl hl
    · rw [a12 0 19 rfl, a12 0 46 rfl, y19, y46]
  have mu0 : 0 ≤ mu S12 := by
    have f1 := flg_b (S12 22 0)
    have f2 := flg_b (S12 22 1)
    have f3 := flg_b (S12 22 2)
    have f4 := flg_b (S12 36 3)
    have f5 := flg_b (S12 36 4)
    have f6 := flg_b (S12 36 5)
    have b16 : 0 ≤ (S12 0 16).toInt ∧ (S12 0 16).toInt ≤ 5 := i12 0 16
    have b17 : 0 ≤ (S12 0 17).toInt ∧ (S12 0 17).toInt ≤ 6 := i12 0 17
    have b18 : 0 ≤ (S12 0 18).toInt ∧ (S12 0 18).toInt ≤ 10 := i12 0 18
    have b20 : 0 ≤ (S12 0 20).toInt ∧ (S12 0 20).toInt ≤ 10 := i12 0 20
    unfold mu; omega
  have f12 : kFT S S12 := fun a j g n => by
    rw [aP12 a j g]
    by_cases ha : a = 0
    · subst ha
      rw [z8 j (by omega), e1, st_ne (by omega)]
    · rw [o8 a ha, e1, st_oth ha]
  refine D_mono (r_L55b L j12 2000 0 S12 (by decide) (by decide) r12 (by omega)) (fun q hq => ?_)
  rcases hq with ⟨u1, u2, u3⟩ | ⟨u1, z, T0, u2, u3, u4⟩
  · exact Or.inl ⟨u1, fun a j g n => (u2 a j g n).trans (f12 a j g n), u3⟩
  · exact Or.inr ⟨u1, z, T0, u2, fun a j g n => (u3 a j g n).trans (f12 a j g n), u4⟩
/-- class and reference at the end of text -/
def kmQ (pa qa : Nat → Nat) (X Tn C Z : Tr) (q0 q4 : Nat) (L : Lo) (q : Int32 × Tr × Tr × Tr × Tr × Tr × Tr × Tr × Nat × Nat × Nat) (q' : Int32 × Tr × Lo) : Prop := (q'.1.toInt < 0 ∧ q.2.2.2.2.2.2.2.2.1 = q0 ∧ q.2.2.2.2.2.2.2.2.2.1 = q4 ∧ q.2.2.2.2.2.2.2.2.2.2 = qa 0 ∧ q.2.1 = X ∧ q.2.2.2.2.2.1 = Tn ∧ q.2.2.2.2.2.2.1 = C ∧ q.2.2.2.2.2.2.2.1 = Z) ∨ (0 ≤ q'.1.toInt ∧ q.2.2.2.2.2.2.2.2.2.1 = qa 0 ∧ q.2.2.2.2.2.2.2.2.2.2 = q4 ∧ q.2.1 = st X 0 4 0 ∧ q.2.2.2.2.2.2.1 = st C 0 0 0 ∧ f_X4_forget_x pa qa Z = some q.2.2.2.2.2.2.2.1 ∧ f_X6_begin qa Tn q.2.2.2.2.1 q0 = some (q.2.2.2.2.2.1, q.2.2.2.2.2.2.2.2.1) ∧ ∃ T0, f_X8_keepText T0 L = some q'.2 ∧ RD q.2.2.2.1 q.2.2.2.2.1 T0)
theorem e_nmt (pa qa : Nat → Nat) (X K R P2 Tn C Z S : Tr) (L : Lo) (q0 q4 q5 : Nat) (x1 : Int32) (h : relT K S) (hb : 0 ≤ (K 0 0).toInt ∧ (K 0 0).toInt ≤ 700) (h5 : q5 = qa 0) : E2 (f_X7_text pa qa X K R P2 Tn C Z q0 q4 q5 x1) (f_X8_text S L x1) (kmQ pa qa X Tn C Z q0 q4 L) := by
  obtain ⟨⟨t1, t2⟩, hC, hT⟩ := h
  unfold f_X7_text f_X8_text
  refine E2_ltr (fun S1 e1 => ?_)
  have s1 : S1 1 = S 1 := by rw [e1, st_oth (by decide)]
  have s01 : S1 0 1 = K 0 0 := by rw [e1, st_ne (by decide)]; exact t1.symm
  by_cases c : x1 < 0
  · exact E2_pl c (E2_pr c (E2_some (Or.inl ⟨(by decide : (-2 : Int32).toInt < 0), rfl, rfl, h5, rfl, rfl, rfl, rfl⟩)))
  · refine E2_ql c (E2_qr c ?_)
    rw [s01]
    have c0 := tq_ltn (b := 0) rfl (by decide) c
    by_cases d : x1 ≤ K 0 0
    · have d0 := tq_le rfl rfl d
      refine E2_pl d (E2_pr d (E2_ckl (fun _ => E2_ltr (fun S4 f4 => E2_ltr (fun S5 f5 => E2_ltr (fun S6 f6 => E2_ltr (fun S7 f7 => E2_ltr (fun S8 f8 => ?_))))))))
      have o8 : ∀ a, ¬ a = 0 → S8 a = S a := fun a ha => by rw [f8, st_oth ha, f7, st_oth ha, f6, st_oth ha, f5, st_oth ha, f4, st_oth ha, e1, st_oth ha]
      have s6 : S8 0 6 = x1 := by rw [f8, st_ne (by decide), f7, st_ne (by decide), f6, st_ne (by decide), f5, st_ne (by decide), f4, st_same]
      have s7 : S8 0 7 = 0 := by rw [f8, st_same]
      have hT8 : wT S8 := fun j hj => by rw [o8 4 (by decide)]; exact hT j hj
      have z := e_rt (K := K) (R := R) (P := P2) (S8 := S8) (L := L) (x1 := x1) hC hT8 c0 (by omega) s6 s7 (fun j hj => by rw [o8 1 (by decide)]; exact t2 j (by omega))
      intro A B ea eb
      obtain ⟨v, v1, v2⟩ := tx_bd ea
      obtain ⟨r, K5, R6, P7⟩ := v
      have hq := z (r, K5, R6, P7) B v1 eb
      have v2 : (if r = 0 then (some ((-1 : Int32), X, st K5 0 0 0, R6, P7, Tn, C, Z, q0, q4, qa 0)) else (bd (f_X6_begin qa Tn P7 q0) fun q => lt q.1 fun Tn_12 => lt q.2 fun q0_13 => lt (st X 0 4 0) fun X_16 => lt (st C 0 0 0) fun C_17 => bd (f_X4_forget_x pa qa Z) fun Z_18 => some ((R6 0 3), X_16, st K5 0 0 0, R6, P7, Tn_12, C_17, Z_18, q0_13, qa 0, q4))) = some A := v2
      have hq : (r = 0 ∧ B.1 = -1 ∧ flt R6 B.2.1 ∧ frK (st (st K 0 6 x1) 0 7 0) K5) ∨ (r = 1 ∧ ∃ T0, f_X8_keepText T0 L = some B.2 ∧ RD R6 P7 T0 ∧ R6 0 1 = 0 ∧ R6 0 3 = B.1 ∧ 0 ≤ B.1.toInt ∧ frK (st (st K 0 6 x1) 0 7 0) K5) := hq
      rcases hq with ⟨rfl, u1, u2, u3⟩ | ⟨rfl, T0, u1, u2, u3, u4, u5, u6⟩
      · rw [if_pos rfl] at v2
        have v2 := tx_1 v2
        subst v2
        exact Or.inl ⟨by rw [u1]; decide, rfl, rfl, rfl, rfl, rfl, rfl, rfl⟩
      · rw [if_neg (by decide)] at v2
        obtain ⟨w1, w0, w2⟩ := tx_bd v2
        have w2 : bd (f_X4_forget_x pa qa Z) (fun Z_18 => some ((R6 0 3), st X 0 4 0, st K5 0 0 0, R6, P7, w1.1, st C 0 0 0, Z_18, w1.2, qa 0, q4)) = some A := w2
        obtain ⟨w3, w9, w4⟩ := tx_bd w2
        have w4 := tx_1 w4
        subst w4
        exact Or.inr ⟨u5, rfl, rfl, rfl, rfl, w9, w0, T0, u1, u2⟩
    · exact E2_ql d (E2_qr d (E2_some (Or.inl ⟨(by decide : (-2 : Int32).toInt < 0), rfl, rfl, h5, rfl, rfl, rfl, rfl⟩)))
-- 62.za.9k8
/-! what class and reference keep of a text, row by row -/
def cK (a j : Nat) : Prop := (a = 0 ∧ 12 ≤ j ∧ j ≤ 15) ∨ (a = 23 ∧ j < 3) ∨ ((a = 24 ∨ a = 25) ∧ j < 5) ∨ ((a = 26 ∨ a = 27 ∨ a = 28 ∨ a = 29) ∧ j < 6) ∨ ((a = 30 ∨ a = 31 ∨ a = 32 ∨ a = 33) ∧ j < 10) ∨ (a = 34 ∧ j < 21)
theorem b_lt {n j : Nat} (h : j < n) : Nat.ble n j = false := by
  rw [← Bool.not_eq_true]; intro c; have := Nat.le_of_ble_eq_true c; omega
theorem Wp_k {a j : Nat} (h : cK a j) : Wp a j = false := by
  rcases h with ⟨rfl, h1, h2⟩ | ⟨rfl, h⟩ | ⟨rfl | rfl, h⟩ | ⟨rfl | rfl | rfl | rfl, h⟩ | ⟨rfl | rfl | rfl | rfl, h⟩ | ⟨rfl, h⟩
  · rcases (by omega : j = 12 ∨ j = 13 ∨ j = 14 ∨ j = 15) with rfl | rfl | rfl | rfl <;> rfl
  all_goals (unfold Wp; rw [b_lt h]; rfl)
theorem Wg_k {a j : Nat} (h : cK a j) : Wg a j = false := by
  rcases h with ⟨rfl, h1, h2⟩ | ⟨rfl, h⟩ | ⟨rfl | rfl, h⟩ | ⟨rfl | rfl | rfl | rfl, h⟩ | ⟨rfl | rfl | rfl | rfl, h⟩ | ⟨rfl, h⟩
  · rcases (by omega : j = 12 ∨ j = 13 ∨ j = 14 ∨ j = 15) with rfl | rfl | rfl | rfl <;> rfl
  all_goals rfl
def nmR (P S : Tr) : Prop := (P 0 0 = S 0 12 ∧ P 0 1 = S 0 13 ∧ P 0 2 = S 0 14 ∧ P 0 3 = S 0 15 ∧ P 0 4 = S 23 0 ∧ P 0 5 = S 23 1 ∧ P 0 6 = S 23 2) ∧ (∀ i : Nat, (i : Int) < (S 0 12).toInt → P 8 i = S 24 i ∧ P 9 i = S 25 i) ∧ (∀ p : Nat, (p : Int) < (S 0 13).toInt → P 10 p = S 26 p ∧ P 11 p = S 27 p ∧ P 12 p = S 28 p ∧ P 13 p = S 29 p) ∧ (∀ i : Nat, (i : Int) < (S 0 14).toInt → P 14 i = S 30 i ∧ P 15 i = S 31 i ∧ P 16 i = S 32 i ∧ P 17 i = S 33 i) ∧ ∀ t : Nat, t < 21 → P 18 t = S 34 t
theorem nm_k {P S S1 : Tr} (h : nmR P S) (hS : iR BM S) (e : ∀ a j, cK a j → S1 a j = S a j) : nmR P S1 := by
  have b12 : 0 ≤ (S 0 12).toInt ∧ (S 0 12).toInt ≤ 5 := hS 0 12
  have b13 : 0 ≤ (S 0 13).toInt ∧ (S 0 13).toInt ≤ 6 := hS 0 13
  have b14 : 0 ≤ (S 0 14).toInt ∧ (S 0 14).toInt ≤ 10 := hS 0 14
  have z : ∀ j, 12 ≤ j → j ≤ 15 → S1 0 j = S 0 j := fun j h1 h2 => e 0 j (Or.inl ⟨rfl, h1, h2⟩)
  have y : ∀ j, j < 3 → S1 23 j = S 23 j := fun j h1 => e 23 j (Or.inr (Or.inl ⟨rfl, h1⟩))
  obtain ⟨h1, h2, h3, h4, h5⟩ := h
  refine ⟨?_, fun i hi => ?_, fun p hp => ?_, fun i hi => ?_, fun t ht => ?_⟩
  · rw [z 12 (by decide) (by decide), z 13 (by decide) (by decide), z 14 (by decide) (by decide), z 15 (by decide) (by decide), y 0 (by decide), y 1 (by decide), y 2 (by decide)]; exact h1
  · rw [z 12 (by decide) (by decide)] at hi
    rw [e 24 i (Or.inr (Or.inr (Or.inl ⟨by omega, by omega⟩))), e 25 i (Or.inr (Or.inr (Or.inl ⟨by omega, by omega⟩)))]; exact h2 i hi
  · rw [z 13 (by decide) (by decide)] at hp
    have q : ∀ a, a = 26 ∨ a = 27 ∨ a = 28 ∨ a = 29 → S1 a p = S a p := fun a ha => e a p (Or.inr (Or.inr (Or.inr (Or.inl ⟨ha, by omega⟩))))
    rw [q 26 (by omega), q 27 (by omega), q 28 (by omega), q 29 (by omega)]; exact h3 p hp
  · rw [z 14 (by decide) (by decide)] at hi
    have q : ∀ a, a = 30 ∨ a = 31 ∨ a = 32 ∨ a = 33 → S1 a i = S a i := fun a ha => e a i (Or.inr (Or.inr (Or.inr (Or.inr (Or.inl ⟨ha, by omega⟩)))))
    rw [q 30 (by omega), q 31 (by omega), q 32 (by omega), q 33 (by omega)]; exact h4 i hi
  · rw [e 34 t (Or.inr (Or.inr (Or.inr (Or.inr (Or.inr ⟨rfl, ht⟩)))))]; exact h5 t ht
theorem nm_W {P S S1 : Tr} (h : nmR P S) (hS : iR BM S) (a : aW S S1) : nmR P S1 := nm_k h hS (fun c j q => a c j (Wg_k q))
theorem nm_T {P S S1 : Tr} (h : nmR P S) (hS : iR BM S) (a : kFT S S1) : nmR P S1 := nm_k h hS (fun c j q => a c j (Wp_k q) (fun g => by
  rcases q with ⟨_, h1, _⟩ | ⟨h1, _⟩ | ⟨h1, _⟩ | ⟨h1, _⟩ | ⟨h1, _⟩ | ⟨h1, _⟩ <;> omega))
theorem nm_f {P S S1 : Tr} (h : nmR P S) (hS : iR BM S) (a : kfT S S1) : nmR P S1 := nm_k h hS (fun c j q => a c j (by
  rcases q with ⟨h0, h1, h2⟩ | ⟨h1, _⟩ | ⟨h1, _⟩ | ⟨h1, _⟩ | ⟨h1, _⟩ | ⟨h1, _⟩ <;> omega))
theorem nm_KT {R P T S1 : Tr} (h : RD R P T) (k : KT T S1) : nmR P S1 := by
  obtain ⟨⟨a0, a1, a2⟩, ⟨b0, b1, b2⟩, ⟨c0, c1, c2⟩, hW, hO, hL⟩ := h
  obtain ⟨_, _, _, _, hw⟩ := hW
  obtain ⟨_, _, _, _, o4, o5, o6⟩ := hO
  obtain ⟨k0, k23, k24, k25, k26, k27, k28, k29, k30, k31, k32, k33, k34, _⟩ := k
  have z12 := k0 12 (by decide) (by decide)
  have z13 := k0 13 (by decide) (by decide)
  have z14 := k0 14 (by decide) (by decide)
  have z15 := k0 15 (by decide) (by decide)
  refine ⟨⟨a0.trans z12.symm, b0.trans z13.symm, c0.trans z14.symm, ?_, o4.trans (k23 0 (by decide)).symm, o5.trans (k23 1 (by decide)).symm, o6.trans (k23 2 (by decide)).symm⟩, fun i hi => ?_, fun p hp => ?_, fun i hi => ?_, fun t ht => ?_⟩
  · rw [z15, hL.1]; exact hL.2.1.symm
  · rw [z12] at hi
    have a1 := a1
    have hi : (i : Int) < (T 0 16).toInt := hi
    rw [k24 i (by omega), k25 i (by omega)]; exact a2 i hi
  · rw [z13] at hp
    have hp : (p : Int) < (T 0 17).toInt := hp
    rw [k26 p (by omega), k27 p (by omega), k28 p (by omega), k29 p (by omega)]; exact b2 p hp
  · rw [z14] at hi
    have hi : (i : Int) < (T 0 18).toInt := hi
    rw [k30 i (by omega), k31 i (by omega), k32 i (by omega), k33 i (by omega)]; exact c2 i hi
  · rw [k34 t ht]; exact hw t ht
/-- at the start -/
theorem nm_0 {P S S1 A B : Tr} {L LM : Lo} (hP : f_X2_clear A = some P) (h1 : f_X8_plain B = some S1) (h2 : f_X8_keepText S1 L = some (S, LM)) : nmR P S := by
  obtain ⟨p1, p2, _⟩ := e_clr _ _ hP
  obtain ⟨q1, q2, q3, _⟩ := e_plain _ _ h1
  have k := k_keepText S1 L _ h2
  obtain ⟨k0, k23, k24, k25, k26, k27, k28, k29, k30, k31, k32, k33, k34, _⟩ := k
  have z : ∀ j, 12 ≤ j → j ≤ 15 → S 0 j = 0 := fun j g1 g2 => (k0 j g1 g2).trans (q3 (j + 4) (by omega))
  have l0 : (0 : Int32).toInt = 0 := by decide
  refine ⟨⟨?_, ?_, ?_, ?_, ?_, ?_, ?_⟩, fun i hi => ?_, fun p hp => ?_, fun i hi => ?_, fun t ht => ?_⟩
  · rw [p1 0 (by decide), z 12 (by decide) (by decide)]
  · rw [p1 1 (by decide), z 13 (by decide) (by decide)]
  · rw [p1 2 (by decide), z 14 (by decide) (by decide)]
  · rw [p1 3 (by decide), z 15 (by decide) (by decide)]
  · rw [p1 4 (by decide), show S 23 0 = S1 23 (3 + 0) from k23 0 (by decide), (q2 0 (by decide)).2.1]
  · rw [p1 5 (by decide), show S 23 1 = S1 23 (3 + 1) from k23 1 (by decide), (q2 1 (by decide)).2.1]
  · rw [p1 6 (by decide), show S 23 2 = S1 23 (3 + 2) from k23 2 (by decide), (q2 2 (by decide)).2.1]
  · rw [z 12 (by decide) (by decide), l0] at hi; omega
  · rw [z 13 (by decide) (by decide), l0] at hp; omega
  · rw [z 14 (by decide) (by decide), l0] at hi; omega
  · rw [p2 t ht, show S 34 t = S1 34 (21 + t) from k34 t ht, (q1 t ht).1]
/-! who is named -/
theorem e_fnd (pa qa : Nat → Nat) {P S : Tr} (h : nmR P S) (b : 0 ≤ (S 0 13).toInt ∧ (S 0 13).toInt ≤ 6) (x : Int32) (N : Nat) : ∀ (i : Int32), 0 ≤ i.toInt → i.toInt ≤ 6 → E2 (lpF (fun _ => none) (fB_X2_personNamed_x_L2 pa qa P x) N i) (lpF (fun _ => none) (fB_X8_find_26_L3 S 0 (S 0 13) x) N i) (fun a b => a = b) := by
  induction N with
  | zero => intro i _ _; exact E2_nl
  | succ N ih =>
    intro i i0 i6
    show E2 (fB_X2_personNamed_x_L2 pa qa P x (lpF (fun _ => none) (fB_X2_personNamed_x_L2 pa qa P x) N) i) (fB_X8_find_26_L3 S 0 (S 0 13) x (lpF (fun _ => none) (fB_X8_find_26_L3 S 0 (S 0 13) x) N) i) _
    generalize lpF (fun _ => none) (fB_X2_personNamed_x_L2 pa qa P x) N = k at ih ⊢
    generalize lpF (fun _ => none) (fB_X8_find_26_L3 S 0 (S 0 13) x) N = k' at ih ⊢
    unfold fB_X2_personNamed_x_L2 fB_X8_find_26_L3
    rw [h.1.2.1, Int32.zero_add]
    refine E2_it Iff.rfl (fun _ _ => E2_some rfl) (fun c _ => E2_ckl (fun _ => E2_ckr (fun _ => ?_)))
    have k1 := tq_len (x := S 0 13) (y := i) rfl rfl c
    have hi : ((i.toNatClampNeg : Nat) : Int) = i.toInt := by rw [i_cl]; omega
    rw [(h.2.2.1 i.toNatClampNeg (by rw [hi]; omega)).1]
    refine E2_it Iff.rfl (fun _ _ => E2_some rfl) (fun _ _ => E2_ltl (fun y ey => E2_ltr (fun y' ey' => ?_)))
    subst ey ey'
    have e2 : (i + 1).toInt = i.toInt + 1 := i_addK rfl (by decide) (by omega) (by omega)
    exact ih (i + 1) (by omega) (by omega)
theorem e_named (pa qa : Nat → Nat) {P S : Tr} (q4 : Nat) (h : nmR P S) (hS : iR BM S) (x : Int32) : E2 (f_X7_named pa qa P q4 x) (f_X8_named S x) (fun r q => r = q.1) := by
  unfold f_X7_named f_X8_named f_X2_personNamed_x fL_X2_personNamed_x_L2 f_X8_find_26 fL_X8_find_26_L3
  refine E2_ckl (fun _ => E2_ltr (fun S1 e1 => ?_))
  have n1 : nmR P S1 := nm_k h hS (fun a j q => by rw [e1, st_no (fun g => by rcases q with ⟨_, h1, _⟩ | ⟨h1, _⟩ | ⟨h1, _⟩ | ⟨h1, _⟩ | ⟨h1, _⟩ | ⟨h1, _⟩ <;> omega)])
  have b1 : 0 ≤ (S1 0 13).toInt ∧ (S1 0 13).toInt ≤ 6 := by rw [e1, st_ne (by decide)]; exact hS 0 13
  exact E2_bd (e_fnd pa qa n1 b1 x 2000 0 (by decide) (by decide)) (fun a b hab => E2_some hab)
/-! for whom one waits -/
theorem e_waits (pa qa : Nat → Nat) {P S : Tr} (q4 : Nat) (h : nmR P S) (x : Int32) : E2 (f_X7_waits pa qa P q4 x) (f_X8_waits S x) (fun r q => r = q.1) := by
  unfold f_X7_waits f_X8_waits f_X8_isIn
  refine E2_ltr (fun S1 e1 => ?_)
  have e34 : S1 34 = S 34 := by rw [e1, st_oth (by decide)]
  by_cases c : x < 0
  · refine E2_pl c ?_
    rw [if_pos c]
    exact E2_sr (E2_pr rfl (E2_some rfl))
  · refine E2_ql c ?_
    rw [if_neg c]
    have k := tq_ltn (x := x) (y := (0 : Int32)) rfl (b := 0) (by decide) c
    by_cases f : x ≤ 20
    · have g := tq_le (x := x) (y := (20 : Int32)) rfl (b := 20) (by decide) f
      refine E2_pl f (E2_ckl (fun _ => E2_ckl (fun _ => ?_)))
      rw [if_neg (Int32.not_lt.mpr f)]
      refine E2_sr (E2_qr (by decide) (E2_ckr (fun _ => E2_some ?_)))
      show P 18 x.toNatClampNeg = S1 34 x.toNatClampNeg
      rw [e34]
      exact h.2.2.2.2 _ (by rw [i_cl]; omega)
    · refine E2_ql f ?_
      rw [if_pos (Int32.not_le.mp f)]
      exact E2_sr (E2_pr rfl (E2_some rfl))
-- 62.za.am1
/-! what has been seen, the stop, the image stay -/
def zcl (a j : Nat) : Prop := a = 81 ∨ (a = 62 ∧ j = 0) ∨ (a = 0 ∧ (j = 78 ∨ j = 79 ∨ j = 84 ∨ j = 89))
def zf (S S1 : Tr) : Prop := ∀ a j, zcl a j → S1 a j = S a j
theorem zf_r {S : Tr} : zf S S := fun _ _ _ => rfl
theorem zf_t {S S1 S2 : Tr} (h1 : zf S S1) (h2 : zf S1 S2) : zf S S2 := fun a j h => (h2 a j h).trans (h1 a j h)
theorem zf_s {S0 S : Tr} {a i : Nat} {v : Int32} (h : zf S0 S) (hn : ¬ (a = 81 ∨ (a = 62 ∧ i = 0) ∨ (a = 0 ∧ (i = 78 ∨ i = 79 ∨ i = 84 ∨ i = 89)))) : zf S0 (st S a i v) := fun b j hb => by
  rw [st_no (fun e => by obtain ⟨e1, e2⟩ := e; subst e1 e2; exact hn hb)]; exact h b j hb
def zk (S S1 : Tr) : Prop := ∀ a j, (a = 81 ∨ (a = 0 ∧ (j = 78 ∨ j = 79))) → S1 a j = S a j
theorem zk_s {S0 S : Tr} {a i : Nat} {v : Int32} (h : zk S0 S) (hn : ¬ (a = 81 ∨ (a = 0 ∧ (i = 78 ∨ i = 79)))) : zk S0 (st S a i v) := fun b j hb => by
  rw [st_no (fun e => by obtain ⟨e1, e2⟩ := e; subst e1 e2; exact hn hb)]; exact h b j hb
theorem zk_f {S S1 : Tr} (h : zf S S1) : zk S S1 := fun a j q => h a j (by
  rcases q with q | ⟨q, r⟩
  · exact Or.inl q
  · exact Or.inr (Or.inr ⟨q, by omega⟩))
theorem zf_T {S S1 : Tr} (h : aT S S1) : zf S S1 := fun a j q => h a j (by
  rcases q with rfl | ⟨rfl, rfl⟩ | ⟨rfl, rfl | rfl | rfl | rfl⟩ <;> rfl)
theorem zf_G {S S1 : Tr} (h : aG 1 S S1) : zf S S1 := fun a j q => h a j (by
  rcases q with rfl | ⟨rfl, rfl⟩ | ⟨rfl, rfl | rfl | rfl | rfl⟩ <;> rfl)
set_option maxHeartbeats 1000000 in
set_option maxRecDepth 100000 in
theorem zfJ_X8_feed_J113 {S0 : Tr} (S : Tr) (hS : zf S0 S)   : Ep (fJ_X8_feed_J113 S) (fun q => zf S0 q.2) := by
  unfold fJ_X8_feed_J113
  refine Ep_lt (fun S_4 eS_4 => ?_)
  have hS_4 : zf S0 S_4 := by rw [eS_4]; exact zf_s hS (by omega)
  exact Ep_some hS_4
set_option maxHeartbeats 1000000 in
set_option maxRecDepth 100000 in
theorem zfJ_X8_feed_J76 {S0 : Tr} (k23 : Int32 → Tr → Option (Int32 × Tr)) (x1 : Int32) (x2 : Int32) (x3 : Int32) (x4 : Int32) (x5 : Int32) (x6 : Int32) (s0 : Int32) (S : Tr) (hS : zf S0 S) (hk23 : ∀ (x6 : Int32) (S : Tr), zf S0 S → Ep (k23 x6 S) (fun q => zf S0 q.2))  : Ep (fJ_X8_feed_J76 k23 x1 x2 x3 x4 x5 x6 s0 S) (fun q => zf S0 q.2) := by
  unfold fJ_X8_feed_J76
  refine Ep_ck ?_
  refine Ep_lt (fun S_10 eS_10 => ?_)
  have hS_10 : zf S0 S_10 := by rw [eS_10]; exact zf_s hS (by omega)
  refine Ep_lt (fun y11 ey11 => ?_)
  exact hk23 y11 S_10 hS_10
set_option maxHeartbeats 1000000 in
set_option maxRecDepth 100000 in
theorem zfB_X8_feed_L23 {S0 : Tr} (x1 : Int32) (x2 : Int32) (x3 : Int32) (x4 : Int32) (x5 : Int32)    (N : Nat) : ∀ (x6 : Int32) (S : Tr), zf S0 S → Ep (lpF (fun _ _ => none) (fB_X8_feed_L23 x1 x2 x3 x4 x5) N x6 S) (fun q => zf S0 q.2) := by
  induction N with
  | zero => intro x6 S _; exact Ep_none
  | succ N ih =>
    intro x6 S hS
    show Ep (fB_X8_feed_L23 x1 x2 x3 x4 x5 (lpF (fun _ _ => none) (fB_X8_feed_L23 x1 x2 x3 x4 x5) N) x6 S) _
    have hk23 := ih
    clear ih
    generalize lpF (fun _ _ => none) (fB_X8_feed_L23 x1 x2 x3 x4 x5) N = k23 at hk23 ⊢
    unfold fB_X8_feed_L23
    refine Ep_ite (fun _ => ?_) (fun _ => ?_)
    · exact zfJ_X8_feed_J113 S hS
    · refine Ep_ite (fun _ => ?_) (fun _ => ?_)
      · refine Ep_ite (fun _ => ?_) (fun _ => ?_)
        · refine Ep_ite (fun _ => ?_) (fun _ => ?_)
          · refine Ep_ite (fun _ => ?_) (fun _ => ?_)
            · exact zfJ_X8_feed_J76 k23 x1 x2 x3 x4 x5 x6 x5 S hS hk23
            · exact zfJ_X8_feed_J76 k23 x1 x2 x3 x4 x5 x6 x4 S hS hk23
          · exact zfJ_X8_feed_J76 k23 x1 x2 x3 x4 x5 x6 x3 S hS hk23
        · exact zfJ_X8_feed_J76 k23 x1 x2 x3 x4 x5 x6 x2 S hS hk23
      · exact zfJ_X8_feed_J76 k23 x1 x2 x3 x4 x5 x6 x1 S hS hk23
set_option maxHeartbeats 1000000 in
set_option maxRecDepth 100000 in
theorem zfL_X8_feed_L23 {S0 : Tr} (x1 : Int32) (x2 : Int32) (x3 : Int32) (x4 : Int32) (x5 : Int32)    (x6 : Int32) (S : Tr) (hS : zf S0 S) : Ep (fL_X8_feed_L23 x1 x2 x3 x4 x5 x6 S) (fun q => zf S0 q.2) := by
  unfold fL_X8_feed_L23
  exact zfB_X8_feed_L23 x1 x2 x3 x4 x5 2000 x6 S hS
set_option maxHeartbeats 1000000 in
set_option maxRecDepth 100000 in
theorem zf_X8_feed {S0 : Tr} (S : Tr) (x1 : Int32) (x2 : Int32) (x3 : Int32) (x4 : Int32) (x5 : Int32) (hS : zf S0 S)   : Ep (f_X8_feed S x1 x2 x3 x4 x5) (fun q => zf S0 q.2) := by
  unfold f_X8_feed
  refine Ep_lt (fun S_1 eS_1 => ?_)
  have hS_1 : zf S0 S_1 := by rw [eS_1]; exact zf_s hS (by omega)
  refine Ep_ite (fun _ => ?_) (fun _ => ?_)
  · exact zfL_X8_feed_L23 x1 x2 x3 x4 x5 0 S_1 hS_1
  · exact Ep_some hS_1
set_option maxHeartbeats 1000000 in
set_option maxRecDepth 100000 in
theorem zfB_X8_put_84_L54 {S0 : Tr} (x2 : Int32)    (N : Nat) : ∀ (x3 : Int32) (S : Tr), zf S0 S → Ep (lpF (fun _ _ => none) (fB_X8_put_84_L54 x2) N x3 S) (fun q => zf S0 q) := by
  induction N with
  | zero => intro x3 S _; exact Ep_none
  | succ N ih =>
    intro x3 S hS
    show Ep (fB_X8_put_84_L54 x2 (lpF (fun _ _ => none) (fB_X8_put_84_L54 x2) N) x3 S) _
    have hk54 := ih
    clear ih
    generalize lpF (fun _ _ => none) (fB_X8_put_84_L54 x2) N = k54 at hk54 ⊢
    unfold fB_X8_put_84_L54
    refine Ep_ite (fun _ => ?_) (fun _ => ?_)
    · exact Ep_some hS
    · refine Ep_ck ?_
      refine Ep_ck ?_
      refine Ep_lt (fun S_6 eS_6 => ?_)
      have hS_6 : zf S0 S_6 := by rw [eS_6]; exact zf_s hS (by omega)
      refine Ep_lt (fun y7 ey7 => ?_)
      exact hk54 y7 S_6 hS_6
set_option maxHeartbeats 1000000 in
set_option maxRecDepth 100000 in
theorem zfL_X8_put_84_L54 {S0 : Tr} (x2 : Int32)    (x3 : Int32) (S : Tr) (hS : zf S0 S) : Ep (fL_X8_put_84_L54 x2 x3 S) (fun q => zf S0 q) := by
  unfold fL_X8_put_84_L54
  exact zfB_X8_put_84_L54 x2 2000 x3 S hS
set_option maxHeartbeats 1000000 in
set_option maxRecDepth 100000 in
theorem zfB_X8_put_84_L27 {S0 : Tr} (x2 : Int32)    (N : Nat) : ∀ (x3 : Int32) (S : Tr), zf S0 S → Ep (lpF (fun _ _ => none) (fB_X8_put_84_L27 x2) N x3 S) (fun q => zf S0 q) := by
  induction N with
  | zero => intro x3 S _; exact Ep_none
  | succ N ih =>
    intro x3 S hS
    show Ep (fB_X8_put_84_L27 x2 (lpF (fun _ _ => none) (fB_X8_put_84_L27 x2) N) x3 S) _
    have hk27 := ih
    clear ih
    generalize lpF (fun _ _ => none) (fB_X8_put_84_L27 x2) N = k27 at hk27 ⊢
    unfold fB_X8_put_84_L27
    refine Ep_ite (fun _ => ?_) (fun _ => ?_)
    · exact zfL_X8_put_84_L54 x2 0 S hS
    · refine Ep_ck ?_
      refine Ep_ck ?_
      refine Ep_lt (fun S_10 eS_10 => ?_)
      have hS_10 : zf S0 S_10 := by rw [eS_10]; exact zf_s hS (by omega)
      refine Ep_lt (fun y11 ey11 => ?_)
      exact hk27 y11 S_10 hS_10
set_option maxHeartbeats 1000000 in
set_option maxRecDepth 100000 in
theorem zfL_X8_put_84_L27 {S0 : Tr} (x2 : Int32)    (x3 : Int32) (S : Tr) (hS : zf S0 S) : Ep (fL_X8_put_84_L27 x2 x3 S) (fun q => zf S0 q) := by
  unfold fL_X8_put_84_L27
  exact zfB_X8_put_84_L27 x2 2000 x3 S hS
set_option maxHeartbeats 1000000 in
set_option maxRecDepth 100000 in
theorem zfB_X8_put_84_L2 {S0 : Tr} (x2 : Int32)    (N : Nat) : ∀ (x3 : Int32) (S : Tr), zf S0 S → Ep (lpF (fun _ _ => none) (fB_X8_put_84_L2 x2) N x3 S) (fun q => zf S0 q) := by
  induction N with
  | zero => intro x3 S _; exact Ep_none
  | succ N ih =>
    intro x3 S hS
    show Ep (fB_X8_put_84_L2 x2 (lpF (fun _ _ => none) (fB_X8_put_84_L2 x2) N) x3 S) _
    have hk2 := ih
    clear ih
    generalize lpF (fun _ _ => none) (fB_X8_put_84_L2 x2) N = k2 at hk2 ⊢
    unfold fB_X8_put_84_L2
    refine Ep_ite (fun _ => ?_) (fun _ => ?_)
    · exact zfL_X8_put_84_L27 x2 0 S hS
    · refine Ep_ck ?_
      refine Ep_ck ?_
      refine Ep_lt (fun S_14 eS_14 => ?_)
      have hS_14 : zf S0 S_14 := by rw [eS_14]; exact zf_s hS (by omega)
      refine Ep_lt (fun y15 ey15 => ?_)
      exact hk2 y15 S_14 hS_14
set_option maxHeartbeats 1000000 in
set_option maxRecDepth 100000 in
theorem zfL_X8_put_84_L2 {S0 : Tr} (x2 : Int32)    (x3 : Int32) (S : Tr) (hS : zf S0 S) : Ep (fL_X8_put_84_L2 x2 x3 S) (fun q => zf S0 q) := by
  unfold fL_X8_put_84_L2
  exact zfB_X8_put_84_L2 x2 2000 x3 S hS
set_option maxHeartbeats 1000000 in
set_option maxRecDepth 100000 in
theorem zf_X8_put_84 {S0 : Tr} (S : Tr) (x2 : Int32) (hS : zf S0 S)   : Ep (f_X8_put_84 S x2) (fun q => zf S0 q) := by
  unfold f_X8_put_84
  exact zfL_X8_put_84_L2 x2 0 S hS
set_option maxHeartbeats 1000000 in
set_option maxRecDepth 100000 in
theorem zfJ_X8_remember_J49 {S0 : Tr} (S : Tr) (hS : zf S0 S)   : Ep (fJ_X8_remember_J49 S) (fun q => zf S0 q) := by
  unfold fJ_X8_remember_J49
  refine Ep_bd (zf_X8_put_84 S ((61 : Int32) * (S 0 82)) hS) (fun S_2 hS_2 => ?_)
  refine Ep_lt (fun S_5 eS_5 => ?_)
  have hS_5 : zf S0 S_5 := by rw [eS_5]; exact zf_s hS_2 (by omega)
  exact Ep_some hS_5
set_option maxHeartbeats 1000000 in
set_option maxRecDepth 100000 in
theorem zfJ_X8_remember_J39 {S0 : Tr} (S : Tr) (hS : zf S0 S)   : Ep (fJ_X8_remember_J39 S) (fun q => zf S0 q) := by
  unfold fJ_X8_remember_J39
  refine Ep_lt (fun S_7 eS_7 => ?_)
  have hS_7 : zf S0 S_7 := by rw [eS_7]; exact zf_s hS (by omega)
  exact zfJ_X8_remember_J49 S_7 hS_7
set_option maxHeartbeats 1000000 in
set_option maxRecDepth 100000 in
theorem zfB_X8_remember_L11 {S0 : Tr}     (N : Nat) : ∀ (x1 : Int32) (S : Tr), zf S0 S → Ep (lpF (fun _ _ => none) (fB_X8_remember_L11) N x1 S) (fun q => zf S0 q) := by
  induction N with
  | zero => intro x1 S _; exact Ep_none
  | succ N ih =>
    intro x1 S hS
    show Ep (fB_X8_remember_L11 (lpF (fun _ _ => none) (fB_X8_remember_L11) N) x1 S) _
    have hk11 := ih
    clear ih
    generalize lpF (fun _ _ => none) (fB_X8_remember_L11) N = k11 at hk11 ⊢
    unfold fB_X8_remember_L11
    refine Ep_ite (fun _ => ?_) (fun _ => ?_)
    · exact zfJ_X8_remember_J39 S hS
    · refine Ep_ck ?_
      refine Ep_ck ?_
      refine Ep_lt (fun S_10 eS_10 => ?_)
      have hS_10 : zf S0 S_10 := by rw [eS_10]; exact zf_s hS (by omega)
      refine Ep_lt (fun y11 ey11 => ?_)
      exact hk11 y11 S_10 hS_10
set_option maxHeartbeats 1000000 in
set_option maxRecDepth 100000 in
theorem zfL_X8_remember_L11 {S0 : Tr}     (x1 : Int32) (S : Tr) (hS : zf S0 S) : Ep (fL_X8_remember_L11 x1 S) (fun q => zf S0 q) := by
  unfold fL_X8_remember_L11
  exact zfB_X8_remember_L11 2000 x1 S hS
set_option maxHeartbeats 1000000 in
set_option maxRecDepth 100000 in
theorem zf_X8_remember {S0 : Tr} (S : Tr) (hS : zf S0 S)   : Ep (f_X8_remember S) (fun q => zf S0 q) := by
  unfold f_X8_remember
  refine Ep_ite (fun _ => ?_) (fun _ => ?_)
  · exact zfL_X8_remember_L11 0 S hS
  · exact zfJ_X8_remember_J49 S hS
set_option maxHeartbeats 1000000 in
set_option maxRecDepth 100000 in
theorem zfJ_X8_takes_J96 {S0 : Tr} (x1 : Int32) (x2 : Int32) (x3 : Int32) (S : Tr) (hS : zf S0 S)   : Ep (fJ_X8_takes_J96 x1 x2 x3 S) (fun q => zf S0 q) := by
  unfold fJ_X8_takes_J96
  refine Ep_ck ?_
  refine Ep_lt (fun S_11 eS_11 => ?_)
  have hS_11 : zf S0 S_11 := by rw [eS_11]; exact zf_s hS (by omega)
  refine Ep_lt (fun S_12 eS_12 => ?_)
  have hS_12 : zf S0 S_12 := by rw [eS_12]; exact zf_s hS_11 (by omega)
  exact Ep_some hS_12
set_option maxHeartbeats 1000000 in
set_option maxRecDepth 100000 in
theorem zfB_X8_takes_L36 {S0 : Tr} (x1 : Int32) (x2 : Int32) (x3 : Int32) (x4 : Int32)    (N : Nat) : ∀ (x5 : Int32) (S : Tr), zf S0 S → Ep (lpF (fun _ _ => none) (fB_X8_takes_L36 x1 x2 x3 x4) N x5 S) (fun q => zf S0 q) := by
  induction N with
  | zero => intro x5 S _; exact Ep_none
  | succ N ih =>
    intro x5 S hS
    show Ep (fB_X8_takes_L36 x1 x2 x3 x4 (lpF (fun _ _ => none) (fB_X8_takes_L36 x1 x2 x3 x4) N) x5 S) _
    have hk36 := ih
    clear ih
    generalize lpF (fun _ _ => none) (fB_X8_takes_L36 x1 x2 x3 x4) N = k36 at hk36 ⊢
    unfold fB_X8_takes_L36
    refine Ep_ck ?_
    refine Ep_ite (fun _ => ?_) (fun _ => ?_)
    · exact zfJ_X8_takes_J96 x1 x2 x3 S hS
    · refine Ep_ck ?_
      refine Ep_ck ?_
      refine Ep_lt (fun S_15 eS_15 => ?_)
      have hS_15 : zf S0 S_15 := by rw [eS_15]; exact zf_s hS (by omega)
      refine Ep_lt (fun y16 ey16 => ?_)
      exact hk36 y16 S_15 hS_15
set_option maxHeartbeats 1000000 in
set_option maxRecDepth 100000 in
theorem zfL_X8_takes_L36 {S0 : Tr} (x1 : Int32) (x2 : Int32) (x3 : Int32) (x4 : Int32)    (x5 : Int32) (S : Tr) (hS : zf S0 S) : Ep (fL_X8_takes_L36 x1 x2 x3 x4 x5 S) (fun q => zf S0 q) := by
  unfold fL_X8_takes_L36
  exact zfB_X8_takes_L36 x1 x2 x3 x4 2000 x5 S hS
set_option maxHeartbeats 1000000 in
set_option maxRecDepth 100000 in
theorem zf_X8_takes {S0 : Tr} (S : Tr) (x1 : Int32) (x2 : Int32) (x3 : Int32) (hS : zf S0 S)   : Ep (f_X8_takes S x1 x2 x3) (fun q => zf S0 q) := by
  unfold f_X8_takes
  refine Ep_ck ?_
  refine Ep_lt (fun y2 ey2 => ?_)
  refine Ep_any (fun r3 => ?_)
  refine Ep_ck ?_
  refine Ep_lt (fun S_7 eS_7 => ?_)
  have hS_7 : zf S0 S_7 := by rw [eS_7]; exact zf_s hS (by omega)
  exact zfL_X8_takes_L36 x1 x2 x3 y2 r3 S_7 hS_7
set_option maxHeartbeats 1000000 in
set_option maxRecDepth 100000 in
theorem zf_X8_lays {S0 : Tr} (S : Tr) (x1 : Int32) (x2 : Int32) (x3 : Int32) (hS : zf S0 S)   : Ep (f_X8_lays S x1 x2 x3) (fun q => zf S0 q) := by
  unfold f_X8_lays
  refine Ep_ck ?_
  refine Ep_ck ?_
  refine Ep_lt (fun S_3 eS_3 => ?_)
  have hS_3 : zf S0 S_3 := by rw [eS_3]; exact zf_s hS (by omega)
  refine Ep_lt (fun S_4 eS_4 => ?_)
  have hS_4 : zf S0 S_4 := by rw [eS_4]; exact zf_s hS_3 (by omega)
  refine Ep_ck ?_
  refine Ep_lt (fun S_6 eS_6 => ?_)
  have hS_6 : zf S0 S_6 := by rw [eS_6]; exact zf_s hS_4 (by omega)
  refine Ep_lt (fun S_7 eS_7 => ?_)
  have hS_7 : zf S0 S_7 := by rw [eS_7]; exact zf_s hS_6 (by omega)
  exact Ep_some hS_7
set_option maxHeartbeats 1000000 in
set_option maxRecDepth 100000 in
theorem zfJ_X8_move_J67 {S0 : Tr} (x1 : Int32) (x2 : Int32) (S : Tr) (hS : zf S0 S)   : Ep (fJ_X8_move_J67 x1 x2 S) (fun q => zf S0 q.2) := by
  unfold fJ_X8_move_J67
  refine Ep_bd (zf_X8_remember S hS) (fun S_17 hS_17 => ?_)
  refine Ep_bd (zf_X8_takes S_17 (0 : Int32) x1 (1 : Int32) hS_17) (fun S_20 hS_20 => ?_)
  refine Ep_bd (zf_X8_lays S_20 (0 : Int32) x2 x1 hS_20) (fun S_23 hS_23 => ?_)
  exact Ep_some hS_23
set_option maxHeartbeats 1000000 in
set_option maxRecDepth 100000 in
theorem zf_X8_move {S0 : Tr} (S : Tr) (x1 : Int32) (x2 : Int32) (hS : zf S0 S)   : Ep (f_X8_move S x1 x2) (fun q => zf S0 q.2) := by
  unfold f_X8_move
  refine Ep_lt (fun S_1 eS_1 => ?_)
  have hS_1 : zf S0 S_1 := by rw [eS_1]; exact zf_s hS (by omega)
  refine Ep_any (fun r2 => ?_)
  refine Ep_ite (fun _ => ?_) (fun _ => ?_)
  · exact Ep_some hS_1
  · refine Ep_any (fun r6 => ?_)
    refine Ep_ite (fun _ => ?_) (fun _ => ?_)
    · exact Ep_some hS_1
    · refine Ep_ck ?_
      refine Ep_ite (fun _ => ?_) (fun _ => ?_)
      · refine Ep_ite (fun _ => ?_) (fun _ => ?_)
        · refine Ep_any (fun r26 => ?_)
          refine Ep_ite (fun _ => ?_) (fun _ => ?_)
          · exact Ep_some hS_1
          · exact zfJ_X8_move_J67 x1 x2 S_1 hS_1
        · refine Ep_any (fun r13 => ?_)
          refine Ep_ite (fun _ => ?_) (fun _ => ?_)
          · exact Ep_some hS_1
          · exact zfJ_X8_move_J67 x1 x2 S_1 hS_1
      · exact Ep_some hS_1
set_option maxHeartbeats 1000000 in
set_option maxRecDepth 100000 in
theorem zfB_X8_plainTried_L42 {S0 : Tr}     (N : Nat) : ∀ (x1 : Int32) (S : Tr), zf S0 S → Ep (lpF (fun _ _ => none) (fB_X8_plainTried_L42) N x1 S) (fun q => zf S0 q) := by
  induction N with
  | zero => intro x1 S _; exact Ep_none
  | succ N ih =>
    intro x1 S hS
    show Ep (fB_X8_plainTried_L42 (lpF (fun _ _ => none) (fB_X8_plainTried_L42) N) x1 S) _
    have hk42 := ih
    clear ih
    generalize lpF (fun _ _ => none) (fB_X8_plainTried_L42) N = k42 at hk42 ⊢
    unfold fB_X8_plainTried_L42
    refine Ep_ite (fun _ => ?_) (fun _ => ?_)
    · exact Ep_some hS
    · refine Ep_ck ?_
      refine Ep_lt (fun S_10 eS_10 => ?_)
      have hS_10 : zf S0 S_10 := by rw [eS_10]; exact zf_s hS (by omega)
      refine Ep_lt (fun y11 ey11 => ?_)
      exact hk42 y11 S_10 hS_10
set_option maxHeartbeats 1000000 in
set_option maxRecDepth 100000 in
theorem zfL_X8_plainTried_L42 {S0 : Tr}     (x1 : Int32) (S : Tr) (hS : zf S0 S) : Ep (fL_X8_plainTried_L42 x1 S) (fun q => zf S0 q) := by
  unfold fL_X8_plainTried_L42
  exact zfB_X8_plainTried_L42 2000 x1 S hS
set_option maxHeartbeats 1000000 in
set_option maxRecDepth 100000 in
theorem zf_X8_plainTried {S0 : Tr} (S : Tr) (hS : zf S0 S)   : Ep (f_X8_plainTried S) (fun q => zf S0 q) := by
  unfold f_X8_plainTried
  refine Ep_lt (fun S_1 eS_1 => ?_)
  have hS_1 : zf S0 S_1 := by rw [eS_1]; exact zf_s hS (by omega)
  refine Ep_lt (fun S_2 eS_2 => ?_)
  have hS_2 : zf S0 S_2 := by rw [eS_2]; exact zf_s hS_1 (by omega)
  refine Ep_lt (fun S_3 eS_3 => ?_)
  have hS_3 : zf S0 S_3 := by rw [eS_3]; exact zf_s hS_2 (by omega)
  refine Ep_lt (fun S_4 eS_4 => ?_)
  have hS_4 : zf S0 S_4 := by rw [eS_4]; exact zf_s hS_3 (by omega)
  refine Ep_lt (fun S_5 eS_5 => ?_)
  have hS_5 : zf S0 S_5 := by rw [eS_5]; exact zf_s hS_4 (by omega)
  refine Ep_lt (fun S_6 eS_6 => ?_)
  have hS_6 : zf S0 S_6 := by rw [eS_6]; exact zf_s hS_5 (by omega)
  refine Ep_lt (fun S_7 eS_7 => ?_)
  have hS_7 : zf S0 S_7 := by rw [eS_7]; exact zf_s hS_6 (by omega)
  exact zfL_X8_plainTried_L42 0 S_7 hS_7
set_option maxHeartbeats 1000000 in
set_option maxRecDepth 100000 in
theorem zfJ_X8_layTried_J174 {S0 : Tr} (S : Tr) (hS : zf S0 S)   : Ep (fJ_X8_layTried_J174 S) (fun q => zf S0 q) := by
  unfold fJ_X8_layTried_J174
  refine Ep_lt (fun S_5 eS_5 => ?_)
  have hS_5 : zf S0 S_5 := by rw [eS_5]; exact zf_s hS (by omega)
  refine Ep_lt (fun S_6 eS_6 => ?_)
  have hS_6 : zf S0 S_6 := by rw [eS_6]; exact zf_s hS_5 (by omega)
  refine Ep_lt (fun S_7 eS_7 => ?_)
  have hS_7 : zf S0 S_7 := by rw [eS_7]; exact zf_s hS_6 (by omega)
  refine Ep_bd (zf_X8_plainTried S_7 hS_7) (fun S_8 hS_8 => ?_)
  exact Ep_some hS_8
set_option maxHeartbeats 1000000 in
set_option maxRecDepth 100000 in
theorem zfB_X8_layTried_L102 {S0 : Tr}     (N : Nat) : ∀ (x1 : Int32) (S : Tr), zf S0 S → Ep (lpF (fun _ _ => none) (fB_X8_layTried_L102) N x1 S) (fun q => zf S0 q) := by
  induction N with
  | zero => intro x1 S _; exact Ep_none
  | succ N ih =>
    intro x1 S hS
    show Ep (fB_X8_layTried_L102 (lpF (fun _ _ => none) (fB_X8_layTried_L102) N) x1 S) _
    have hk102 := ih
    clear ih
    generalize lpF (fun _ _ => none) (fB_X8_layTried_L102) N = k102 at hk102 ⊢
    unfold fB_X8_layTried_L102
    refine Ep_ite (fun _ => ?_) (fun _ => ?_)
    · exact zfJ_X8_layTried_J174 S hS
    · refine Ep_ck ?_
      refine Ep_ck ?_
      refine Ep_lt (fun S_13 eS_13 => ?_)
      have hS_13 : zf S0 S_13 := by rw [eS_13]; exact zf_s hS (by omega)
      refine Ep_lt (fun S_14 eS_14 => ?_)
      have hS_14 : zf S0 S_14 := by rw [eS_14]; exact zf_s hS_13 (by omega)
      refine Ep_lt (fun S_15 eS_15 => ?_)
      have hS_15 : zf S0 S_15 := by rw [eS_15]; exact zf_s hS_14 (by omega)
      refine Ep_lt (fun S_16 eS_16 => ?_)
      have hS_16 : zf S0 S_16 := by rw [eS_16]; exact zf_s hS_15 (by omega)
      refine Ep_lt (fun y17 ey17 => ?_)
      exact hk102 y17 S_16 hS_16
set_option maxHeartbeats 1000000 in
set_option maxRecDepth 100000 in
theorem zfL_X8_layTried_L102 {S0 : Tr}     (x1 : Int32) (S : Tr) (hS : zf S0 S) : Ep (fL_X8_layTried_L102 x1 S) (fun q => zf S0 q) := by
  unfold fL_X8_layTried_L102
  exact zfB_X8_layTried_L102 2000 x1 S hS
set_option maxHeartbeats 1000000 in
set_option maxRecDepth 100000 in
theorem zfB_X8_layTried_L75 {S0 : Tr}     (N : Nat) : ∀ (x1 : Int32) (S : Tr), zf S0 S → Ep (lpF (fun _ _ => none) (fB_X8_layTried_L75) N x1 S) (fun q => zf S0 q) := by
  induction N with
  | zero => intro x1 S _; exact Ep_none
  | succ N ih =>
    intro x1 S hS
    show Ep (fB_X8_layTried_L75 (lpF (fun _ _ => none) (fB_X8_layTried_L75) N) x1 S) _
    have hk75 := ih
    clear ih
    generalize lpF (fun _ _ => none) (fB_X8_layTried_L75) N = k75 at hk75 ⊢
    unfold fB_X8_layTried_L75
    refine Ep_ite (fun _ => ?_) (fun _ => ?_)
    · exact zfL_X8_layTried_L102 0 S hS
    · refine Ep_ck ?_
      refine Ep_ck ?_
      refine Ep_lt (fun S_20 eS_20 => ?_)
      have hS_20 : zf S0 S_20 := by rw [eS_20]; exact zf_s hS (by omega)
      refine Ep_lt (fun y21 ey21 => ?_)
      exact hk75 y21 S_20 hS_20
set_option maxHeartbeats 1000000 in
set_option maxRecDepth 100000 in
theorem zfL_X8_layTried_L75 {S0 : Tr}     (x1 : Int32) (S : Tr) (hS : zf S0 S) : Ep (fL_X8_layTried_L75 x1 S) (fun q => zf S0 q) := by
  unfold fL_X8_layTried_L75
  exact zfB_X8_layTried_L75 2000 x1 S hS
set_option maxHeartbeats 1000000 in
set_option maxRecDepth 100000 in
theorem zfB_X8_layTried_L46 {S0 : Tr}     (N : Nat) : ∀ (x1 : Int32) (S : Tr), zf S0 S → Ep (lpF (fun _ _ => none) (fB_X8_layTried_L46) N x1 S) (fun q => zf S0 q) := by
  induction N with
  | zero => intro x1 S _; exact Ep_none
  | succ N ih =>
    intro x1 S hS
    show Ep (fB_X8_layTried_L46 (lpF (fun _ _ => none) (fB_X8_layTried_L46) N) x1 S) _
    have hk46 := ih
    clear ih
    generalize lpF (fun _ _ => none) (fB_X8_layTried_L46) N = k46 at hk46 ⊢
    unfold fB_X8_layTried_L46
    refine Ep_ite (fun _ => ?_) (fun _ => ?_)
    · exact zfL_X8_layTried_L75 0 S hS
    · refine Ep_ck ?_
      refine Ep_ck ?_
      refine Ep_lt (fun S_24 eS_24 => ?_)
      have hS_24 : zf S0 S_24 := by rw [eS_24]; exact zf_s hS (by omega)
      refine Ep_lt (fun y25 ey25 => ?_)
      exact hk46 y25 S_24 hS_24
set_option maxHeartbeats 1000000 in
set_option maxRecDepth 100000 in
theorem zfL_X8_layTried_L46 {S0 : Tr}     (x1 : Int32) (S : Tr) (hS : zf S0 S) : Ep (fL_X8_layTried_L46 x1 S) (fun q => zf S0 q) := by
  unfold fL_X8_layTried_L46
  exact zfB_X8_layTried_L46 2000 x1 S hS
set_option maxHeartbeats 1000000 in
set_option maxRecDepth 100000 in
theorem zfB_X8_layTried_L2 {S0 : Tr}     (N : Nat) : ∀ (x1 : Int32) (S : Tr), zf S0 S → Ep (lpF (fun _ _ => none) (fB_X8_layTried_L2) N x1 S) (fun q => zf S0 q) := by
  induction N with
  | zero => intro x1 S _; exact Ep_none
  | succ N ih =>
    intro x1 S hS
    show Ep (fB_X8_layTried_L2 (lpF (fun _ _ => none) (fB_X8_layTried_L2) N) x1 S) _
    have hk2 := ih
    clear ih
    generalize lpF (fun _ _ => none) (fB_X8_layTried_L2) N = k2 at hk2 ⊢
    unfold fB_X8_layTried_L2
    refine Ep_ite (fun _ => ?_) (fun _ => ?_)
    · exact zfL_X8_layTried_L46 0 S hS
    · refine Ep_ck ?_
      refine Ep_ck ?_
      refine Ep_lt (fun S_28 eS_28 => ?_)
      have hS_28 : zf S0 S_28 := by rw [eS_28]; exact zf_s hS (by omega)
      refine Ep_lt (fun S_29 eS_29 => ?_)
      have hS_29 : zf S0 S_29 := by rw [eS_29]; exact zf_s hS_28 (by omega)
      refine Ep_lt (fun y30 ey30 => ?_)
      exact hk2 y30 S_29 hS_29
set_option maxHeartbeats 1000000 in
set_option maxRecDepth 100000 in
theorem zfL_X8_layTried_L2 {S0 : Tr}     (x1 : Int32) (S : Tr) (hS : zf S0 S) : Ep (fL_X8_layTried_L2 x1 S) (fun q => zf S0 q) := by
  unfold fL_X8_layTried_L2
  exact zfB_X8_layTried_L2 2000 x1 S hS
set_option maxHeartbeats 1000000 in
set_option maxRecDepth 100000 in
theorem zf_X8_layTried {S0 : Tr} (S : Tr) (hS : zf S0 S)   : Ep (f_X8_layTried S) (fun q => zf S0 q) := by
  unfold f_X8_layTried
  exact zfL_X8_layTried_L2 0 S hS
set_option maxHeartbeats 1000000 in
set_option maxRecDepth 100000 in
theorem zfB_X8_turns_L113 {S0 : Tr} (x1 : Int32) (x2 : Int32) (x3 : Int32) (x4 : Int32)    (N : Nat) : ∀ (x5 : Int32) (S : Tr), zf S0 S → Ep (lpF (fun _ _ => none) (fB_X8_turns_L113 x1 x2 x3 x4) N x5 S) (fun q => zf S0 q.2) := by
  induction N with
  | zero => intro x5 S _; exact Ep_none
  | succ N ih =>
    intro x5 S hS
    show Ep (fB_X8_turns_L113 x1 x2 x3 x4 (lpF (fun _ _ => none) (fB_X8_turns_L113 x1 x2 x3 x4) N) x5 S) _
    have hk113 := ih
    clear ih
    generalize lpF (fun _ _ => none) (fB_X8_turns_L113 x1 x2 x3 x4) N = k113 at hk113 ⊢
    unfold fB_X8_turns_L113
    refine Ep_ite (fun _ => ?_) (fun _ => ?_)
    · exact Ep_some hS
    · refine Ep_ck ?_
      refine Ep_ck ?_
      refine Ep_lt (fun S_7 eS_7 => ?_)
      have hS_7 : zf S0 S_7 := by rw [eS_7]; exact zf_s hS (by omega)
      refine Ep_lt (fun y8 ey8 => ?_)
      exact hk113 y8 S_7 hS_7
set_option maxHeartbeats 1000000 in
set_option maxRecDepth 100000 in
theorem zfL_X8_turns_L113 {S0 : Tr} (x1 : Int32) (x2 : Int32) (x3 : Int32) (x4 : Int32)    (x5 : Int32) (S : Tr) (hS : zf S0 S) : Ep (fL_X8_turns_L113 x1 x2 x3 x4 x5 S) (fun q => zf S0 q.2) := by
  unfold fL_X8_turns_L113
  exact zfB_X8_turns_L113 x1 x2 x3 x4 2000 x5 S hS
set_option maxHeartbeats 1000000 in
set_option maxRecDepth 100000 in
theorem zfJ_X8_turns_J78 {S0 : Tr} (k17 : Int32 → Int32 → Tr → Option (Int32 × Tr)) (x1 : Int32) (x2 : Int32) (x3 : Int32) (x4 : Int32) (x5 : Int32) (x6 : Int32) (x7 : Int32) (S : Tr) (hS : zf S0 S) (hk17 : ∀ (x4 : Int32) (x5 : Int32) (S : Tr), zf S0 S → Ep (k17 x4 x5 S) (fun q => zf S0 q.2))  : Ep (fJ_X8_turns_J78 k17 x1 x2 x3 x4 x5 x6 x7 S) (fun q => zf S0 q.2) := by
  unfold fJ_X8_turns_J78
  refine Ep_ck ?_
  refine Ep_lt (fun S_14 eS_14 => ?_)
  have hS_14 : zf S0 S_14 := by rw [eS_14]; exact zf_s hS (by omega)
  refine Ep_ite (fun _ => ?_) (fun _ => ?_)
  · refine Ep_lt (fun y18 ey18 => ?_)
    refine Ep_lt (fun y19 ey19 => ?_)
    exact hk17 y18 y19 S_14 hS_14
  · refine Ep_lt (fun y16 ey16 => ?_)
    refine Ep_lt (fun y17 ey17 => ?_)
    exact hk17 y16 y17 S_14 hS_14
set_option maxHeartbeats 1000000 in
set_option maxRecDepth 100000 in
theorem zfB_X8_turns_L39 {S0 : Tr} (k17 : Int32 → Int32 → Tr → Option (Int32 × Tr)) (S : Tr) (x1 : Int32) (x2 : Int32) (x3 : Int32) (x4 : Int32) (x5 : Int32) (x6 : Int32) (hS : zf S0 S) (hk17 : ∀ (x4 : Int32) (x5 : Int32) (S : Tr), zf S0 S → Ep (k17 x4 x5 S) (fun q => zf S0 q.2))  (N : Nat) : ∀ (x7 : Int32) (x8 : Int32), Ep (lpF (fun _ _ => none) (fB_X8_turns_L39 k17 S x1 x2 x3 x4 x5 x6) N x7 x8) (fun q => zf S0 q.2) := by
  induction N with
  | zero => intro x7 x8; exact Ep_none
  | succ N ih =>
    intro x7 x8
    show Ep (fB_X8_turns_L39 k17 S x1 x2 x3 x4 x5 x6 (lpF (fun _ _ => none) (fB_X8_turns_L39 k17 S x1 x2 x3 x4 x5 x6) N) x7 x8) _
    have hk39 := ih
    clear ih
    generalize lpF (fun _ _ => none) (fB_X8_turns_L39 k17 S x1 x2 x3 x4 x5 x6) N = k39 at hk39 ⊢
    unfold fB_X8_turns_L39
    refine Ep_ite (fun _ => ?_) (fun _ => ?_)
    · exact zfJ_X8_turns_J78 k17 x1 x2 x3 x4 x5 x6 x7 S hS hk17
    · refine Ep_any (fun r20 => ?_)
      refine Ep_any (fun r23 => ?_)
      refine Ep_ite (fun _ => ?_) (fun _ => ?_)
      · refine Ep_lt (fun y27 ey27 => ?_)
        refine Ep_lt (fun y28 ey28 => ?_)
        exact hk39 y27 y28
      · refine Ep_lt (fun y29 ey29 => ?_)
        refine Ep_lt (fun y30 ey30 => ?_)
        exact hk39 y29 y30
set_option maxHeartbeats 1000000 in
set_option maxRecDepth 100000 in
theorem zfL_X8_turns_L39 {S0 : Tr} (k17 : Int32 → Int32 → Tr → Option (Int32 × Tr)) (S : Tr) (x1 : Int32) (x2 : Int32) (x3 : Int32) (x4 : Int32) (x5 : Int32) (x6 : Int32) (hS : zf S0 S) (hk17 : ∀ (x4 : Int32) (x5 : Int32) (S : Tr), zf S0 S → Ep (k17 x4 x5 S) (fun q => zf S0 q.2))  (x7 : Int32) (x8 : Int32)  : Ep (fL_X8_turns_L39 k17 S x1 x2 x3 x4 x5 x6 x7 x8) (fun q => zf S0 q.2) := by
  unfold fL_X8_turns_L39
  exact zfB_X8_turns_L39 k17 S x1 x2 x3 x4 x5 x6 hS hk17 2000 x7 x8
set_option maxHeartbeats 1000000 in
set_option maxRecDepth 100000 in
theorem zfB_X8_turns_L17 {S0 : Tr} (x1 : Int32) (x2 : Int32) (x3 : Int32)    (N : Nat) : ∀ (x4 : Int32) (x5 : Int32) (S : Tr), zf S0 S → Ep (lpF (fun _ _ _ => none) (fB_X8_turns_L17 x1 x2 x3) N x4 x5 S) (fun q => zf S0 q.2) := by
  induction N with
  | zero => intro x4 x5 S _; exact Ep_none
  | succ N ih =>
    intro x4 x5 S hS
    show Ep (fB_X8_turns_L17 x1 x2 x3 (lpF (fun _ _ _ => none) (fB_X8_turns_L17 x1 x2 x3) N) x4 x5 S) _
    have hk17 := ih
    clear ih
    generalize lpF (fun _ _ _ => none) (fB_X8_turns_L17 x1 x2 x3) N = k17 at hk17 ⊢
    unfold fB_X8_turns_L17
    refine Ep_ite (fun _ => ?_) (fun _ => ?_)
    · exact zfL_X8_turns_L113 x1 x2 x3 x4 0 S hS
    · refine Ep_any (fun r9 => ?_)
      exact zfL_X8_turns_L39 k17 S x1 x2 x3 x4 x5 r9 hS hk17 0 0
set_option maxHeartbeats 1000000 in
set_option maxRecDepth 100000 in
theorem zfL_X8_turns_L17 {S0 : Tr} (x1 : Int32) (x2 : Int32) (x3 : Int32)    (x4 : Int32) (x5 : Int32) (S : Tr) (hS : zf S0 S) : Ep (fL_X8_turns_L17 x1 x2 x3 x4 x5 S) (fun q => zf S0 q.2) := by
  unfold fL_X8_turns_L17
  exact zfB_X8_turns_L17 x1 x2 x3 2000 x4 x5 S hS
set_option maxHeartbeats 1000000 in
set_option maxRecDepth 100000 in
theorem zf_X8_turns {S0 : Tr} (S : Tr) (x1 : Int32) (x2 : Int32) (hS : zf S0 S)   : Ep (f_X8_turns S x1 x2) (fun q => zf S0 q.2) := by
  unfold f_X8_turns
  refine Ep_ck ?_
  refine Ep_lt (fun y2 ey2 => ?_)
  exact zfL_X8_turns_L17 x1 x2 y2 0 0 S hS
set_option maxHeartbeats 1000000 in
set_option maxRecDepth 100000 in
theorem zf_X8_turn {S0 : Tr} (S : Tr) (x1 : Int32) (hS : zf S0 S)   : Ep (f_X8_turn S x1) (fun q => zf S0 q.2) := by
  unfold f_X8_turn
  refine Ep_lt (fun S_1 eS_1 => ?_)
  have hS_1 : zf S0 S_1 := by rw [eS_1]; exact zf_s hS (by omega)
  refine Ep_any (fun r2 => ?_)
  refine Ep_ite (fun _ => ?_) (fun _ => ?_)
  · exact Ep_some hS_1
  · refine Ep_bd (zf_X8_layTried S_1 hS_1) (fun S_6 hS_6 => ?_)
    refine Ep_bd (zf_X8_turns S_6 (1 : Int32) x1 hS_6) (fun q hq => ?_)
    refine Ep_lt (fun r9 er9 => ?_)
    refine Ep_lt (fun S_10 eS_10 => ?_)
    have hS_10 : zf S0 S_10 := by rw [eS_10]; exact hq
    refine Ep_ite (fun _ => ?_) (fun _ => ?_)
    · exact Ep_some hS_10
    · refine Ep_bd (zf_X8_remember S_10 hS_10) (fun S_14 hS_14 => ?_)
      refine Ep_bd (zf_X8_turns S_14 (0 : Int32) x1 hS_14) (fun q hq => ?_)
      refine Ep_lt (fun r17 er17 => ?_)
      refine Ep_lt (fun S_18 eS_18 => ?_)
      have hS_18 : zf S0 S_18 := by rw [eS_18]; exact hq
      exact Ep_some hS_18
set_option maxHeartbeats 1000000 in
set_option maxRecDepth 100000 in
theorem zf_X8_help {S0 : Tr} (S : Tr) (x1 : Int32) (x2 : Int32) (hS : zf S0 S)   : Ep (f_X8_help S x1 x2) (fun q => zf S0 q.2) := by
  unfold f_X8_help
  refine Ep_lt (fun S_1 eS_1 => ?_)
  have hS_1 : zf S0 S_1 := by rw [eS_1]; exact zf_s hS (by omega)
  refine Ep_any (fun r2 => ?_)
  refine Ep_ite (fun _ => ?_) (fun _ => ?_)
  · exact Ep_some hS_1
  · refine Ep_any (fun r6 => ?_)
    refine Ep_ite (fun _ => ?_) (fun _ => ?_)
    · exact Ep_some hS_1
    · refine Ep_ck ?_
      refine Ep_ite (fun _ => ?_) (fun _ => ?_)
      · exact Ep_some hS_1
      · refine Ep_bd (zf_X8_remember S_1 hS_1) (fun S_12 hS_12 => ?_)
        refine Ep_lt (fun S_15 eS_15 => ?_)
        have hS_15 : zf S0 S_15 := by rw [eS_15]; exact zf_s hS_12 (by omega)
        exact Ep_some hS_15
set_option maxHeartbeats 1000000 in
set_option maxRecDepth 100000 in
theorem zfB_X8_take_84_L103 {S0 : Tr}     (N : Nat) : ∀ (x3 : Int32) (S : Tr), zf S0 S → Ep (lpF (fun _ _ => none) (fB_X8_take_84_L103) N x3 S) (fun q => zf S0 q) := by
  induction N with
  | zero => intro x3 S _; exact Ep_none
  | succ N ih =>
    intro x3 S hS
    show Ep (fB_X8_take_84_L103 (lpF (fun _ _ => none) (fB_X8_take_84_L103) N) x3 S) _
    have hk103 := ih
    clear ih
    generalize lpF (fun _ _ => none) (fB_X8_take_84_L103) N = k103 at hk103 ⊢
    unfold fB_X8_take_84_L103
    refine Ep_ite (fun _ => ?_) (fun _ => ?_)
    · exact Ep_some hS
    · refine Ep_ck ?_
      refine Ep_ite (fun _ => ?_) (fun _ => ?_)
      · refine Ep_lt (fun y8 ey8 => ?_)
        exact hk103 y8 S hS
      · refine Ep_ck ?_
        refine Ep_ck ?_
        refine Ep_lt (fun S_11 eS_11 => ?_)
        have hS_11 : zf S0 S_11 := by rw [eS_11]; exact zf_s hS (by omega)
        refine Ep_lt (fun y12 ey12 => ?_)
        exact hk103 y12 S_11 hS_11
set_option maxHeartbeats 1000000 in
set_option maxRecDepth 100000 in
theorem zfL_X8_take_84_L103 {S0 : Tr}     (x3 : Int32) (S : Tr) (hS : zf S0 S) : Ep (fL_X8_take_84_L103 x3 S) (fun q => zf S0 q) := by
  unfold fL_X8_take_84_L103
  exact zfB_X8_take_84_L103 2000 x3 S hS
set_option maxHeartbeats 1000000 in
set_option maxRecDepth 100000 in
theorem zfB_X8_take_84_L82 {S0 : Tr}     (N : Nat) : ∀ (x3 : Int32) (S : Tr), zf S0 S → Ep (lpF (fun _ _ => none) (fB_X8_take_84_L82) N x3 S) (fun q => zf S0 q) := by
  induction N with
  | zero => intro x3 S _; exact Ep_none
  | succ N ih =>
    intro x3 S hS
    show Ep (fB_X8_take_84_L82 (lpF (fun _ _ => none) (fB_X8_take_84_L82) N) x3 S) _
    have hk82 := ih
    clear ih
    generalize lpF (fun _ _ => none) (fB_X8_take_84_L82) N = k82 at hk82 ⊢
    unfold fB_X8_take_84_L82
    refine Ep_ite (fun _ => ?_) (fun _ => ?_)
    · exact zfL_X8_take_84_L103 0 S hS
    · refine Ep_ck ?_
      refine Ep_lt (fun S_14 eS_14 => ?_)
      have hS_14 : zf S0 S_14 := by rw [eS_14]; exact zf_s hS (by omega)
      refine Ep_lt (fun y15 ey15 => ?_)
      exact hk82 y15 S_14 hS_14
set_option maxHeartbeats 1000000 in
set_option maxRecDepth 100000 in
theorem zfL_X8_take_84_L82 {S0 : Tr}     (x3 : Int32) (S : Tr) (hS : zf S0 S) : Ep (fL_X8_take_84_L82 x3 S) (fun q => zf S0 q) := by
  unfold fL_X8_take_84_L82
  exact zfB_X8_take_84_L82 2000 x3 S hS
set_option maxHeartbeats 1000000 in
set_option maxRecDepth 100000 in
theorem zfB_X8_take_84_L54 {S0 : Tr} (x2 : Int32)    (N : Nat) : ∀ (x3 : Int32) (S : Tr), zf S0 S → Ep (lpF (fun _ _ => none) (fB_X8_take_84_L54 x2) N x3 S) (fun q => zf S0 q) := by
  induction N with
  | zero => intro x3 S _; exact Ep_none
  | succ N ih =>
    intro x3 S hS
    show Ep (fB_X8_take_84_L54 x2 (lpF (fun _ _ => none) (fB_X8_take_84_L54 x2) N) x3 S) _
    have hk54 := ih
    clear ih
    generalize lpF (fun _ _ => none) (fB_X8_take_84_L54 x2) N = k54 at hk54 ⊢
    unfold fB_X8_take_84_L54
    refine Ep_ite (fun _ => ?_) (fun _ => ?_)
    · exact zfL_X8_take_84_L82 0 S hS
    · refine Ep_ck ?_
      refine Ep_ck ?_
      refine Ep_lt (fun S_18 eS_18 => ?_)
      have hS_18 : zf S0 S_18 := by rw [eS_18]; exact zf_s hS (by omega)
      refine Ep_lt (fun y19 ey19 => ?_)
      exact hk54 y19 S_18 hS_18
set_option maxHeartbeats 1000000 in
set_option maxRecDepth 100000 in
theorem zfL_X8_take_84_L54 {S0 : Tr} (x2 : Int32)    (x3 : Int32) (S : Tr) (hS : zf S0 S) : Ep (fL_X8_take_84_L54 x2 x3 S) (fun q => zf S0 q) := by
  unfold fL_X8_take_84_L54
  exact zfB_X8_take_84_L54 x2 2000 x3 S hS
set_option maxHeartbeats 1000000 in
set_option maxRecDepth 100000 in
theorem zfB_X8_take_84_L27 {S0 : Tr} (x2 : Int32)    (N : Nat) : ∀ (x3 : Int32) (S : Tr), zf S0 S → Ep (lpF (fun _ _ => none) (fB_X8_take_84_L27 x2) N x3 S) (fun q => zf S0 q) := by
  induction N with
  | zero => intro x3 S _; exact Ep_none
  | succ N ih =>
    intro x3 S hS
    show Ep (fB_X8_take_84_L27 x2 (lpF (fun _ _ => none) (fB_X8_take_84_L27 x2) N) x3 S) _
    have hk27 := ih
    clear ih
    generalize lpF (fun _ _ => none) (fB_X8_take_84_L27 x2) N = k27 at hk27 ⊢
    unfold fB_X8_take_84_L27
    refine Ep_ite (fun _ => ?_) (fun _ => ?_)
    · exact zfL_X8_take_84_L54 x2 0 S hS
    · refine Ep_ck ?_
      refine Ep_ck ?_
      refine Ep_lt (fun S_22 eS_22 => ?_)
      have hS_22 : zf S0 S_22 := by rw [eS_22]; exact zf_s hS (by omega)
      refine Ep_lt (fun y23 ey23 => ?_)
      exact hk27 y23 S_22 hS_22
set_option maxHeartbeats 1000000 in
set_option maxRecDepth 100000 in
theorem zfL_X8_take_84_L27 {S0 : Tr} (x2 : Int32)    (x3 : Int32) (S : Tr) (hS : zf S0 S) : Ep (fL_X8_take_84_L27 x2 x3 S) (fun q => zf S0 q) := by
  unfold fL_X8_take_84_L27
  exact zfB_X8_take_84_L27 x2 2000 x3 S hS
set_option maxHeartbeats 1000000 in
set_option maxRecDepth 100000 in
theorem zfB_X8_take_84_L2 {S0 : Tr} (x2 : Int32)    (N : Nat) : ∀ (x3 : Int32) (S : Tr), zf S0 S → Ep (lpF (fun _ _ => none) (fB_X8_take_84_L2 x2) N x3 S) (fun q => zf S0 q) := by
  induction N with
  | zero => intro x3 S _; exact Ep_none
  | succ N ih =>
    intro x3 S hS
    show Ep (fB_X8_take_84_L2 x2 (lpF (fun _ _ => none) (fB_X8_take_84_L2 x2) N) x3 S) _
    have hk2 := ih
    clear ih
    generalize lpF (fun _ _ => none) (fB_X8_take_84_L2 x2) N = k2 at hk2 ⊢
    unfold fB_X8_take_84_L2
    refine Ep_ite (fun _ => ?_) (fun _ => ?_)
    · exact zfL_X8_take_84_L27 x2 0 S hS
    · refine Ep_ck ?_
      refine Ep_ck ?_
      refine Ep_lt (fun S_26 eS_26 => ?_)
      have hS_26 : zf S0 S_26 := by rw [eS_26]; exact zf_s hS (by omega)
      refine Ep_lt (fun y27 ey27 => ?_)
      exact hk2 y27 S_26 hS_26
set_option maxHeartbeats 1000000 in
set_option maxRecDepth 100000 in
theorem zfL_X8_take_84_L2 {S0 : Tr} (x2 : Int32)    (x3 : Int32) (S : Tr) (hS : zf S0 S) : Ep (fL_X8_take_84_L2 x2 x3 S) (fun q => zf S0 q) := by
  unfold fL_X8_take_84_L2
  exact zfB_X8_take_84_L2 x2 2000 x3 S hS
set_option maxHeartbeats 1000000 in
set_option maxRecDepth 100000 in
theorem zf_X8_take_84 {S0 : Tr} (S : Tr) (x2 : Int32) (hS : zf S0 S)   : Ep (f_X8_take_84 S x2) (fun q => zf S0 q) := by
  unfold f_X8_take_84
  exact zfL_X8_take_84_L2 x2 0 S hS
set_option maxHeartbeats 1000000 in
set_option maxRecDepth 100000 in
theorem zf_X8_undo {S0 : Tr} (S : Tr) (hS : zf S0 S)   : Ep (f_X8_undo S) (fun q => zf S0 q.2) := by
  unfold f_X8_undo
  refine Ep_lt (fun S_1 eS_1 => ?_)
  have hS_1 : zf S0 S_1 := by rw [eS_1]; exact zf_s hS (by omega)
  refine Ep_ite (fun _ => ?_) (fun _ => ?_)
  · exact Ep_some hS_1
  · refine Ep_lt (fun S_3 eS_3 => ?_)
    have hS_3 : zf S0 S_3 := by rw [eS_3]; exact zf_s hS_1 (by omega)
    refine Ep_bd (zf_X8_take_84 S_3 ((61 : Int32) * (S_3 0 82)) hS_3) (fun S_4 hS_4 => ?_)
    exact Ep_some hS_4
set_option maxHeartbeats 1000000 in
set_option maxRecDepth 100000 in
theorem zfB_X8_outs_L261 {S0 : Tr} (L : Lo) (x1 : Int32)    (N : Nat) : ∀ (x3 : Int32) (S : Tr), zf S0 S → Ep (lpF (fun _ _ => none) (fB_X8_outs_L261 L x1) N x3 S) (fun q => zf S0 q.1) := by
  induction N with
  | zero => intro x3 S _; exact Ep_none
  | succ N ih =>
    intro x3 S hS
    show Ep (fB_X8_outs_L261 L x1 (lpF (fun _ _ => none) (fB_X8_outs_L261 L x1) N) x3 S) _
    have hk261 := ih
    clear ih
    generalize lpF (fun _ _ => none) (fB_X8_outs_L261 L x1) N = k261 at hk261 ⊢
    unfold fB_X8_outs_L261
    refine Ep_ite (fun _ => ?_) (fun _ => ?_)
    · exact Ep_some hS
    · refine Ep_ck ?_
      refine Ep_ite (fun _ => ?_) (fun _ => ?_)
      · refine Ep_lt (fun S_10 eS_10 => ?_)
        have hS_10 : zf S0 S_10 := by rw [eS_10]; exact zf_s hS (by omega)
        refine Ep_lt (fun y11 ey11 => ?_)
        exact hk261 y11 S_10 hS_10
      · refine Ep_lt (fun y9 ey9 => ?_)
        exact hk261 y9 S hS
set_option maxHeartbeats 1000000 in
set_option maxRecDepth 100000 in
theorem zfL_X8_outs_L261 {S0 : Tr} (L : Lo) (x1 : Int32)    (x3 : Int32) (S : Tr) (hS : zf S0 S) : Ep (fL_X8_outs_L261 L x1 x3 S) (fun q => zf S0 q.1) := by
  unfold fL_X8_outs_L261
  exact zfB_X8_outs_L261 L x1 2000 x3 S hS
set_option maxHeartbeats 1000000 in
set_option maxRecDepth 100000 in
theorem zfB_X8_outs_L223 {S0 : Tr} (L : Lo) (x1 : Int32)    (N : Nat) : ∀ (x3 : Int32) (S : Tr), zf S0 S → Ep (lpF (fun _ _ => none) (fB_X8_outs_L223 L x1) N x3 S) (fun q => zf S0 q.1) := by
  induction N with
  | zero => intro x3 S _; exact Ep_none
  | succ N ih =>
    intro x3 S hS
    show Ep (fB_X8_outs_L223 L x1 (lpF (fun _ _ => none) (fB_X8_outs_L223 L x1) N) x3 S) _
    have hk223 := ih
    clear ih
    generalize lpF (fun _ _ => none) (fB_X8_outs_L223 L x1) N = k223 at hk223 ⊢
    unfold fB_X8_outs_L223
    refine Ep_ite (fun _ => ?_) (fun _ => ?_)
    · exact zfL_X8_outs_L261 L x1 0 S hS
    · refine Ep_ck ?_
      refine Ep_ite (fun _ => ?_) (fun _ => ?_)
      · refine Ep_bd (zf_X8_takes S x1 x3 (5 : Int32) hS) (fun S_15 hS_15 => ?_)
        refine Ep_lt (fun y18 ey18 => ?_)
        exact hk223 y18 S_15 hS_15
      · refine Ep_lt (fun y14 ey14 => ?_)
        exact hk223 y14 S hS
set_option maxHeartbeats 1000000 in
set_option maxRecDepth 100000 in
theorem zfL_X8_outs_L223 {S0 : Tr} (L : Lo) (x1 : Int32)    (x3 : Int32) (S : Tr) (hS : zf S0 S) : Ep (fL_X8_outs_L223 L x1 x3 S) (fun q => zf S0 q.1) := by
  unfold fL_X8_outs_L223
  exact zfB_X8_outs_L223 L x1 2000 x3 S hS
set_option maxHeartbeats 1000000 in
set_option maxRecDepth 100000 in
theorem zfJ_X8_outs_J209 {S0 : Tr} (x1 : Int32) (S : Tr) (L : Lo) (hS : zf S0 S)   : Ep (fJ_X8_outs_J209 x1 S L) (fun q => zf S0 q.1) := by
  unfold fJ_X8_outs_J209
  refine Ep_ck ?_
  refine Ep_ite (fun _ => ?_) (fun _ => ?_)
  · exact zfL_X8_outs_L223 L x1 0 S hS
  · exact Ep_some hS
set_option maxHeartbeats 1000000 in
set_option maxRecDepth 100000 in
theorem zfJ_X8_outs_J182 {S0 : Tr} (k9 : Int32 → Int32 → Tr → Lo → Option (Tr × Lo)) (x1 : Int32) (x2 : Int32) (x3 : Int32) (S : Tr) (L : Lo) (hS : zf S0 S) (hk9 : ∀ (x2 : Int32) (x3 : Int32) (S : Tr) (L : Lo), zf S0 S → Ep (k9 x2 x3 S L) (fun q => zf S0 q.1))  : Ep (fJ_X8_outs_J182 k9 x1 x2 x3 S L) (fun q => zf S0 q.1) := by
  unfold fJ_X8_outs_J182
  refine Ep_any (fun r24 => ?_)
  refine Ep_ite (fun _ => ?_) (fun _ => ?_)
  · refine Ep_ck ?_
    refine Ep_lt (fun S_30 eS_30 => ?_)
    have hS_30 : zf S0 S_30 := by rw [eS_30]; exact zf_s hS (by omega)
    refine Ep_lt (fun y31 ey31 => ?_)
    exact hk9 x2 y31 S_30 L hS_30
  · refine Ep_lt (fun y28 ey28 => ?_)
    exact hk9 x2 y28 S L hS
set_option maxHeartbeats 1000000 in
set_option maxRecDepth 100000 in
theorem zfJ_X8_lawOf_J39 {S0 : Tr} (x1 : Int32) (S : Tr) (L : Lo) (hS : zf S0 S)   : Ep (fJ_X8_lawOf_J39 x1 S L) (fun q => zf S0 q.2.1) := by
  unfold fJ_X8_lawOf_J39
  refine Ep_ite (fun _ => ?_) (fun _ => ?_)
  · refine Ep_ck ?_
    refine Ep_ck ?_
    exact Ep_some hS
  · exact Ep_some hS
set_option maxHeartbeats 1000000 in
set_option maxRecDepth 100000 in
theorem zfJ_X8_bounded_J29 {S0 : Tr} (x1 : Int64) (s0 : Int32) (S : Tr) (hS : zf S0 S)   : Ep (fJ_X8_bounded_J29 x1 s0 S) (fun q => zf S0 q.2) := by
  unfold fJ_X8_bounded_J29
  refine Ep_ck ?_
  refine Ep_lt (fun S_3 eS_3 => ?_)
  have hS_3 : zf S0 S_3 := by rw [eS_3]; exact zf_s hS (by omega)
  refine Ep_ite (fun _ => ?_) (fun _ => ?_)
  · exact Ep_some hS_3
  · exact Ep_some hS_3
set_option maxHeartbeats 1000000 in
set_option maxRecDepth 100000 in
theorem zfJ_X8_bounded_J24 {S0 : Tr} (x1 : Int64) (S : Tr) (hS : zf S0 S)   : Ep (fJ_X8_bounded_J24 x1 S) (fun q => zf S0 q.2) := by
  unfold fJ_X8_bounded_J24
  exact zfJ_X8_bounded_J29 x1 1 S hS
set_option maxHeartbeats 1000000 in
set_option maxRecDepth 100000 in
theorem zf_X8_bounded {S0 : Tr} (S : Tr) (x1 : Int64) (hS : zf S0 S)   : Ep (f_X8_bounded S x1) (fun q => zf S0 q.2) := by
  unfold f_X8_bounded
  refine Ep_ite (fun _ => ?_) (fun _ => ?_)
  · refine Ep_ite (fun _ => ?_) (fun _ => ?_)
    · exact zfJ_X8_bounded_J24 x1 S hS
    · refine Ep_ite (fun _ => ?_) (fun _ => ?_)
      · exact zfJ_X8_bounded_J29 x1 0 S hS
      · exact zfJ_X8_bounded_J24 x1 S hS
  · exact zfJ_X8_bounded_J24 x1 S hS
set_option maxHeartbeats 1000000 in
set_option maxRecDepth 100000 in
theorem zfJ_X8_times_J69 {S0 : Tr} (x1 : Int64) (x3 : Int64) (s0 : Int32) (S : Tr) (hS : zf S0 S)   : Ep (fJ_X8_times_J69 x1 x3 s0 S) (fun q => zf S0 q.2) := by
  unfold fJ_X8_times_J69
  refine Ep_ck ?_
  refine Ep_lt (fun S_4 eS_4 => ?_)
  have hS_4 : zf S0 S_4 := by rw [eS_4]; exact zf_s hS (by omega)
  refine Ep_ite (fun _ => ?_) (fun _ => ?_)
  · exact Ep_some hS_4
  · exact Ep_some hS_4
set_option maxHeartbeats 1000000 in
set_option maxRecDepth 100000 in
theorem zfJ_X8_times_J64 {S0 : Tr} (x1 : Int64) (x3 : Int64) (S : Tr) (hS : zf S0 S)   : Ep (fJ_X8_times_J64 x1 x3 S) (fun q => zf S0 q.2) := by
  unfold fJ_X8_times_J64
  exact zfJ_X8_times_J69 x1 x3 1 S hS
set_option maxHeartbeats 1000000 in
set_option maxRecDepth 100000 in
theorem zfJ_X8_times_J49 {S0 : Tr} (x1 : Int64) (x3 : Int64) (s0 : Int32) (S : Tr) (hS : zf S0 S)   : Ep (fJ_X8_times_J49 x1 x3 s0 S) (fun q => zf S0 q.2) := by
  unfold fJ_X8_times_J49
  refine Ep_ite (fun _ => ?_) (fun _ => ?_)
  · refine Ep_ite (fun _ => ?_) (fun _ => ?_)
    · exact zfJ_X8_times_J69 x1 x3 0 S hS
    · exact zfJ_X8_times_J64 x1 x3 S hS
  · exact zfJ_X8_times_J64 x1 x3 S hS
set_option maxHeartbeats 1000000 in
set_option maxRecDepth 100000 in
theorem zfJ_X8_times_J48 {S0 : Tr} (x1 : Int64) (x3 : Int64) (S : Tr) (hS : zf S0 S)   : Ep (fJ_X8_times_J48 x1 x3 S) (fun q => zf S0 q.2) := by
  unfold fJ_X8_times_J48
  exact zfJ_X8_times_J49 x1 x3 0 S hS
set_option maxHeartbeats 1000000 in
set_option maxRecDepth 100000 in
theorem zfJ_X8_times_J39 {S0 : Tr} (x1 : Int64) (x3 : Int64) (s0 : Int64) (s1 : Int64) (s2 : Int64) (S : Tr) (hS : zf S0 S)   : Ep (fJ_X8_times_J39 x1 x3 s0 s1 s2 S) (fun q => zf S0 q.2) := by
  unfold fJ_X8_times_J39
  refine Ep_ck ?_
  refine Ep_ite (fun _ => ?_) (fun _ => ?_)
  · exact zfJ_X8_times_J48 x1 x3 S hS
  · exact zfJ_X8_times_J49 x1 x3 1 S hS
set_option maxHeartbeats 1000000 in
set_option maxRecDepth 100000 in
theorem zfJ_X8_times_J24 {S0 : Tr} (x1 : Int64) (x3 : Int64) (s0 : Int64) (S : Tr) (hS : zf S0 S)   : Ep (fJ_X8_times_J24 x1 x3 s0 S) (fun q => zf S0 q.2) := by
  unfold fJ_X8_times_J24
  refine Ep_ite (fun _ => ?_) (fun _ => ?_)
  · exact zfJ_X8_times_J39 x1 x3 x1 1000000000000 s0 S hS
  · exact zfJ_X8_times_J39 x1 x3 (-x1) 1000000000000 s0 S hS
set_option maxHeartbeats 1000000 in
set_option maxRecDepth 100000 in
theorem zf_X8_times {S0 : Tr} (S : Tr) (x1 : Int64) (x3 : Int64) (hS : zf S0 S)   : Ep (f_X8_times S x1 x3) (fun q => zf S0 q.2) := by
  unfold f_X8_times
  refine Ep_ite (fun _ => ?_) (fun _ => ?_)
  · exact zfJ_X8_times_J48 x1 x3 S hS
  · refine Ep_ite (fun _ => ?_) (fun _ => ?_)
    · exact zfJ_X8_times_J48 x1 x3 S hS
    · refine Ep_ite (fun _ => ?_) (fun _ => ?_)
      · exact zfJ_X8_times_J24 x1 x3 x3 S hS
      · exact zfJ_X8_times_J24 x1 x3 (-x3) S hS
set_option maxHeartbeats 1000000 in
set_option maxRecDepth 100000 in
theorem zfJ_X8_valueOf_J240 {S0 : Tr} (L : Lo) (x2 : Int64) (x4 : Int64) (s0 : Int32) (S : Tr) (hS : zf S0 S)   : Ep (fJ_X8_valueOf_J240 L x2 x4 s0 S) (fun q => zf S0 q.2) := by
  unfold fJ_X8_valueOf_J240
  refine Ep_ck ?_
  refine Ep_lt (fun S_34 eS_34 => ?_)
  have hS_34 : zf S0 S_34 := by rw [eS_34]; exact zf_s hS (by omega)
  refine Ep_ite (fun _ => ?_) (fun _ => ?_)
  · refine Ep_ck ?_
    exact Ep_some hS_34
  · exact Ep_some hS_34
set_option maxHeartbeats 1000000 in
set_option maxRecDepth 100000 in
theorem zfJ_X8_valueOf_J235 {S0 : Tr} (L : Lo) (x2 : Int64) (x4 : Int64) (S : Tr) (hS : zf S0 S)   : Ep (fJ_X8_valueOf_J235 L x2 x4 S) (fun q => zf S0 q.2) := by
  unfold fJ_X8_valueOf_J235
  exact zfJ_X8_valueOf_J240 L x2 x4 1 S hS
set_option maxHeartbeats 1000000 in
set_option maxRecDepth 100000 in
theorem zf_X8_valueOf {S0 : Tr} (S : Tr) (L : Lo) (x1 : Int32) (hS : zf S0 S)   : Ep (f_X8_valueOf S L x1) (fun q => zf S0 q.2) := by
  unfold f_X8_valueOf
  refine Ep_ck ?_
  refine Ep_ite (fun _ => ?_) (fun _ => ?_)
  · exact Ep_some hS
  · refine Ep_ite (fun _ => ?_) (fun _ => ?_)
    · refine Ep_ck ?_
      exact Ep_some hS
    · refine Ep_ck ?_
      refine Ep_lt (fun y5 ey5 => ?_)
      refine Ep_ite (fun _ => ?_) (fun _ => ?_)
      · refine Ep_ite (fun _ => ?_) (fun _ => ?_)
        · exact Ep_some hS
        · exact Ep_some hS
      · refine Ep_ck ?_
        refine Ep_lt (fun y8 ey8 => ?_)
        refine Ep_lt (fun y9 ey9 => ?_)
        refine Ep_ite (fun _ => ?_) (fun _ => ?_)
        · refine Ep_ite (fun _ => ?_) (fun _ => ?_)
          · exact Ep_some hS
          · refine Ep_ite (fun _ => ?_) (fun _ => ?_)
            · exact Ep_some hS
            · exact Ep_some hS
        · refine Ep_ite (fun _ => ?_) (fun _ => ?_)
          · refine Ep_ite (fun _ => ?_) (fun _ => ?_)
            · refine Ep_ite (fun _ => ?_) (fun _ => ?_)
              · exact Ep_some hS
              · exact Ep_some hS
            · exact Ep_some hS
          · refine Ep_ite (fun _ => ?_) (fun _ => ?_)
            · refine Ep_bd (zf_X8_bounded S (y5 + y8) hS) (fun q hq => ?_)
              refine Ep_lt (fun r17 er17 => ?_)
              refine Ep_lt (fun S_18 eS_18 => ?_)
              have hS_18 : zf S0 S_18 := by rw [eS_18]; exact hq
              exact Ep_some hS_18
            · refine Ep_ite (fun _ => ?_) (fun _ => ?_)
              · refine Ep_bd (zf_X8_bounded S (y5 - y8) hS) (fun q hq => ?_)
                refine Ep_lt (fun r22 er22 => ?_)
                refine Ep_lt (fun S_23 eS_23 => ?_)
                have hS_23 : zf S0 S_23 := by rw [eS_23]; exact hq
                exact Ep_some hS_23
              · refine Ep_ite (fun _ => ?_) (fun _ => ?_)
                · refine Ep_bd (zf_X8_times S y5 y8 hS) (fun q hq => ?_)
                  refine Ep_lt (fun r27 er27 => ?_)
                  refine Ep_lt (fun S_28 eS_28 => ?_)
                  have hS_28 : zf S0 S_28 := by rw [eS_28]; exact hq
                  exact Ep_some hS_28
                · refine Ep_ite (fun _ => ?_) (fun _ => ?_)
                  · refine Ep_ite (fun _ => ?_) (fun _ => ?_)
                    · refine Ep_ite (fun _ => ?_) (fun _ => ?_)
                      · exact zfJ_X8_valueOf_J235 L y5 y8 S hS
                      · exact zfJ_X8_valueOf_J240 L y5 y8 0 S hS
                    · exact zfJ_X8_valueOf_J235 L y5 y8 S hS
                  · refine Ep_any (fun r38 => ?_)
                    refine Ep_ite (fun _ => ?_) (fun _ => ?_)
                    · exact Ep_some hS
                    · exact Ep_some hS
set_option maxHeartbeats 1000000 in
set_option maxRecDepth 100000 in
theorem zfB_X8_lawOf_L12 {S0 : Tr} (x1 : Int32)    (N : Nat) : ∀ (x2 : Int32) (S : Tr) (L : Lo), zf S0 S → Ep (lpF (fun _ _ _ => none) (fB_X8_lawOf_L12 x1) N x2 S L) (fun q => zf S0 q.2.1) := by
  induction N with
  | zero => intro x2 S L _; exact Ep_none
  | succ N ih =>
    intro x2 S L hS
    show Ep (fB_X8_lawOf_L12 x1 (lpF (fun _ _ _ => none) (fB_X8_lawOf_L12 x1) N) x2 S L) _
    have hk12 := ih
    clear ih
    generalize lpF (fun _ _ _ => none) (fB_X8_lawOf_L12 x1) N = k12 at hk12 ⊢
    unfold fB_X8_lawOf_L12
    refine Ep_ck ?_
    refine Ep_ite (fun _ => ?_) (fun _ => ?_)
    · exact zfJ_X8_lawOf_J39 x1 S L hS
    · refine Ep_bd (zf_X8_valueOf S L x2 hS) (fun q hq => ?_)
      refine Ep_lt (fun r9 er9 => ?_)
      refine Ep_lt (fun S_10 eS_10 => ?_)
      have hS_10 : zf S0 S_10 := by rw [eS_10]; exact hq
      refine Ep_ck ?_
      refine Ep_lt (fun L_14 eL_14 => ?_)
      refine Ep_lt (fun y15 ey15 => ?_)
      exact hk12 y15 S_10 L_14 hS_10
set_option maxHeartbeats 1000000 in
set_option maxRecDepth 100000 in
theorem zfL_X8_lawOf_L12 {S0 : Tr} (x1 : Int32)    (x2 : Int32) (S : Tr) (L : Lo) (hS : zf S0 S) : Ep (fL_X8_lawOf_L12 x1 x2 S L) (fun q => zf S0 q.2.1) := by
  unfold fL_X8_lawOf_L12
  exact zfB_X8_lawOf_L12 x1 2000 x2 S L hS
set_option maxHeartbeats 1000000 in
set_option maxRecDepth 100000 in
theorem zf_X8_lawOf {S0 : Tr} (S : Tr) (L : Lo) (x1 : Int32) (hS : zf S0 S)   : Ep (f_X8_lawOf S L x1) (fun q => zf S0 q.2.1) := by
  unfold f_X8_lawOf
  refine Ep_lt (fun S_1 eS_1 => ?_)
  have hS_1 : zf S0 S_1 := by rw [eS_1]; exact zf_s hS (by omega)
  refine Ep_ck ?_
  refine Ep_lt (fun y3 ey3 => ?_)
  exact zfL_X8_lawOf_L12 x1 y3 S_1 L hS_1
set_option maxHeartbeats 1000000 in
set_option maxRecDepth 100000 in
theorem zf_X8_boundLaw {S0 : Tr} (S : Tr) (L : Lo) (x1 : Int32) (x2 : Int32) (x3 : Int32) (hS : zf S0 S)   : Ep (f_X8_boundLaw S L x1 x2 x3) (fun q => zf S0 q.2.1) := by
  unfold f_X8_boundLaw
  refine Ep_ck ?_
  refine Ep_ite (fun _ => ?_) (fun _ => ?_)
  · exact Ep_some hS
  · refine Ep_bd (zf_X8_lawOf S L x1 hS) (fun q hq => ?_)
    refine Ep_lt (fun r3 er3 => ?_)
    refine Ep_lt (fun S_4 eS_4 => ?_)
    have hS_4 : zf S0 S_4 := by rw [eS_4]; exact hq
    refine Ep_lt (fun L_5 eL_5 => ?_)
    refine Ep_ite (fun _ => ?_) (fun _ => ?_)
    · refine Ep_ite (fun _ => ?_) (fun _ => ?_)
      · refine Ep_ite (fun _ => ?_) (fun _ => ?_)
        · exact Ep_some hS_4
        · exact Ep_some hS_4
      · exact Ep_some hS_4
    · exact Ep_some hS_4
set_option maxHeartbeats 1000000 in
set_option maxRecDepth 100000 in
theorem zf_X8_liftOf {S0 : Tr} (S : Tr) (L : Lo) (x1 : Int32) (x2 : Int32) (x3 : Int32) (hS : zf S0 S)   : Ep (f_X8_liftOf S L x1 x2 x3) (fun q => zf S0 q.2.1) := by
  unfold f_X8_liftOf
  refine Ep_any (fun L_1 => ?_)
  refine Ep_ck ?_
  refine Ep_any (fun r5 => ?_)
  refine Ep_ck ?_
  refine Ep_bd (zf_X8_boundLaw S L_1 (0 : Int32) (((S 31 x2.toNatClampNeg) / r5) + 1) (99 : Int32) hS) (fun q hq => ?_)
  refine Ep_lt (fun r9 er9 => ?_)
  refine Ep_lt (fun S_10 eS_10 => ?_)
  have hS_10 : zf S0 S_10 := by rw [eS_10]; exact hq
  refine Ep_lt (fun L_11 eL_11 => ?_)
  exact Ep_some hS_10
set_option maxHeartbeats 1000000 in
set_option maxRecDepth 100000 in
theorem zfB_X8_secondsOf_L23 {S0 : Tr} (x1 : Int32) (x2 : Int32) (x3 : Int32)    (N : Nat) : ∀ (x4 : Int32) (x5 : Int32) (S : Tr) (L : Lo), zf S0 S → Ep (lpF (fun _ _ _ _ => none) (fB_X8_secondsOf_L23 x1 x2 x3) N x4 x5 S L) (fun q => zf S0 q.2.1) := by
  induction N with
  | zero => intro x4 x5 S L _; exact Ep_none
  | succ N ih =>
    intro x4 x5 S L hS
    show Ep (fB_X8_secondsOf_L23 x1 x2 x3 (lpF (fun _ _ _ _ => none) (fB_X8_secondsOf_L23 x1 x2 x3) N) x4 x5 S L) _
    have hk23 := ih
    clear ih
    generalize lpF (fun _ _ _ _ => none) (fB_X8_secondsOf_L23 x1 x2 x3) N = k23 at hk23 ⊢
    unfold fB_X8_secondsOf_L23
    refine Ep_ck ?_
    refine Ep_ite (fun _ => ?_) (fun _ => ?_)
    · exact Ep_some hS
    · refine Ep_any (fun r8 => ?_)
      refine Ep_ck ?_
      refine Ep_bd (zf_X8_liftOf S L x1 r8 (S 30 x2.toNatClampNeg) hS) (fun q hq => ?_)
      refine Ep_lt (fun r12 er12 => ?_)
      refine Ep_lt (fun S_13 eS_13 => ?_)
      have hS_13 : zf S0 S_13 := by rw [eS_13]; exact hq
      refine Ep_lt (fun L_14 eL_14 => ?_)
      refine Ep_lt (fun y17 ey17 => ?_)
      refine Ep_lt (fun y18 ey18 => ?_)
      exact hk23 y17 y18 S_13 L_14 hS_13
set_option maxHeartbeats 1000000 in
set_option maxRecDepth 100000 in
theorem zfL_X8_secondsOf_L23 {S0 : Tr} (x1 : Int32) (x2 : Int32) (x3 : Int32)    (x4 : Int32) (x5 : Int32) (S : Tr) (L : Lo) (hS : zf S0 S) : Ep (fL_X8_secondsOf_L23 x1 x2 x3 x4 x5 S L) (fun q => zf S0 q.2.1) := by
  unfold fL_X8_secondsOf_L23
  exact zfB_X8_secondsOf_L23 x1 x2 x3 2000 x4 x5 S L hS
set_option maxHeartbeats 1000000 in
set_option maxRecDepth 100000 in
theorem zf_X8_secondsOf {S0 : Tr} (S : Tr) (L : Lo) (x1 : Int32) (x2 : Int32) (hS : zf S0 S)   : Ep (f_X8_secondsOf S L x1 x2) (fun q => zf S0 q.2.1) := by
  unfold f_X8_secondsOf
  refine Ep_ck ?_
  refine Ep_lt (fun y2 ey2 => ?_)
  refine Ep_any (fun r3 => ?_)
  exact zfL_X8_secondsOf_L23 x1 x2 y2 0 r3 S L hS
set_option maxHeartbeats 1000000 in
set_option maxRecDepth 100000 in
theorem zfJ_X8_outs_J117 {S0 : Tr} (k9 : Int32 → Int32 → Tr → Lo → Option (Tr × Lo)) (k32 : Int32 → Int32 → Tr → Lo → Option (Tr × Lo)) (x1 : Int32) (x3 : Int32) (x4 : Int32) (x5 : Int32) (s0 : Int32) (S : Tr) (L : Lo) (hS : zf S0 S) (hk9 : ∀ (x2 : Int32) (x3 : Int32) (S : Tr) (L : Lo), zf S0 S → Ep (k9 x2 x3 S L) (fun q => zf S0 q.1)) (hk32 : ∀ (x2 : Int32) (x4 : Int32) (S : Tr) (L : Lo), zf S0 S → Ep (k32 x2 x4 S L) (fun q => zf S0 q.1))  : Ep (fJ_X8_outs_J117 k9 k32 x1 x3 x4 x5 s0 S L) (fun q => zf S0 q.1) := by
  unfold fJ_X8_outs_J117
  refine Ep_ite (fun _ => ?_) (fun _ => ?_)
  · refine Ep_lt (fun y56 ey56 => ?_)
    exact hk32 s0 y56 S L hS
  · refine Ep_lt (fun S_44 eS_44 => ?_)
    have hS_44 : zf S0 S_44 := by rw [eS_44]; exact zf_s hS (by omega)
    refine Ep_ck ?_
    refine Ep_lt (fun S_46 eS_46 => ?_)
    have hS_46 : zf S0 S_46 := by rw [eS_46]; exact zf_s hS_44 (by omega)
    refine Ep_ck ?_
    refine Ep_any (fun r48 => ?_)
    refine Ep_lt (fun S_51 eS_51 => ?_)
    have hS_51 : zf S0 S_51 := by rw [eS_51]; exact zf_s hS_46 (by omega)
    refine Ep_bd (zf_X8_takes S_51 x1 x4 (2 : Int32) hS_51) (fun S_52 hS_52 => ?_)
    refine Ep_lt (fun y55 ey55 => ?_)
    exact hk32 s0 y55 S_52 L hS_52
set_option maxHeartbeats 1000000 in
set_option maxRecDepth 100000 in
theorem zfJ_X8_outs_J116 {S0 : Tr} (k9 : Int32 → Int32 → Tr → Lo → Option (Tr × Lo)) (k32 : Int32 → Int32 → Tr → Lo → Option (Tr × Lo)) (x1 : Int32) (x3 : Int32) (x4 : Int32) (x5 : Int32) (S : Tr) (L : Lo) (hS : zf S0 S) (hk9 : ∀ (x2 : Int32) (x3 : Int32) (S : Tr) (L : Lo), zf S0 S → Ep (k9 x2 x3 S L) (fun q => zf S0 q.1)) (hk32 : ∀ (x2 : Int32) (x4 : Int32) (S : Tr) (L : Lo), zf S0 S → Ep (k32 x2 x4 S L) (fun q => zf S0 q.1))  : Ep (fJ_X8_outs_J116 k9 k32 x1 x3 x4 x5 S L) (fun q => zf S0 q.1) := by
  unfold fJ_X8_outs_J116
  exact zfJ_X8_outs_J117 k9 k32 x1 x3 x4 x5 0 S L hS hk9 hk32
set_option maxHeartbeats 1000000 in
set_option maxRecDepth 100000 in
theorem zfJ_X8_outs_J112 {S0 : Tr} (k9 : Int32 → Int32 → Tr → Lo → Option (Tr × Lo)) (k32 : Int32 → Int32 → Tr → Lo → Option (Tr × Lo)) (x1 : Int32) (x3 : Int32) (x4 : Int32) (x5 : Int32) (S : Tr) (L : Lo) (hS : zf S0 S) (hk9 : ∀ (x2 : Int32) (x3 : Int32) (S : Tr) (L : Lo), zf S0 S → Ep (k9 x2 x3 S L) (fun q => zf S0 q.1)) (hk32 : ∀ (x2 : Int32) (x4 : Int32) (S : Tr) (L : Lo), zf S0 S → Ep (k32 x2 x4 S L) (fun q => zf S0 q.1))  : Ep (fJ_X8_outs_J112 k9 k32 x1 x3 x4 x5 S L) (fun q => zf S0 q.1) := by
  unfold fJ_X8_outs_J112
  exact zfJ_X8_outs_J117 k9 k32 x1 x3 x4 x5 1 S L hS hk9 hk32
set_option maxHeartbeats 1000000 in
set_option maxRecDepth 100000 in
theorem zfB_X8_outs_L32 {S0 : Tr} (k9 : Int32 → Int32 → Tr → Lo → Option (Tr × Lo)) (x1 : Int32) (x3 : Int32)  (hk9 : ∀ (x2 : Int32) (x3 : Int32) (S : Tr) (L : Lo), zf S0 S → Ep (k9 x2 x3 S L) (fun q => zf S0 q.1))  (N : Nat) : ∀ (x2 : Int32) (x4 : Int32) (S : Tr) (L : Lo), zf S0 S → Ep (lpF (fun _ _ _ _ => none) (fB_X8_outs_L32 k9 x1 x3) N x2 x4 S L) (fun q => zf S0 q.1) := by
  induction N with
  | zero => intro x2 x4 S L _; exact Ep_none
  | succ N ih =>
    intro x2 x4 S L hS
    show Ep (fB_X8_outs_L32 k9 x1 x3 (lpF (fun _ _ _ _ => none) (fB_X8_outs_L32 k9 x1 x3) N) x2 x4 S L) _
    have hk32 := ih
    clear ih
    generalize lpF (fun _ _ _ _ => none) (fB_X8_outs_L32 k9 x1 x3) N = k32 at hk32 ⊢
    unfold fB_X8_outs_L32
    refine Ep_ite (fun _ => ?_) (fun _ => ?_)
    · exact zfJ_X8_outs_J182 k9 x1 x2 x3 S L hS hk9
    · refine Ep_ck ?_
      refine Ep_ite (fun _ => ?_) (fun _ => ?_)
      · refine Ep_ck ?_
        refine Ep_ite (fun _ => ?_) (fun _ => ?_)
        · refine Ep_bd (zf_X8_secondsOf S L x1 x4 hS) (fun q hq => ?_)
          refine Ep_lt (fun r37 er37 => ?_)
          refine Ep_lt (fun S_38 eS_38 => ?_)
          have hS_38 : zf S0 S_38 := by rw [eS_38]; exact hq
          refine Ep_lt (fun L_39 eL_39 => ?_)
          refine Ep_ite (fun _ => ?_) (fun _ => ?_)
          · exact zfJ_X8_outs_J116 k9 k32 x1 x3 x4 r37 S_38 L_39 hS_38 hk9 hk32
          · refine Ep_ite (fun _ => ?_) (fun _ => ?_)
            · refine Ep_ck ?_
              refine Ep_ck ?_
              refine Ep_ite (fun _ => ?_) (fun _ => ?_)
              · exact zfJ_X8_outs_J116 k9 k32 x1 x3 x4 r37 S_38 L_39 hS_38 hk9 hk32
              · exact zfJ_X8_outs_J112 k9 k32 x1 x3 x4 r37 S_38 L_39 hS_38 hk9 hk32
            · exact zfJ_X8_outs_J112 k9 k32 x1 x3 x4 r37 S_38 L_39 hS_38 hk9 hk32
        · refine Ep_lt (fun y61 ey61 => ?_)
          exact hk32 x2 y61 S L hS
      · refine Ep_lt (fun y34 ey34 => ?_)
        exact hk32 x2 y34 S L hS
set_option maxHeartbeats 1000000 in
set_option maxRecDepth 100000 in
theorem zfL_X8_outs_L32 {S0 : Tr} (k9 : Int32 → Int32 → Tr → Lo → Option (Tr × Lo)) (x1 : Int32) (x3 : Int32)  (hk9 : ∀ (x2 : Int32) (x3 : Int32) (S : Tr) (L : Lo), zf S0 S → Ep (k9 x2 x3 S L) (fun q => zf S0 q.1))  (x2 : Int32) (x4 : Int32) (S : Tr) (L : Lo) (hS : zf S0 S) : Ep (fL_X8_outs_L32 k9 x1 x3 x2 x4 S L) (fun q => zf S0 q.1) := by
  unfold fL_X8_outs_L32
  exact zfB_X8_outs_L32 k9 x1 x3 hk9 2000 x2 x4 S L hS
set_option maxHeartbeats 1000000 in
set_option maxRecDepth 100000 in
theorem zfB_X8_outs_L9 {S0 : Tr} (x1 : Int32)    (N : Nat) : ∀ (x2 : Int32) (x3 : Int32) (S : Tr) (L : Lo), zf S0 S → Ep (lpF (fun _ _ _ _ => none) (fB_X8_outs_L9 x1) N x2 x3 S L) (fun q => zf S0 q.1) := by
  induction N with
  | zero => intro x2 x3 S L _; exact Ep_none
  | succ N ih =>
    intro x2 x3 S L hS
    show Ep (fB_X8_outs_L9 x1 (lpF (fun _ _ _ _ => none) (fB_X8_outs_L9 x1) N) x2 x3 S L) _
    have hk9 := ih
    clear ih
    generalize lpF (fun _ _ _ _ => none) (fB_X8_outs_L9 x1) N = k9 at hk9 ⊢
    unfold fB_X8_outs_L9
    refine Ep_ite (fun _ => ?_) (fun _ => ?_)
    · exact zfJ_X8_outs_J209 x1 S L hS
    · refine Ep_any (fun r19 => ?_)
      refine Ep_ite (fun _ => ?_) (fun _ => ?_)
      · refine Ep_lt (fun y62 ey62 => ?_)
        exact hk9 x2 y62 S L hS
      · exact zfL_X8_outs_L32 k9 x1 x3 hk9 x2 0 S L hS
set_option maxHeartbeats 1000000 in
set_option maxRecDepth 100000 in
theorem zfL_X8_outs_L9 {S0 : Tr} (x1 : Int32)    (x2 : Int32) (x3 : Int32) (S : Tr) (L : Lo) (hS : zf S0 S) : Ep (fL_X8_outs_L9 x1 x2 x3 S L) (fun q => zf S0 q.1) := by
  unfold fL_X8_outs_L9
  exact zfB_X8_outs_L9 x1 2000 x2 x3 S L hS
set_option maxHeartbeats 1000000 in
set_option maxRecDepth 100000 in
theorem zf_X8_outs {S0 : Tr} (S : Tr) (L : Lo) (x1 : Int32) (hS : zf S0 S)   : Ep (f_X8_outs S L x1) (fun q => zf S0 q.1) := by
  unfold f_X8_outs
  refine Ep_lt (fun S_1 eS_1 => ?_)
  have hS_1 : zf S0 S_1 := by rw [eS_1]; exact zf_s hS (by omega)
  exact zfL_X8_outs_L9 x1 1 0 S_1 L hS_1
set_option maxHeartbeats 1000000 in
set_option maxRecDepth 100000 in
theorem zfJ_X8_ins_J185 {S0 : Tr} (k146 : Int32 → Tr → Option (Tr)) (x1 : Int32) (x2 : Int32) (s0 : Int32) (s1 : Int32) (s2 : Int32) (S : Tr) (hS : zf S0 S) (hk146 : ∀ (x2 : Int32) (S : Tr), zf S0 S → Ep (k146 x2 S) (fun q => zf S0 q))  : Ep (fJ_X8_ins_J185 k146 x1 x2 s0 s1 s2 S) (fun q => zf S0 q) := by
  unfold fJ_X8_ins_J185
  refine Ep_ck ?_
  refine Ep_lt (fun S_7 eS_7 => ?_)
  have hS_7 : zf S0 S_7 := by rw [eS_7]; exact zf_s hS (by omega)
  refine Ep_lt (fun y8 ey8 => ?_)
  exact hk146 y8 S_7 hS_7
set_option maxHeartbeats 1000000 in
set_option maxRecDepth 100000 in
theorem zfB_X8_ins_L146 {S0 : Tr} (x1 : Int32)    (N : Nat) : ∀ (x2 : Int32) (S : Tr), zf S0 S → Ep (lpF (fun _ _ => none) (fB_X8_ins_L146 x1) N x2 S) (fun q => zf S0 q) := by
  induction N with
  | zero => intro x2 S _; exact Ep_none
  | succ N ih =>
    intro x2 S hS
    show Ep (fB_X8_ins_L146 x1 (lpF (fun _ _ => none) (fB_X8_ins_L146 x1) N) x2 S) _
    have hk146 := ih
    clear ih
    generalize lpF (fun _ _ => none) (fB_X8_ins_L146 x1) N = k146 at hk146 ⊢
    unfold fB_X8_ins_L146
    refine Ep_ite (fun _ => ?_) (fun _ => ?_)
    · exact Ep_some hS
    · refine Ep_ck ?_
      refine Ep_ck ?_
      refine Ep_ite (fun _ => ?_) (fun _ => ?_)
      · refine Ep_ck ?_
        exact zfJ_X8_ins_J185 k146 x1 x2 (S 56 (((5 : Int32) * x1) + x2).toNatClampNeg) (S 63 x1.toNatClampNeg) x1 S hS hk146
      · exact zfJ_X8_ins_J185 k146 x1 x2 0 (S 63 x1.toNatClampNeg) x1 S hS hk146
set_option maxHeartbeats 1000000 in
set_option maxRecDepth 100000 in
theorem zfL_X8_ins_L146 {S0 : Tr} (x1 : Int32)    (x2 : Int32) (S : Tr) (hS : zf S0 S) : Ep (fL_X8_ins_L146 x1 x2 S) (fun q => zf S0 q) := by
  unfold fL_X8_ins_L146
  exact zfB_X8_ins_L146 x1 2000 x2 S hS
set_option maxHeartbeats 1000000 in
set_option maxRecDepth 100000 in
theorem zfB_X8_ins_L61 {S0 : Tr} (k2 : Int32 → Tr → Option (Tr)) (x1 : Int32) (x2 : Int32)  (hk2 : ∀ (x2 : Int32) (S : Tr), zf S0 S → Ep (k2 x2 S) (fun q => zf S0 q))  (N : Nat) : ∀ (x3 : Int32) (S : Tr), zf S0 S → Ep (lpF (fun _ _ => none) (fB_X8_ins_L61 k2 x1 x2) N x3 S) (fun q => zf S0 q) := by
  induction N with
  | zero => intro x3 S _; exact Ep_none
  | succ N ih =>
    intro x3 S hS
    show Ep (fB_X8_ins_L61 k2 x1 x2 (lpF (fun _ _ => none) (fB_X8_ins_L61 k2 x1 x2) N) x3 S) _
    have hk61 := ih
    clear ih
    generalize lpF (fun _ _ => none) (fB_X8_ins_L61 k2 x1 x2) N = k61 at hk61 ⊢
    unfold fB_X8_ins_L61
    refine Ep_ite (fun _ => ?_) (fun _ => ?_)
    · refine Ep_lt (fun y17 ey17 => ?_)
      exact hk2 y17 S hS
    · refine Ep_ck ?_
      refine Ep_ite (fun _ => ?_) (fun _ => ?_)
      · refine Ep_ck ?_
        refine Ep_ite (fun _ => ?_) (fun _ => ?_)
        · refine Ep_any (fun r23 => ?_)
          refine Ep_ite (fun _ => ?_) (fun _ => ?_)
          · refine Ep_bd (zf_X8_lays S x1 r23 x3 hS) (fun S_27 hS_27 => ?_)
            refine Ep_lt (fun y30 ey30 => ?_)
            exact hk61 y30 S_27 hS_27
          · refine Ep_lt (fun S_31 eS_31 => ?_)
            have hS_31 : zf S0 S_31 := by rw [eS_31]; exact zf_s hS (by omega)
            refine Ep_lt (fun y32 ey32 => ?_)
            exact hk61 y32 S_31 hS_31
        · refine Ep_lt (fun y33 ey33 => ?_)
          exact hk61 y33 S hS
      · refine Ep_lt (fun y20 ey20 => ?_)
        exact hk61 y20 S hS
set_option maxHeartbeats 1000000 in
set_option maxRecDepth 100000 in
theorem zfL_X8_ins_L61 {S0 : Tr} (k2 : Int32 → Tr → Option (Tr)) (x1 : Int32) (x2 : Int32)  (hk2 : ∀ (x2 : Int32) (S : Tr), zf S0 S → Ep (k2 x2 S) (fun q => zf S0 q))  (x3 : Int32) (S : Tr) (hS : zf S0 S) : Ep (fL_X8_ins_L61 k2 x1 x2 x3 S) (fun q => zf S0 q) := by
  unfold fL_X8_ins_L61
  exact zfB_X8_ins_L61 k2 x1 x2 hk2 2000 x3 S hS
set_option maxHeartbeats 1000000 in
set_option maxRecDepth 100000 in
theorem zfB_X8_ins_L2 {S0 : Tr} (x1 : Int32)    (N : Nat) : ∀ (x2 : Int32) (S : Tr), zf S0 S → Ep (lpF (fun _ _ => none) (fB_X8_ins_L2 x1) N x2 S) (fun q => zf S0 q) := by
  induction N with
  | zero => intro x2 S _; exact Ep_none
  | succ N ih =>
    intro x2 S hS
    show Ep (fB_X8_ins_L2 x1 (lpF (fun _ _ => none) (fB_X8_ins_L2 x1) N) x2 S) _
    have hk2 := ih
    clear ih
    generalize lpF (fun _ _ => none) (fB_X8_ins_L2 x1) N = k2 at hk2 ⊢
    unfold fB_X8_ins_L2
    refine Ep_ite (fun _ => ?_) (fun _ => ?_)
    · exact zfL_X8_ins_L146 x1 0 S hS
    · refine Ep_ck ?_
      refine Ep_ck ?_
      refine Ep_ite (fun _ => ?_) (fun _ => ?_)
      · refine Ep_ite (fun _ => ?_) (fun _ => ?_)
        · refine Ep_lt (fun S_15 eS_15 => ?_)
          have hS_15 : zf S0 S_15 := by rw [eS_15]; exact zf_s hS (by omega)
          exact zfL_X8_ins_L61 k2 x1 x2 hk2 0 S_15 hS_15
        · refine Ep_lt (fun y34 ey34 => ?_)
          exact hk2 y34 S hS
      · refine Ep_lt (fun y13 ey13 => ?_)
        exact hk2 y13 S hS
set_option maxHeartbeats 1000000 in
set_option maxRecDepth 100000 in
theorem zfL_X8_ins_L2 {S0 : Tr} (x1 : Int32)    (x2 : Int32) (S : Tr) (hS : zf S0 S) : Ep (fL_X8_ins_L2 x1 x2 S) (fun q => zf S0 q) := by
  unfold fL_X8_ins_L2
  exact zfB_X8_ins_L2 x1 2000 x2 S hS
set_option maxHeartbeats 1000000 in
set_option maxRecDepth 100000 in
theorem zf_X8_ins {S0 : Tr} (S : Tr) (x1 : Int32) (hS : zf S0 S)   : Ep (f_X8_ins S x1) (fun q => zf S0 q) := by
  unfold f_X8_ins
  exact zfL_X8_ins_L2 x1 0 S hS
set_option maxHeartbeats 1000000 in
set_option maxRecDepth 100000 in
theorem zfB_X8_onTheWay_L90 {S0 : Tr} (x1 : Int32)    (N : Nat) : ∀ (x2 : Int32) (S : Tr) (L : Lo), zf S0 S → Ep (lpF (fun _ _ _ => none) (fB_X8_onTheWay_L90 x1) N x2 S L) (fun q => zf S0 q.1) := by
  induction N with
  | zero => intro x2 S L _; exact Ep_none
  | succ N ih =>
    intro x2 S L hS
    show Ep (fB_X8_onTheWay_L90 x1 (lpF (fun _ _ _ => none) (fB_X8_onTheWay_L90 x1) N) x2 S L) _
    have hk90 := ih
    clear ih
    generalize lpF (fun _ _ _ => none) (fB_X8_onTheWay_L90 x1) N = k90 at hk90 ⊢
    unfold fB_X8_onTheWay_L90
    refine Ep_ite (fun _ => ?_) (fun _ => ?_)
    · exact Ep_some hS
    · refine Ep_ite (fun _ => ?_) (fun _ => ?_)
      · refine Ep_ck ?_
        refine Ep_ite (fun _ => ?_) (fun _ => ?_)
        · refine Ep_ck ?_
          refine Ep_ite (fun _ => ?_) (fun _ => ?_)
          · refine Ep_ck ?_
            refine Ep_any (fun L_10 => ?_)
            refine Ep_bd (zf_X8_boundLaw S L_10 (2 : Int32) (10 : Int32) (100 : Int32) hS) (fun q hq => ?_)
            refine Ep_lt (fun r13 er13 => ?_)
            refine Ep_lt (fun S_14 eS_14 => ?_)
            have hS_14 : zf S0 S_14 := by rw [eS_14]; exact hq
            refine Ep_lt (fun L_15 eL_15 => ?_)
            refine Ep_any (fun q => ?_)
            refine Ep_lt (fun r18 er18 => ?_)
            refine Ep_lt (fun L_19 eL_19 => ?_)
            refine Ep_ite (fun _ => ?_) (fun _ => ?_)
            · refine Ep_lt (fun y23 ey23 => ?_)
              exact hk90 y23 S_14 L_19 hS_14
            · refine Ep_bd (zf_X8_takes S_14 x1 x2 (4 : Int32) hS_14) (fun S_24 hS_24 => ?_)
              refine Ep_lt (fun y27 ey27 => ?_)
              exact hk90 y27 S_24 L_19 hS_24
          · refine Ep_lt (fun y28 ey28 => ?_)
            exact hk90 y28 S L hS
        · refine Ep_lt (fun y6 ey6 => ?_)
          exact hk90 y6 S L hS
      · exact Ep_some hS
set_option maxHeartbeats 1000000 in
set_option maxRecDepth 100000 in
theorem zfL_X8_onTheWay_L90 {S0 : Tr} (x1 : Int32)    (x2 : Int32) (S : Tr) (L : Lo) (hS : zf S0 S) : Ep (fL_X8_onTheWay_L90 x1 x2 S L) (fun q => zf S0 q.1) := by
  unfold fL_X8_onTheWay_L90
  exact zfB_X8_onTheWay_L90 x1 2000 x2 S L hS
set_option maxHeartbeats 1000000 in
set_option maxRecDepth 100000 in
theorem zfJ_X8_fallOf_J58 {S0 : Tr} (s0 : Int32) (s1 : Int32) (S : Tr) (L : Lo) (hS : zf S0 S)   : Ep (fJ_X8_fallOf_J58 s0 s1 S L) (fun q => zf S0 q.2.1) := by
  unfold fJ_X8_fallOf_J58
  refine Ep_bd (zf_X8_boundLaw S L s1 s0 (100 : Int32) hS) (fun q hq => ?_)
  refine Ep_lt (fun r11 er11 => ?_)
  refine Ep_lt (fun S_12 eS_12 => ?_)
  have hS_12 : zf S0 S_12 := by rw [eS_12]; exact hq
  refine Ep_lt (fun L_13 eL_13 => ?_)
  exact Ep_some hS_12
set_option maxHeartbeats 1000000 in
set_option maxRecDepth 100000 in
theorem zfJ_X8_fallOf_J17 {S0 : Tr} (x1 : Int32) (x2 : Int32) (s0 : Int32) (S : Tr) (L : Lo) (hS : zf S0 S)   : Ep (fJ_X8_fallOf_J17 x1 x2 s0 S L) (fun q => zf S0 q.2.1) := by
  unfold fJ_X8_fallOf_J17
  refine Ep_any (fun r2 => ?_)
  refine Ep_ck ?_
  refine Ep_lt (fun y6 ey6 => ?_)
  refine Ep_any (fun L_7 => ?_)
  refine Ep_ite (fun _ => ?_) (fun _ => ?_)
  · exact zfJ_X8_fallOf_J58 y6 1 S L_7 hS
  · exact zfJ_X8_fallOf_J58 0 1 S L_7 hS
set_option maxHeartbeats 1000000 in
set_option maxRecDepth 100000 in
theorem zf_X8_fallOf {S0 : Tr} (S : Tr) (L : Lo) (x1 : Int32) (x2 : Int32) (hS : zf S0 S)   : Ep (f_X8_fallOf S L x1 x2) (fun q => zf S0 q.2.1) := by
  unfold f_X8_fallOf
  refine Ep_ite (fun _ => ?_) (fun _ => ?_)
  · exact zfJ_X8_fallOf_J17 x1 x2 (S 23 1) S L hS
  · exact zfJ_X8_fallOf_J17 x1 x2 0 S L hS
set_option maxHeartbeats 1000000 in
set_option maxRecDepth 100000 in
theorem zfB_X8_onTheWay_L2 {S0 : Tr} (x1 : Int32)    (N : Nat) : ∀ (x2 : Int32) (S : Tr) (L : Lo), zf S0 S → Ep (lpF (fun _ _ _ => none) (fB_X8_onTheWay_L2 x1) N x2 S L) (fun q => zf S0 q.1) := by
  induction N with
  | zero => intro x2 S L _; exact Ep_none
  | succ N ih =>
    intro x2 S L hS
    show Ep (fB_X8_onTheWay_L2 x1 (lpF (fun _ _ _ => none) (fB_X8_onTheWay_L2 x1) N) x2 S L) _
    have hk2 := ih
    clear ih
    generalize lpF (fun _ _ _ => none) (fB_X8_onTheWay_L2 x1) N = k2 at hk2 ⊢
    unfold fB_X8_onTheWay_L2
    refine Ep_ite (fun _ => ?_) (fun _ => ?_)
    · exact zfL_X8_onTheWay_L90 x1 0 S L hS
    · refine Ep_ite (fun _ => ?_) (fun _ => ?_)
      · refine Ep_ck ?_
        refine Ep_ite (fun _ => ?_) (fun _ => ?_)
        · refine Ep_lt (fun y32 ey32 => ?_)
          exact hk2 y32 S L hS
        · refine Ep_ck ?_
          refine Ep_ite (fun _ => ?_) (fun _ => ?_)
          · refine Ep_lt (fun y53 ey53 => ?_)
            exact hk2 y53 S L hS
          · refine Ep_any (fun r35 => ?_)
            refine Ep_bd (zf_X8_fallOf S L x1 r35 hS) (fun q hq => ?_)
            refine Ep_lt (fun r38 er38 => ?_)
            refine Ep_lt (fun S_39 eS_39 => ?_)
            have hS_39 : zf S0 S_39 := by rw [eS_39]; exact hq
            refine Ep_lt (fun L_40 eL_40 => ?_)
            refine Ep_any (fun q => ?_)
            refine Ep_lt (fun r43 er43 => ?_)
            refine Ep_lt (fun L_44 eL_44 => ?_)
            refine Ep_ite (fun _ => ?_) (fun _ => ?_)
            · refine Ep_lt (fun y48 ey48 => ?_)
              exact hk2 y48 S_39 L_44 hS_39
            · refine Ep_bd (zf_X8_takes S_39 x1 r35 (3 : Int32) hS_39) (fun S_49 hS_49 => ?_)
              refine Ep_lt (fun y52 ey52 => ?_)
              exact hk2 y52 S_49 L_44 hS_49
      · exact zfL_X8_onTheWay_L90 x1 0 S L hS
set_option maxHeartbeats 1000000 in
set_option maxRecDepth 100000 in
theorem zfL_X8_onTheWay_L2 {S0 : Tr} (x1 : Int32)    (x2 : Int32) (S : Tr) (L : Lo) (hS : zf S0 S) : Ep (fL_X8_onTheWay_L2 x1 x2 S L) (fun q => zf S0 q.1) := by
  unfold fL_X8_onTheWay_L2
  exact zfB_X8_onTheWay_L2 x1 2000 x2 S L hS
set_option maxHeartbeats 1000000 in
set_option maxRecDepth 100000 in
theorem zf_X8_onTheWay {S0 : Tr} (S : Tr) (L : Lo) (x1 : Int32) (hS : zf S0 S)   : Ep (f_X8_onTheWay S L x1) (fun q => zf S0 q.1) := by
  unfold f_X8_onTheWay
  exact zfL_X8_onTheWay_L2 x1 0 S L hS
set_option maxHeartbeats 1000000 in
set_option maxRecDepth 100000 in
theorem zfB_X8_put_86_L54 {S0 : Tr} (x2 : Int32)    (N : Nat) : ∀ (x3 : Int32) (S : Tr), zf S0 S → Ep (lpF (fun _ _ => none) (fB_X8_put_86_L54 x2) N x3 S) (fun q => zf S0 q) := by
  induction N with
  | zero => intro x3 S _; exact Ep_none
  | succ N ih =>
    intro x3 S hS
    show Ep (fB_X8_put_86_L54 x2 (lpF (fun _ _ => none) (fB_X8_put_86_L54 x2) N) x3 S) _
    have hk54 := ih
    clear ih
    generalize lpF (fun _ _ => none) (fB_X8_put_86_L54 x2) N = k54 at hk54 ⊢
    unfold fB_X8_put_86_L54
    refine Ep_ite (fun _ => ?_) (fun _ => ?_)
    · exact Ep_some hS
    · refine Ep_ck ?_
      refine Ep_ck ?_
      refine Ep_lt (fun S_6 eS_6 => ?_)
      have hS_6 : zf S0 S_6 := by rw [eS_6]; exact zf_s hS (by omega)
      refine Ep_lt (fun y7 ey7 => ?_)
      exact hk54 y7 S_6 hS_6
set_option maxHeartbeats 1000000 in
set_option maxRecDepth 100000 in
theorem zfL_X8_put_86_L54 {S0 : Tr} (x2 : Int32)    (x3 : Int32) (S : Tr) (hS : zf S0 S) : Ep (fL_X8_put_86_L54 x2 x3 S) (fun q => zf S0 q) := by
  unfold fL_X8_put_86_L54
  exact zfB_X8_put_86_L54 x2 2000 x3 S hS
set_option maxHeartbeats 1000000 in
set_option maxRecDepth 100000 in
theorem zfB_X8_put_86_L27 {S0 : Tr} (x2 : Int32)    (N : Nat) : ∀ (x3 : Int32) (S : Tr), zf S0 S → Ep (lpF (fun _ _ => none) (fB_X8_put_86_L27 x2) N x3 S) (fun q => zf S0 q) := by
  induction N with
  | zero => intro x3 S _; exact Ep_none
  | succ N ih =>
    intro x3 S hS
    show Ep (fB_X8_put_86_L27 x2 (lpF (fun _ _ => none) (fB_X8_put_86_L27 x2) N) x3 S) _
    have hk27 := ih
    clear ih
    generalize lpF (fun _ _ => none) (fB_X8_put_86_L27 x2) N = k27 at hk27 ⊢
    unfold fB_X8_put_86_L27
    refine Ep_ite (fun _ => ?_) (fun _ => ?_)
    · exact zfL_X8_put_86_L54 x2 0 S hS
    · refine Ep_ck ?_
      refine Ep_ck ?_
      refine Ep_lt (fun S_10 eS_10 => ?_)
      have hS_10 : zf S0 S_10 := by rw [eS_10]; exact zf_s hS (by omega)
      refine Ep_lt (fun y11 ey11 => ?_)
      exact hk27 y11 S_10 hS_10
set_option maxHeartbeats 1000000 in
set_option maxRecDepth 100000 in
theorem zfL_X8_put_86_L27 {S0 : Tr} (x2 : Int32)    (x3 : Int32) (S : Tr) (hS : zf S0 S) : Ep (fL_X8_put_86_L27 x2 x3 S) (fun q => zf S0 q) := by
  unfold fL_X8_put_86_L27
  exact zfB_X8_put_86_L27 x2 2000 x3 S hS
set_option maxHeartbeats 1000000 in
set_option maxRecDepth 100000 in
theorem zfB_X8_put_86_L2 {S0 : Tr} (x2 : Int32)    (N : Nat) : ∀ (x3 : Int32) (S : Tr), zf S0 S → Ep (lpF (fun _ _ => none) (fB_X8_put_86_L2 x2) N x3 S) (fun q => zf S0 q) := by
  induction N with
  | zero => intro x3 S _; exact Ep_none
  | succ N ih =>
    intro x3 S hS
    show Ep (fB_X8_put_86_L2 x2 (lpF (fun _ _ => none) (fB_X8_put_86_L2 x2) N) x3 S) _
    have hk2 := ih
    clear ih
    generalize lpF (fun _ _ => none) (fB_X8_put_86_L2 x2) N = k2 at hk2 ⊢
    unfold fB_X8_put_86_L2
    refine Ep_ite (fun _ => ?_) (fun _ => ?_)
    · exact zfL_X8_put_86_L27 x2 0 S hS
    · refine Ep_ck ?_
      refine Ep_ck ?_
      refine Ep_lt (fun S_14 eS_14 => ?_)
      have hS_14 : zf S0 S_14 := by rw [eS_14]; exact zf_s hS (by omega)
      refine Ep_lt (fun y15 ey15 => ?_)
      exact hk2 y15 S_14 hS_14
set_option maxHeartbeats 1000000 in
set_option maxRecDepth 100000 in
theorem zfL_X8_put_86_L2 {S0 : Tr} (x2 : Int32)    (x3 : Int32) (S : Tr) (hS : zf S0 S) : Ep (fL_X8_put_86_L2 x2 x3 S) (fun q => zf S0 q) := by
  unfold fL_X8_put_86_L2
  exact zfB_X8_put_86_L2 x2 2000 x3 S hS
set_option maxHeartbeats 1000000 in
set_option maxRecDepth 100000 in
theorem zf_X8_put_86 {S0 : Tr} (S : Tr) (x2 : Int32) (hS : zf S0 S)   : Ep (f_X8_put_86 S x2) (fun q => zf S0 q) := by
  unfold f_X8_put_86
  exact zfL_X8_put_86_L2 x2 0 S hS
set_option maxHeartbeats 1000000 in
set_option maxRecDepth 100000 in
theorem zfB_X8_take_86_L103 {S0 : Tr}     (N : Nat) : ∀ (x3 : Int32) (S : Tr), zf S0 S → Ep (lpF (fun _ _ => none) (fB_X8_take_86_L103) N x3 S) (fun q => zf S0 q) := by
  induction N with
  | zero => intro x3 S _; exact Ep_none
  | succ N ih =>
    intro x3 S hS
    show Ep (fB_X8_take_86_L103 (lpF (fun _ _ => none) (fB_X8_take_86_L103) N) x3 S) _
    have hk103 := ih
    clear ih
    generalize lpF (fun _ _ => none) (fB_X8_take_86_L103) N = k103 at hk103 ⊢
    unfold fB_X8_take_86_L103
    refine Ep_ite (fun _ => ?_) (fun _ => ?_)
    · exact Ep_some hS
    · refine Ep_ck ?_
      refine Ep_ite (fun _ => ?_) (fun _ => ?_)
      · refine Ep_lt (fun y8 ey8 => ?_)
        exact hk103 y8 S hS
      · refine Ep_ck ?_
        refine Ep_ck ?_
        refine Ep_lt (fun S_11 eS_11 => ?_)
        have hS_11 : zf S0 S_11 := by rw [eS_11]; exact zf_s hS (by omega)
        refine Ep_lt (fun y12 ey12 => ?_)
        exact hk103 y12 S_11 hS_11
set_option maxHeartbeats 1000000 in
set_option maxRecDepth 100000 in
theorem zfL_X8_take_86_L103 {S0 : Tr}     (x3 : Int32) (S : Tr) (hS : zf S0 S) : Ep (fL_X8_take_86_L103 x3 S) (fun q => zf S0 q) := by
  unfold fL_X8_take_86_L103
  exact zfB_X8_take_86_L103 2000 x3 S hS
set_option maxHeartbeats 1000000 in
set_option maxRecDepth 100000 in
theorem zfB_X8_take_86_L82 {S0 : Tr}     (N : Nat) : ∀ (x3 : Int32) (S : Tr), zf S0 S → Ep (lpF (fun _ _ => none) (fB_X8_take_86_L82) N x3 S) (fun q => zf S0 q) := by
  induction N with
  | zero => intro x3 S _; exact Ep_none
  | succ N ih =>
    intro x3 S hS
    show Ep (fB_X8_take_86_L82 (lpF (fun _ _ => none) (fB_X8_take_86_L82) N) x3 S) _
    have hk82 := ih
    clear ih
    generalize lpF (fun _ _ => none) (fB_X8_take_86_L82) N = k82 at hk82 ⊢
    unfold fB_X8_take_86_L82
    refine Ep_ite (fun _ => ?_) (fun _ => ?_)
    · exact zfL_X8_take_86_L103 0 S hS
    · refine Ep_ck ?_
      refine Ep_lt (fun S_14 eS_14 => ?_)
      have hS_14 : zf S0 S_14 := by rw [eS_14]; exact zf_s hS (by omega)
      refine Ep_lt (fun y15 ey15 => ?_)
      exact hk82 y15 S_14 hS_14
set_option maxHeartbeats 1000000 in
set_option maxRecDepth 100000 in
theorem zfL_X8_take_86_L82 {S0 : Tr}     (x3 : Int32) (S : Tr) (hS : zf S0 S) : Ep (fL_X8_take_86_L82 x3 S) (fun q => zf S0 q) := by
  unfold fL_X8_take_86_L82
  exact zfB_X8_take_86_L82 2000 x3 S hS
set_option maxHeartbeats 1000000 in
set_option maxRecDepth 100000 in
theorem zfB_X8_take_86_L54 {S0 : Tr} (x2 : Int32)    (N : Nat) : ∀ (x3 : Int32) (S : Tr), zf S0 S → Ep (lpF (fun _ _ => none) (fB_X8_take_86_L54 x2) N x3 S) (fun q => zf S0 q) := by
  induction N with
  | zero => intro x3 S _; exact Ep_none
  | succ N ih =>
    intro x3 S hS
    show Ep (fB_X8_take_86_L54 x2 (lpF (fun _ _ => none) (fB_X8_take_86_L54 x2) N) x3 S) _
    have hk54 := ih
    clear ih
    generalize lpF (fun _ _ => none) (fB_X8_take_86_L54 x2) N = k54 at hk54 ⊢
    unfold fB_X8_take_86_L54
    refine Ep_ite (fun _ => ?_) (fun _ => ?_)
    · exact zfL_X8_take_86_L82 0 S hS
    · refine Ep_ck ?_
      refine Ep_ck ?_
      refine Ep_lt (fun S_18 eS_18 => ?_)
      have hS_18 : zf S0 S_18 := by rw [eS_18]; exact zf_s hS (by omega)
      refine Ep_lt (fun y19 ey19 => ?_)
      exact hk54 y19 S_18 hS_18
set_option maxHeartbeats 1000000 in
set_option maxRecDepth 100000 in
theorem zfL_X8_take_86_L54 {S0 : Tr} (x2 : Int32)    (x3 : Int32) (S : Tr) (hS : zf S0 S) : Ep (fL_X8_take_86_L54 x2 x3 S) (fun q => zf S0 q) := by
  unfold fL_X8_take_86_L54
  exact zfB_X8_take_86_L54 x2 2000 x3 S hS
set_option maxHeartbeats 1000000 in
set_option maxRecDepth 100000 in
theorem zfB_X8_take_86_L27 {S0 : Tr} (x2 : Int32)    (N : Nat) : ∀ (x3 : Int32) (S : Tr), zf S0 S → Ep (lpF (fun _ _ => none) (fB_X8_take_86_L27 x2) N x3 S) (fun q => zf S0 q) := by
  induction N with
  | zero => intro x3 S _; exact Ep_none
  | succ N ih =>
    intro x3 S hS
    show Ep (fB_X8_take_86_L27 x2 (lpF (fun _ _ => none) (fB_X8_take_86_L27 x2) N) x3 S) _
    have hk27 := ih
    clear ih
    generalize lpF (fun _ _ => none) (fB_X8_take_86_L27 x2) N = k27 at hk27 ⊢
    unfold fB_X8_take_86_L27
    refine Ep_ite (fun _ => ?_) (fun _ => ?_)
    · exact zfL_X8_take_86_L54 x2 0 S hS
    · refine Ep_ck ?_
      refine Ep_ck ?_
      refine Ep_lt (fun S_22 eS_22 => ?_)
      have hS_22 : zf S0 S_22 := by rw [eS_22]; exact zf_s hS (by omega)
      refine Ep_lt (fun y23 ey23 => ?_)
      exact hk27 y23 S_22 hS_22
set_option maxHeartbeats 1000000 in
set_option maxRecDepth 100000 in
theorem zfL_X8_take_86_L27 {S0 : Tr} (x2 : Int32)    (x3 : Int32) (S : Tr) (hS : zf S0 S) : Ep (fL_X8_take_86_L27 x2 x3 S) (fun q => zf S0 q) := by
  unfold fL_X8_take_86_L27
  exact zfB_X8_take_86_L27 x2 2000 x3 S hS
set_option maxHeartbeats 1000000 in
set_option maxRecDepth 100000 in
theorem zfB_X8_take_86_L2 {S0 : Tr} (x2 : Int32)    (N : Nat) : ∀ (x3 : Int32) (S : Tr), zf S0 S → Ep (lpF (fun _ _ => none) (fB_X8_take_86_L2 x2) N x3 S) (fun q => zf S0 q) := by
  induction N with
  | zero => intro x3 S _; exact Ep_none
  | succ N ih =>
    intro x3 S hS
    show Ep (fB_X8_take_86_L2 x2 (lpF (fun _ _ => none) (fB_X8_take_86_L2 x2) N) x3 S) _
    have hk2 := ih
    clear ih
    generalize lpF (fun _ _ => none) (fB_X8_take_86_L2 x2) N = k2 at hk2 ⊢
    unfold fB_X8_take_86_L2
    refine Ep_ite (fun _ => ?_) (fun _ => ?_)
    · exact zfL_X8_take_86_L27 x2 0 S hS
    · refine Ep_ck ?_
      refine Ep_ck ?_
      refine Ep_lt (fun S_26 eS_26 => ?_)
      have hS_26 : zf S0 S_26 := by rw [eS_26]; exact zf_s hS (by omega)
      refine Ep_lt (fun y27 ey27 => ?_)
      exact hk2 y27 S_26 hS_26
set_option maxHeartbeats 1000000 in
set_option maxRecDepth 100000 in
theorem zfL_X8_take_86_L2 {S0 : Tr} (x2 : Int32)    (x3 : Int32) (S : Tr) (hS : zf S0 S) : Ep (fL_X8_take_86_L2 x2 x3 S) (fun q => zf S0 q) := by
  unfold fL_X8_take_86_L2
  exact zfB_X8_take_86_L2 x2 2000 x3 S hS
set_option maxHeartbeats 1000000 in
set_option maxRecDepth 100000 in
theorem zf_X8_take_86 {S0 : Tr} (S : Tr) (x2 : Int32) (hS : zf S0 S)   : Ep (f_X8_take_86 S x2) (fun q => zf S0 q) := by
  unfold f_X8_take_86
  exact zfL_X8_take_86_L2 x2 0 S hS
def sg (S S1 : Tr) : Prop := ∀ a j, ((a = 62 ∧ j = 0) ∨ (a = 0 ∧ (j = 84 ∨ j = 89))) → S1 a j = S a j
theorem sg_r {S : Tr} : sg S S := fun _ _ _ => rfl
theorem sg_s {S0 S : Tr} {a i : Nat} {v : Int32} (h : sg S0 S) (hn : ¬ ((a = 62 ∧ i = 0) ∨ (a = 0 ∧ (i = 84 ∨ i = 89)))) : sg S0 (st S a i v) := fun b j hb => by
  rw [st_no (fun e => by obtain ⟨e1, e2⟩ := e; subst e1 e2; exact hn hb)]; exact h b j hb
set_option maxHeartbeats 1000000 in
set_option maxRecDepth 100000 in
theorem sg_X8_noted {S0 : Tr} (S : Tr) (x1 : Int32) (x2 : Int32) (x3 : Int32) (x4 : Int32) (hS : sg S0 S)   : Ep (f_X8_noted S x1 x2 x3 x4) (fun q => sg S0 q.2) := by
  unfold f_X8_noted
  refine Ep_ck ?_
  refine Ep_lt (fun S_2 eS_2 => ?_)
  have hS_2 : sg S0 S_2 := by rw [eS_2]; exact sg_s hS (by omega)
  refine Ep_ck ?_
  refine Ep_lt (fun S_4 eS_4 => ?_)
  have hS_4 : sg S0 S_4 := by rw [eS_4]; exact sg_s hS_2 (by omega)
  refine Ep_ck ?_
  refine Ep_lt (fun S_6 eS_6 => ?_)
  have hS_6 : sg S0 S_6 := by rw [eS_6]; exact sg_s hS_4 (by omega)
  refine Ep_ck ?_
  refine Ep_lt (fun S_8 eS_8 => ?_)
  have hS_8 : sg S0 S_8 := by rw [eS_8]; exact sg_s hS_6 (by omega)
  refine Ep_lt (fun S_9 eS_9 => ?_)
  have hS_9 : sg S0 S_9 := by rw [eS_9]; exact sg_s hS_8 (by omega)
  exact Ep_some hS_9
set_option maxHeartbeats 1000000 in
set_option maxRecDepth 100000 in
theorem sgJ_X8_see_J58 {S0 : Tr} (s0 : Int32) (s1 : Int32) (s2 : Int32) (s3 : Int32) (S : Tr) (hS : sg S0 S)   : Ep (fJ_X8_see_J58 s0 s1 s2 s3 S) (fun q => sg S0 q.2) := by
  unfold fJ_X8_see_J58
  refine Ep_bd (sg_X8_noted S s3 s2 s1 s0 hS) (fun q hq => ?_)
  refine Ep_lt (fun r16 er16 => ?_)
  refine Ep_lt (fun S_17 eS_17 => ?_)
  have hS_17 : sg S0 S_17 := by rw [eS_17]; exact hq
  exact Ep_some hS_17
set_option maxHeartbeats 1000000 in
set_option maxRecDepth 100000 in
theorem sg_X8_see {S0 : Tr} (S : Tr) (x1 : Int32) (x2 : Int32) (x3 : Int32) (x4 : Int32) (hS : sg S0 S)   : Ep (f_X8_see S x1 x2 x3 x4) (fun q => sg S0 q.2) := by
  unfold f_X8_see
  refine Ep_lt (fun S_1 eS_1 => ?_)
  have hS_1 : sg S0 S_1 := by rw [eS_1]; exact sg_s hS (by omega)
  refine Ep_ite (fun _ => ?_) (fun _ => ?_)
  · exact Ep_some hS_1
  · refine Ep_any (fun r3 => ?_)
    refine Ep_ite (fun _ => ?_) (fun _ => ?_)
    · exact Ep_some hS_1
    · refine Ep_any (fun r7 => ?_)
      refine Ep_ite (fun _ => ?_) (fun _ => ?_)
      · exact Ep_some hS_1
      · refine Ep_any (fun r11 => ?_)
        refine Ep_ite (fun _ => ?_) (fun _ => ?_)
        · exact Ep_some hS_1
        · refine Ep_ite (fun _ => ?_) (fun _ => ?_)
          · exact sgJ_X8_see_J58 0 x3 x2 x1 S_1 hS_1
          · exact sgJ_X8_see_J58 1 x3 x2 x1 S_1 hS_1
set_option maxHeartbeats 1000000 in
set_option maxRecDepth 100000 in
theorem sg_X8_strike {S0 : Tr} (S : Tr) (x1 : Int32) (hS : sg S0 S)   : Ep (f_X8_strike S x1) (fun q => sg S0 q.2) := by
  unfold f_X8_strike
  refine Ep_lt (fun S_1 eS_1 => ?_)
  have hS_1 : sg S0 S_1 := by rw [eS_1]; exact sg_s hS (by omega)
  refine Ep_ite (fun _ => ?_) (fun _ => ?_)
  · exact Ep_some hS_1
  · refine Ep_ite (fun _ => ?_) (fun _ => ?_)
    · exact Ep_some hS_1
    · refine Ep_ite (fun _ => ?_) (fun _ => ?_)
      · refine Ep_bd (sg_X8_noted S_1 (-1 : Int32) x1 (0 : Int32) (0 : Int32) hS_1) (fun q hq => ?_)
        refine Ep_lt (fun r5 er5 => ?_)
        refine Ep_lt (fun S_6 eS_6 => ?_)
        have hS_6 : sg S0 S_6 := by rw [eS_6]; exact hq
        exact Ep_some hS_6
      · exact Ep_some hS_1
set_option maxHeartbeats 1000000 in
set_option maxRecDepth 100000 in
theorem sg_X8_known {S0 : Tr} (S : Tr) (x1 : Int32) (hS : sg S0 S)   : Ep (f_X8_known S x1) (fun q => sg S0 q.2) := by
  unfold f_X8_known
  refine Ep_lt (fun S_1 eS_1 => ?_)
  have hS_1 : sg S0 S_1 := by rw [eS_1]; exact sg_s hS (by omega)
  refine Ep_any (fun r2 => ?_)
  refine Ep_ite (fun _ => ?_) (fun _ => ?_)
  · exact Ep_some hS_1
  · refine Ep_lt (fun S_6 eS_6 => ?_)
    have hS_6 : sg S0 S_6 := by rw [eS_6]; exact sg_s hS_1 (by omega)
    exact Ep_some hS_6
-- 62.za.am2
/-! what has been seen: class and reference -/
def zR (Z S : Tr) : Prop := Z 0 0 = S 0 78 ∧ Z 0 1 = S 0 79 ∧ ∀ k : Nat, (k : Int) < (S 0 78).toInt → Z 3 k = S 81 (4 * k) ∧ Z 4 k = S 81 (4 * k + 1) ∧ Z 5 k = S 81 (4 * k + 2) ∧ Z 6 k = S 81 (4 * k + 3)
theorem zR_f {Z S S1 : Tr} (h : zR Z S) (f : zk S S1) : zR Z S1 := by
  have e78 := f 0 78 (Or.inr ⟨rfl, Or.inl rfl⟩)
  have e79 := f 0 79 (Or.inr ⟨rfl, Or.inr rfl⟩)
  refine ⟨h.1.trans e78.symm, h.2.1.trans e79.symm, fun k hk => ?_⟩
  rw [e78] at hk
  rw [f 81 (4 * k) (Or.inl rfl), f 81 (4 * k + 1) (Or.inl rfl), f 81 (4 * k + 2) (Or.inl rfl), f 81 (4 * k + 3) (Or.inl rfl)]
  exact h.2.2 k hk
theorem i_ext {x y : Int32} (h : x.toInt = y.toInt) : x = y := Int32.toInt_inj.mp h
theorem zfull {S : Tr} (hc : S 0 78 = 24) : (S 0 78).toInt = 24 := by rw [hc]; decide
theorem e_add (pa qa : Nat → Nat) {Z S : Tr} (h : zR Z S) (b : 0 ≤ (S 0 78).toInt ∧ (S 0 78).toInt ≤ 24) (hc : ¬ S 0 78 = 24) (x1 x2 x3 x4 : Int32) : E2 (f_X4_add_x pa qa Z x1 x2 x3 x4) (f_X8_noted S x1 x2 x3 x4) (fun q q' => q.1 = q'.1 ∧ zR q.2 q'.2) := by
  have hlt : (S 0 78).toInt < 24 := by
    rcases (by omega : (S 0 78).toInt < 24 ∨ (S 0 78).toInt = 24) with g | g
    · exact g
    · exact absurd (i_ext (g.trans (by decide))) hc
  obtain ⟨n, hn⟩ : ∃ n : Nat, (S 0 78).toInt = n := ⟨(S 0 78).toInt.toNat, by omega⟩
  have zn : (Z 0 0).toNatClampNeg = n := by rw [h.1]; exact i_cn hn
  have m4 : ((4 : Int32) * (S 0 78)).toInt = 4 * (S 0 78).toInt := i_mulL 4 (by decide) (by omega) (by omega)
  have s0 : ((4 : Int32) * (S 0 78)).toNatClampNeg = 4 * n := i_cn (by rw [m4]; omega)
  have s1 : (((4 : Int32) * (S 0 78)) + 1).toNatClampNeg = 4 * n + 1 := i_cn (by rw [i_addK m4 (y := 1) (by decide) (by omega) (by omega)]; omega)
  have s2 : (((4 : Int32) * (S 0 78)) + 2).toNatClampNeg = 4 * n + 2 := i_cn (by rw [i_addK m4 (y := 2) (by decide) (by omega) (by omega)]; omega)
  have s3 : (((4 : Int32) * (S 0 78)) + 3).toNatClampNeg = 4 * n + 3 := i_cn (by rw [i_addK m4 (y := 3) (by decide) (by omega) (by omega)]; omega)
  have p1 : (S 0 78 + 1).toInt = n + 1 := by rw [i_addK hn (y := 1) (by decide) (by omega) (by omega)]
  unfold f_X4_add_x f_X8_noted
  refine E2_itl (fun _ => ?_) (fun g => ?_)
  rotate_left
  · have := tq_ltn (x := Z 0 0) (y := (24 : Int32)) rfl (b := 24) (by decide) g
    rw [h.1] at this; omega
  refine E2_ckl (fun _ => E2_ltl (fun Z3 e3 => E2_ckl (fun _ => E2_ltl (fun Z5 e5 => E2_ckl (fun _ => E2_ltl (fun Z7 e7 => E2_ckl (fun _ => E2_ltl (fun Z9 e9 => E2_ltl (fun Z10 e10 => ?_)))))))))
  have y3 : Z3 0 = Z 0 := by rw [e3, st_oth (by decide)]
  rw [y3] at e5
  have y5 : Z5 0 = Z 0 := by rw [e5, st_oth (by decide), y3]
  rw [y5] at e7
  have y7 : Z7 0 = Z 0 := by rw [e7, st_oth (by decide), y5]
  rw [y7] at e9
  have y9 : Z9 0 = Z 0 := by rw [e9, st_oth (by decide), y7]
  rw [y9] at e10
  rw [zn] at e3 e5 e7 e9
  refine E2_ckr (fun _ => E2_ltr (fun S2 f2 => E2_ckr (fun _ => E2_ltr (fun S4 f4 => E2_ckr (fun _ => E2_ltr (fun S6 f6 => E2_ckr (fun _ => E2_ltr (fun S8 f8 => E2_ltr (fun S9 f9 => ?_)))))))))
  have u2 : S2 0 = S 0 := by rw [f2, st_oth (by decide)]
  rw [u2] at f4
  have u4 : S4 0 = S 0 := by rw [f4, st_oth (by decide), u2]
  rw [u4] at f6
  have u6 : S6 0 = S 0 := by rw [f6, st_oth (by decide), u4]
  rw [u6] at f8
  have u8 : S8 0 = S 0 := by rw [f8, st_oth (by decide), u6]
  rw [u8] at f9
  rw [s0] at f2
  rw [s1] at f4
  rw [s2] at f6
  rw [s3] at f8
  have cz : Z10 0 0 = S 0 78 + 1 := by rw [e10, st_same, h.1]
  have cs : S9 0 78 = S 0 78 + 1 := by rw [f9, st_same]
  have o81 : S9 81 = S8 81 := by rw [f9, st_oth (by decide)]
  refine E2_some ⟨by show Z10 0 0 - 1 = S9 0 78 - 1; rw [cz, cs], cz.trans cs.symm, ?_, fun k hk => ?_⟩
  · show Z10 0 1 = S9 0 79
    rw [e10, st_ne (by decide), y9, f9, st_ne (by decide), u8]; exact h.2.1
  · have hk : (k : Int) < (S9 0 78).toInt := hk
    rw [cs, p1] at hk
    show Z10 3 k = S9 81 (4 * k) ∧ Z10 4 k = S9 81 (4 * k + 1) ∧ Z10 5 k = S9 81 (4 * k + 2) ∧ Z10 6 k = S9 81 (4 * k + 3)
    have z3 : Z10 3 = Z3 3 := by rw [e10, st_oth (by decide), e9, st_oth (by decide), e7, st_oth (by decide), e5, st_oth (by decide)]
    have z4 : Z10 4 = Z5 4 := by rw [e10, st_oth (by decide), e9, st_oth (by decide), e7, st_oth (by decide)]
    have z5 : Z10 5 = Z7 5 := by rw [e10, st_oth (by decide), e9, st_oth (by decide)]
    have z6 : Z10 6 = Z9 6 := by rw [e10, st_oth (by decide)]
    rw [z3, z4, z5, z6, o81]
    by_cases g : k = n
    · subst g
      refine ⟨?_, ?_, ?_, ?_⟩
      · rw [e3, st_same, f8, st_ne (by omega), f6, st_ne (by omega), f4, st_ne (by omega), f2, st_same]
      · rw [e5, st_same, f8, st_ne (by omega), f6, st_ne (by omega), f4, st_same]
      · rw [e7, st_same, f8, st_ne (by omega), f6, st_same]
      · rw [e9, st_same, f8, st_same]
    · have q : ∀ j, ¬ j = 4 * n → ¬ j = 4 * n + 1 → ¬ j = 4 * n + 2 → ¬ j = 4 * n + 3 → S8 81 j = S 81 j := fun j n0 n1 n2 n3 => by rw [f8, st_ne n3, f6, st_ne n2, f4, st_ne n1, f2, st_ne n0]
      have a := h.2.2 k (by omega)
      rw [q (4 * k) (by omega) (by omega) (by omega) (by omega), q (4 * k + 1) (by omega) (by omega) (by omega) (by omega), q (4 * k + 2) (by omega) (by omega) (by omega) (by omega), q (4 * k + 3) (by omega) (by omega) (by omega) (by omega)]
      refine ⟨?_, ?_, ?_, ?_⟩
      · rw [e3, st_ne g]; exact a.1
      · rw [e5, st_ne g, e3, st_oth (by decide)]; exact a.2.1
      · rw [e7, st_ne g, e5, st_oth (by decide), e3, st_oth (by decide)]; exact a.2.2.1
      · rw [e9, st_ne g, e7, st_oth (by decide), e5, st_oth (by decide), e3, st_oth (by decide)]; exact a.2.2.2
/-- no room: nothing is noted -/
theorem a_full (pa qa : Nat → Nat) {Z S : Tr} (h : zR Z S) (hc : S 0 78 = 24) (x1 x2 x3 x4 : Int32) : f_X4_add_x pa qa Z x1 x2 x3 x4 = some (-1, Z) := by
  unfold f_X4_add_x
  rw [h.1, hc, if_neg (by decide)]
theorem e_see (pa qa : Nat → Nat) {P Z S : Tr} (q4 : Nat) (hn : nmR P S) (h : zR Z S) (hS : iR BM S) (x1 x2 x3 x4 : Int32) : E2 (f_X7_see pa qa P Z q4 x1 x2 x3 x4) (f_X8_see S x1 x2 x3 x4) (fun q q' => q.1 = q'.1 ∧ zR q.2 q'.2) := by
  unfold f_X7_see f_X8_see
  refine E2_ltr (fun S1 e1 => ?_)
  have f1 : zk S S1 := fun a j q => by rw [e1, st_no (fun g => by rcases q with q | ⟨_, q | q⟩ <;> omega)]
  have h1 := zR_f h f1
  have b1 : 0 ≤ (S1 0 78).toInt ∧ (S1 0 78).toInt ≤ 24 := by rw [f1 0 78 (Or.inr ⟨rfl, Or.inl rfl⟩)]; exact hS 0 78
  have n14 : P 0 2 = S1 0 14 := by rw [e1, st_ne (by decide)]; exact hn.1.2.2.1
  have n12 : P 0 0 = S1 0 12 := by rw [e1, st_ne (by decide)]; exact hn.1.1
  have no : ∀ v v' : Int32, v = v' → E2 (some (v, Z)) (some (v', S1)) (fun q q' => q.1 = q'.1 ∧ zR q.2 q'.2) := fun v v' g => E2_some ⟨g, h1⟩
  by_cases hc : S1 0 78 = 24
  · refine E2_pr hc ?_
    have add : ∀ a b c d, f_X4_add_x pa qa Z a b c d = some (-1, Z) := fun a b c d => a_full pa qa h1 hc a b c d
    refine E2_itl (fun _ => no _ _ rfl) (fun _ => E2_itl (fun _ => no _ _ rfl) (fun _ => E2_any (fun r3 => E2_itl (fun _ => no _ _ rfl) (fun _ => E2_any (fun r7 => E2_itl (fun _ => no _ _ rfl) (fun _ => ?_))))))
    unfold fJ_X7_see_J45
    rw [add, add]
    exact E2_itl (fun _ => no _ _ rfl) (fun _ => no _ _ rfl)
  · refine E2_qr hc ?_
    unfold f_X8_isIn f_X7_isPiece f_X7_isPlace f_X8_isPiece f_X8_isPlace
    by_cases c : x1 < 0
    · refine E2_pl c ?_
      rw [if_pos c]
      exact E2_sr (E2_pr rfl (no _ _ rfl))
    refine E2_ql c ?_
    rw [if_neg c]
    have k := tq_ltn (x := x1) (y := (0 : Int32)) rfl (b := 0) (by decide) c
    by_cases d : (20 : Int32) ≤ x1
    · have g := tq_le (x := (20 : Int32)) (y := x1) (a := 20) (by decide) rfl d
      refine E2_pl d ?_
      have l : (19 : Int32) < x1 := Int32.not_le.mp (fun u => by have := tq_le (x := x1) (y := (19 : Int32)) rfl (b := 19) (by decide) u; omega)
      rw [if_pos l]
      exact E2_sr (E2_pr rfl (no _ _ rfl))
    refine E2_ql d ?_
    have g := tq_len (x := (20 : Int32)) (y := x1) (a := 20) (by decide) rfl d
    have l : ¬ (19 : Int32) < x1 := fun u => by have := tq_lt (x := (19 : Int32)) (y := x1) (a := 19) (by decide) rfl u; omega
    rw [if_neg l]
    refine E2_sr (E2_qr (by decide) ?_)
    by_cases c2 : x2 < 0
    · rw [if_pos c2, if_pos c2]
      exact E2_sl (E2_sr (E2_pl rfl (E2_pr rfl (no _ _ rfl))))
    rw [if_neg c2, if_neg c2]
    refine E2_bd (R := fun r r' => r = r') (E2_ckl (fun _ => ?_)) (fun r r' er => ?_)
    · rw [n14]
      exact E2_it Iff.rfl (fun _ _ => E2_some rfl) (fun _ _ => E2_some rfl)
    rw [er]
    refine E2_it Iff.rfl (fun _ _ => no _ _ rfl) (fun _ _ => ?_)
    by_cases c3 : x3 < 0
    · rw [if_pos c3, if_pos c3]
      exact E2_sl (E2_sr (E2_pl rfl (E2_pr rfl (no _ _ rfl))))
    rw [if_neg c3, if_neg c3]
    refine E2_bd (R := fun r r' => r = r') (E2_ckl (fun _ => ?_)) (fun r r' er => ?_)
    · rw [n12]
      exact E2_it Iff.rfl (fun _ _ => E2_some rfl) (fun _ _ => E2_some rfl)
    rw [er]
    refine E2_it Iff.rfl (fun _ _ => no _ _ rfl) (fun _ _ => ?_)
    unfold fJ_X7_see_J45 fJ_X8_see_J58
    refine E2_it Iff.rfl (fun _ _ => ?_) (fun _ _ => ?_)
    · exact E2_bd (e_add pa qa h1 b1 hc x1 x2 x3 0) (fun q q' hq => E2_some hq)
    · exact E2_bd (e_add pa qa h1 b1 hc x1 x2 x3 1) (fun q q' hq => E2_some hq)
theorem e_strike (pa qa : Nat → Nat) {Z S : Tr} (h : zR Z S) (hS : iR BM S) (x1 : Int32) : E2 (f_X7_strike pa qa Z x1) (f_X8_strike S x1) (fun q q' => q.1 = q'.1 ∧ zR q.2 q'.2) := by
  unfold f_X7_strike f_X8_strike
  refine E2_ltr (fun S1 e1 => ?_)
  have f1 : zk S S1 := fun a j q => by rw [e1, st_no (fun g => by rcases q with q | ⟨_, q | q⟩ <;> omega)]
  have h1 := zR_f h f1
  have b1 : 0 ≤ (S1 0 78).toInt ∧ (S1 0 78).toInt ≤ 24 := by rw [f1 0 78 (Or.inr ⟨rfl, Or.inl rfl⟩)]; exact hS 0 78
  have no : ∀ v v' : Int32, v = v' → E2 (some (v, Z)) (some (v', S1)) (fun q q' => q.1 = q'.1 ∧ zR q.2 q'.2) := fun v v' g => E2_some ⟨g, h1⟩
  by_cases hc : S1 0 78 = 24
  · refine E2_pr hc ?_
    rw [a_full pa qa h1 hc]
    exact E2_itl (fun _ => no _ _ rfl) (fun _ => E2_itl (fun _ => no _ _ rfl) (fun _ => no _ _ rfl))
  · refine E2_qr hc ?_
    rw [h1.1]
    refine E2_it Iff.rfl (fun _ _ => no _ _ rfl) (fun _ _ => E2_it Iff.rfl (fun _ _ => ?_) (fun _ _ => no _ _ rfl))
    exact E2_bd (e_add pa qa h1 b1 hc (-1) x1 0 0) (fun q q' hq => E2_some hq)
theorem e_known (pa qa : Nat → Nat) {Z S : Tr} (h : zR Z S) (x1 : Int32) : E2 (f_X7_known pa qa Z x1) (f_X8_known S x1) (fun q q' => q.1 = q'.1 ∧ zR q.2 q'.2) := by
  unfold f_X7_known f_X8_known f_X8_isIn
  refine E2_ltr (fun S1 e1 => ?_)
  have f1 : zk S S1 := fun a j q => by rw [e1, st_no (fun g => by rcases q with q | ⟨_, q | q⟩ <;> omega)]
  have h1 := zR_f h f1
  by_cases c : x1 < -1
  · refine E2_pl c ?_
    rw [if_pos c]
    exact E2_sr (E2_pr rfl (E2_some ⟨rfl, h1⟩))
  refine E2_ql c ?_
  rw [if_neg c, h1.1]
  by_cases d : x1 ≤ S1 0 78
  · refine E2_pl d ?_
    rw [if_neg (Int32.not_lt.mpr d)]
    refine E2_ltl (fun Z3 e3 => E2_sr (E2_qr (by decide) (E2_ltr (fun S6 e6 => E2_some ⟨rfl, ?_, ?_, fun k hk => ?_⟩))))
    · show Z3 0 0 = S6 0 78
      rw [e3, st_ne (by decide), e6, st_ne (by decide)]; exact h1.1
    · show Z3 0 1 = S6 0 79
      rw [e3, st_same, e6, st_same]
    · have hk : (k : Int) < (S6 0 78).toInt := hk
      rw [e6, st_ne (by decide)] at hk
      have a := h1.2.2 k hk
      show Z3 3 k = S6 81 (4 * k) ∧ Z3 4 k = S6 81 (4 * k + 1) ∧ Z3 5 k = S6 81 (4 * k + 2) ∧ Z3 6 k = S6 81 (4 * k + 3)
      rw [e3, st_oth (by decide), st_oth (by decide), st_oth (by decide), st_oth (by decide), e6, st_oth (by decide)]
      exact a
  · refine E2_ql d ?_
    rw [if_pos (Int32.not_le.mp d)]
    exact E2_sr (E2_pr rfl (E2_some ⟨rfl, h1⟩))
/-- a new text: nothing has been seen -/
theorem k_begin (S : Tr) (L : Lo) : Ep (f_X8_begin S L) (fun q => q.1 0 78 = 0 ∧ q.1 0 79 = -1 ∧ q.1 0 82 = 0 ∧ q.1 0 84 = 0) := by
  unfold f_X8_begin
  refine Ep_any (fun S1 => Ep_lt (fun L4 _ => Ep_any (fun S5 => Ep_lt (fun S8 e8 => Ep_lt (fun S9 e9 => Ep_lt (fun S10 e10 => Ep_lt (fun S11 e11 => Ep_some ?_)))))))
  show S11 0 78 = 0 ∧ S11 0 79 = -1 ∧ S11 0 82 = 0 ∧ S11 0 84 = 0
  refine ⟨?_, ?_, ?_, ?_⟩
  · rw [e11, st_ne (by decide), e10, st_ne (by decide), e9, st_ne (by decide), e8, st_same]
  · rw [e11, st_ne (by decide), e10, st_ne (by decide), e9, st_same]
  · rw [e11, st_ne (by decide), e10, st_same]
  · rw [e11, st_same]
theorem k_kz (T : Tr) (L : Lo) : Ep (f_X8_keepText T L) (fun q => q.1 0 78 = 0 ∧ q.1 0 79 = -1 ∧ q.1 0 82 = 0 ∧ q.1 0 84 = 0) := by
  unfold f_X8_keepText
  refine Ep_lt (fun S1 _ => Ep_lt (fun S2 _ => Ep_lt (fun S3 _ => Ep_lt (fun S4 _ => Ep_any (fun A1 => Ep_any (fun A2 => Ep_any (fun A3 => Ep_any (fun A4 => Ep_any (fun A5 => Ep_any (fun A6 => Ep_any (fun A7 => Ep_any (fun A8 => Ep_any (fun A9 => Ep_any (fun A10 => Ep_any (fun A11 => Ep_any (fun A12 => ?_))))))))))))))))
  refine ke_139 L A12 (fun T36 _ => ?_) 2000 0 A12 (by decide) (by decide) (fun j hj => absurd hj (by rw [show (0 : Int32).toInt = 0 by decide]; omega)) (fun _ _ _ => rfl)
  unfold fJ_X8_keepText_J164
  refine Ep_any (fun B1 => Ep_any (fun B2 => Ep_any (fun B3 => Ep_any (fun B4 => Ep_any (fun B5 => Ep_bd (k_begin B5 L) (fun q hq => Ep_lt (fun S57 e57 => Ep_lt (fun L58 _ => Ep_some ?_))))))))
  show S57 0 78 = 0 ∧ S57 0 79 = -1 ∧ S57 0 82 = 0 ∧ S57 0 84 = 0
  rw [e57]; exact hq
theorem zR_0 {Z S : Tr} (h : Z 0 0 = 0) (h1 : Z 0 1 = -1) (k : S 0 78 = 0 ∧ S 0 79 = -1 ∧ S 0 82 = 0 ∧ S 0 84 = 0) : zR Z S := by
  refine ⟨h.trans k.1.symm, h1.trans k.2.1.symm, fun j hj => ?_⟩
  rw [k.1, show (0 : Int32).toInt = 0 by decide] at hj; omega
theorem zR_T {Z S S1 : Tr} (h : zR Z S) (a : kFT S S1) : zR Z S1 := zR_f h (fun c j q => by
  rcases q with rfl | ⟨rfl, rfl | rfl⟩
  · exact a 81 j rfl (fun g => absurd g.1 (by decide))
  · exact a 0 78 rfl (by decide)
  · exact a 0 79 rfl (by decide))
theorem k_fo (pa qa : Nat → Nat) (Z : Tr) : Ep (f_X4_forget_x pa qa Z) (fun q => q 0 0 = 0 ∧ q 0 1 = -1) := by
  unfold f_X4_forget_x
  refine Ep_lt (fun Z1 e1 => Ep_lt (fun Z2 e2 => Ep_some ⟨?_, ?_⟩))
  · rw [e2, st_ne (by decide), e1, st_same]
  · rw [e2, st_same]
