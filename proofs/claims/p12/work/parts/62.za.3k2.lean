/-- an answer that is yes or no -/
def r01 (q : Int32 × Tr) : Prop := q.1 = 0 ∨ q.1 = 1
theorem r01_no {T : Tr} {c : Int32} : Ep (bd (f_X8_wrong T c) fun q => lt q.1 fun r3 => lt q.2 fun S_4 => ck (okB r3) (some (r3, S_4))) (fun q => q.1 = 0 ∨ q.1 = 1) := by
  rw [wrE]; exact Ep_some (Or.inl rfl)
theorem r01_lf {T : Tr} : Ep (f_X8_leafRead T) (fun q => q.1 = 0 ∨ q.1 = 1) := by
  have j160 : ∀ (a b : Int32) (T1 : Tr), Ep (fJ_X8_leafRead_J160 a b T1) (fun q => q.1 = 0 ∨ q.1 = 1) := fun a b T1 => by
    unfold fJ_X8_leafRead_J160
    exact Ep_any (fun _ => Ep_lt (fun _ _ => Ep_any (fun _ => Ep_some (Or.inr rfl))))
  have j129 : ∀ x : Int32, Ep (fJ_X8_leafRead_J129 x T) (fun q => q.1 = 0 ∨ q.1 = 1) := fun x => by
    unfold fJ_X8_leafRead_J129 fJ_X8_leafRead_J148
    exact Ep_any (fun _ => Ep_lt (fun _ _ => Ep_lt (fun _ _ => Ep_ite (fun _ => Ep_some (Or.inl rfl)) (fun _ => Ep_ite (fun _ => Ep_ite (fun _ => j160 _ _ _) (fun _ => j160 _ _ _)) (fun _ => Ep_ite (fun _ => j160 _ _ _) (fun _ => j160 _ _ _))))))
  have j86 : Ep (fJ_X8_leafRead_J86 T) (fun q => q.1 = 0 ∨ q.1 = 1) := by
    unfold fJ_X8_leafRead_J86 fJ_X8_leafRead_J109
    exact Ep_any (fun _ => Ep_ite (fun _ => Ep_ite (fun _ => j129 _) (fun _ => Ep_ite (fun _ => j129 _) (fun _ => r01_no))) (fun _ => Ep_ite (fun _ => Ep_ite (fun _ => j129 _) (fun _ => Ep_ite (fun _ => j129 _) (fun _ => r01_no))) (fun _ => r01_no)))
  unfold f_X8_leafRead
  exact Ep_any (fun _ => Ep_ite (fun _ => Ep_any (fun _ => Ep_ite (fun _ => j86) (fun _ => Ep_ite (fun _ => j86) (fun _ => Ep_any (fun _ => Ep_lt (fun _ _ => Ep_lt (fun _ _ => Ep_ite (fun _ => Ep_some (Or.inl rfl)) (fun _ => Ep_any (fun _ => Ep_any (fun _ => Ep_some (Or.inr rfl))))))))))) (fun _ => Ep_ite (fun _ => r01_no) (fun _ => Ep_lt (fun _ _ => Ep_any (fun _ => Ep_lt (fun _ _ => Ep_any (fun _ => Ep_some (Or.inr rfl))))))))
theorem r01_sg {T : Tr} : Ep (f_X8_signs T) (fun q => q.1 = 0 ∨ q.1 = 1) := by
  have j250 : ∀ (a : Int32) (T1 : Tr), Ep (fJ_X8_signs_J250 a T1) (fun q => q.1 = 0 ∨ q.1 = 1) := fun a T1 => by
    unfold fJ_X8_signs_J250
    exact Ep_ck (Ep_lt (fun _ _ => Ep_any (fun _ => Ep_some (Or.inr rfl))))
  have j217 : ∀ (x : Int32) (T1 : Tr), Ep (fJ_X8_signs_J217 x T1) (fun q => q.1 = 0 ∨ q.1 = 1) := fun x T1 => by
    unfold fJ_X8_signs_J217
    exact Ep_any (fun _ => Ep_lt (fun _ _ => Ep_lt (fun _ _ => Ep_ite (fun _ => Ep_some (Or.inl rfl)) (fun _ => Ep_any (fun _ => Ep_lt (fun _ _ => Ep_any (fun _ => Ep_ite (fun _ => j250 _ _) (fun _ => j250 _ _))))))))
  have j175 : ∀ x y : Int32, Ep (fJ_X8_signs_J175 x y T) (fun q => q.1 = 0 ∨ q.1 = 1) := fun x y => by
    unfold fJ_X8_signs_J175
    exact Ep_any (fun _ => Ep_any (fun _ => Ep_ite (fun _ => Ep_ite (fun _ => j217 _ _) (fun _ => Ep_ck (Ep_any (fun _ => Ep_ite (fun _ => r01_no) (fun _ => j217 _ _))))) (fun _ => j217 _ _)))
  have j147 : ∀ x : Int32, Ep (fJ_X8_signs_J147 x T) (fun q => q.1 = 0 ∨ q.1 = 1) := fun x => by
    unfold fJ_X8_signs_J147
    exact Ep_ite (fun _ => r01_no) (fun _ => Ep_any (fun _ => Ep_ite (fun _ => j175 _ _) (fun _ => Ep_any (fun _ => j175 _ _))))
  have j47 : Ep (fJ_X8_signs_J47 T) (fun q => q.1 = 0 ∨ q.1 = 1) := by
    unfold fJ_X8_signs_J47
    exact Ep_any (fun _ => Ep_ite (fun _ => Ep_any (fun _ => Ep_ite (fun _ => Ep_ite (fun _ => j147 _) (fun _ => Ep_any (fun _ => Ep_ite (fun _ => Ep_any (fun _ => Ep_ite (fun _ => Ep_any (fun _ => Ep_ite (fun _ => Ep_any (fun _ => Ep_ite (fun _ => j147 _) (fun _ => j147 _))) (fun _ => j147 _))) (fun _ => j147 _))) (fun _ => j147 _)))) (fun _ => j147 _))) (fun _ => j147 _))
  unfold f_X8_signs
  exact Ep_any (fun _ => Ep_ite (fun _ => j47) (fun _ => Ep_ite (fun _ => j47) (fun _ => Ep_any (fun _ => Ep_lt (fun _ _ => Ep_lt (fun _ _ => Ep_any (fun _ => Ep_some (Or.inr rfl))))))))
theorem fk_sg {S T : Tr} (h : fk S T) : Ep (f_X8_signs T) (fk1 S) := by
  have j250 : ∀ (a : Int32) T1, fk S T1 → Ep (fJ_X8_signs_J250 a T1) (fk1 S) := fun a T1 h1 => by
    unfold fJ_X8_signs_J250
    exact Ep_ck (Ep_lt (fun T2 e2 => Ep_bd (fk_tok (by rw [e2]; exact fk_s h1 (by omega))) (fun T3 h3 => Ep_some (fun _ => h3))))
  have j217 : ∀ (x : Int32) T1, fk S T1 → Ep (fJ_X8_signs_J217 x T1) (fk1 S) := fun x T1 h1 => by
    unfold fJ_X8_signs_J217
    exact fk_cnt (k := fun S_46 => bd (f_X8_waitsFor S_46 x) fun S_50 => lt (st S_50 0 47 1) fun S_53 => bd (f_X8_rank x) fun r54 => if 3 ≤ r54 then (fJ_X8_signs_J250  0 S_53) else (fJ_X8_signs_J250  1 S_53)) h1 (fun T2 h2 => Ep_bd (fk_wf h2) (fun T3 h3 => Ep_lt (fun T4 e4 => Ep_any (fun _ => Ep_ite (fun _ => j250 _ _ (by rw [e4]; exact fk_s h3 (by omega))) (fun _ => j250 _ _ (by rw [e4]; exact fk_s h3 (by omega)))))))
  have j175 : ∀ x y : Int32, Ep (fJ_X8_signs_J175 x y T) (fk1 S) := fun x y => by
    unfold fJ_X8_signs_J175
    exact Ep_bd (fk_bd h) (fun T1 h1 => Ep_any (fun _ => Ep_ite (fun _ => Ep_ite (fun _ => j217 _ _ h1) (fun _ => Ep_ck (Ep_any (fun _ => Ep_ite (fun _ => fk_no) (fun _ => j217 _ _ h1))))) (fun _ => j217 _ _ h1)))
  have j147 : ∀ x : Int32, Ep (fJ_X8_signs_J147 x T) (fk1 S) := fun x => by
    unfold fJ_X8_signs_J147
    exact Ep_ite (fun _ => fk_no) (fun _ => Ep_any (fun _ => Ep_ite (fun _ => j175 _ _) (fun _ => Ep_any (fun _ => j175 _ _))))
  have j47 : Ep (fJ_X8_signs_J47 T) (fk1 S) := by
    unfold fJ_X8_signs_J47
    exact Ep_any (fun _ => Ep_ite (fun _ => Ep_any (fun _ => Ep_ite (fun _ => Ep_ite (fun _ => j147 _) (fun _ => Ep_any (fun _ => Ep_ite (fun _ => Ep_any (fun _ => Ep_ite (fun _ => Ep_any (fun _ => Ep_ite (fun _ => Ep_any (fun _ => Ep_ite (fun _ => j147 _) (fun _ => j147 _))) (fun _ => j147 _))) (fun _ => j147 _))) (fun _ => j147 _)))) (fun _ => j147 _))) (fun _ => j147 _))
  unfold f_X8_signs
  exact Ep_any (fun _ => Ep_ite (fun _ => j47) (fun _ => Ep_ite (fun _ => j47) (fun _ => Ep_bd (fk_bd h) (fun T1 h1 => Ep_lt (fun T2 e2 => Ep_lt (fun T3 e3 => Ep_bd (fk_tok (by rw [e3, e2]; exact fk_s (fk_s h1 (by omega)) (by omega))) (fun T4 h4 => Ep_some (fun _ => h4))))))))
theorem fk_L25 {S : Tr} (N : Nat) : ∀ T, fk S T → Ep (lpF (fun _ => none) fB_X8_sumRead_L25 N T) (fk1 S) := by
  induction N with
  | zero => intro T _; exact Ep_none
  | succ N ih =>
    intro T h
    show Ep (fB_X8_sumRead_L25 (lpF (fun _ => none) fB_X8_sumRead_L25 N) T) _
    generalize lpF (fun _ => none) fB_X8_sumRead_L25 N = k at ih ⊢
    have st1 : ∀ x : Option (Int32 × Tr), Ep x (fun q => (q.1 = 0 ∨ q.1 = 1) ∧ fk1 S q) → Ep (bd x fun q => lt q.1 fun r11 => lt q.2 fun S_12 => if r11 = 0 then (some ((0 : Int32), S_12)) else (k S_12)) (fk1 S) := fun x hx => by
      refine Ep_bd hx (fun q hq => ?_)
      obtain ⟨r, T1⟩ := q
      obtain ⟨h1, h2⟩ := hq
      show Ep (if r = 0 then (some ((0 : Int32), T1)) else k T1) (fk1 S)
      refine Ep_ite (fun _ => fk_0) (fun c => ih T1 (h2 c))
    have b01 : ∀ (x : Option (Int32 × Tr)), Ep x (fun q => q.1 = 0 ∨ q.1 = 1) → Ep x (fk1 S) → Ep x (fun q => (q.1 = 0 ∨ q.1 = 1) ∧ fk1 S q) := fun x a b => Ep_and a b
    have j48 : Ep (fJ_X8_sumRead_J48 k T) (fk1 S) := by
      unfold fJ_X8_sumRead_J48
      exact Ep_ite (fun _ => st1 _ (b01 _ r01_sg (fk_sg h))) (fun _ => st1 _ (b01 _ r01_lf (fk_lf h)))
    have j74 : Ep (fJ_X8_sumRead_J74 T) (fk1 S) := by
      unfold fJ_X8_sumRead_J74
      exact Ep_bd (fk_bd h) (fun T1 h1 => Ep_some (fun _ => h1))
    unfold fB_X8_sumRead_L25
    exact Ep_any (fun _ => Ep_ite (fun _ => j48) (fun _ => Ep_ite (fun _ => Ep_ite (fun _ => j74) (fun _ => j48)) (fun _ => j48)))
