/-! a formula, a line, a text of the reference: where it succeeds, fault and its place stay -/
theorem fk_sum {S T : Tr} (h : fk S T) : Ep (f_X8_sumRead T) (fk1 S) := by
  unfold f_X8_sumRead fL_X8_sumRead_L25
  exact Ep_lt (fun T1 e1 => Ep_lt (fun T2 e2 => Ep_lt (fun T3 e3 => Ep_lt (fun T4 e4 => Ep_lt (fun T5 e5 => fk_L25 2000 T5 (by rw [e5, e4, e3, e2, e1]; exact fk_s (fk_s (fk_s (fk_s (fk_s h (by omega)) (by omega)) (by omega)) (by omega)) (by omega)))))))
theorem fk_343 {S T : Tr} {x : Int32} (h : ¬ x = 0 → fk S T) : Ep (fJ_X8_lineRead_J343 x T) (fk1 S) := by
  unfold fJ_X8_lineRead_J343
  exact Ep_ite (fun _ => fk_0) (fun c => Ep_any (fun r => Ep_ite (fun _ => fk_no) (fun _ => Ep_bd (fk_tok (h c)) (fun T1 h1 => Ep_some (fun _ => h1)))))
theorem fk_343b {S : Tr} {x : Option (Int32 × Tr)} (hx : Ep x (fk1 S)) : Ep (bd x fun q => lt q.1 fun r10 => lt q.2 fun S_11 => fJ_X8_lineRead_J343 r10 S_11) (fk1 S) := Ep_bd hx (fun q hq => fk_343 (x := q.1) (T := q.2) hq)
theorem fk_line {S T : Tr} (h : fk S T) : Ep (f_X8_lineRead T) (fk1 S) := by
  have no : ∀ (T1 : Tr) (c : Int32), Ep (bd (f_X8_wrong T1 c) fun q => lt q.1 fun r2 => lt q.2 fun S_3 => ck (okB r2) (some (r2, S_3))) (fk1 S) := fun T1 c => fk_no
  have once : ∀ (x : Int32) (k0 k1 : Tr → Option (Int32 × Tr)), (∀ T1, Ep (k0 T1) (fk1 S)) → (∀ T1, fk S T1 → Ep (k1 T1) (fk1 S)) → Ep (bd (f_X8_isOnce T x) fun q => lt q.1 fun r61 => lt q.2 fun S_62 => if r61 = 0 then k0 S_62 else k1 S_62) (fk1 S) := fun x k0 k1 h0 h1 => Ep_bd (fk_once h) (fun q hq => by
    show Ep (if q.1 = 0 then k0 q.2 else k1 q.2) (fk1 S)
    exact Ep_ite (fun _ => h0 _) (fun c => h1 _ (hq.2 c)))
  have num : ∀ (T1 : Tr) (lo hi : Int32) (k0 k1 : Tr → Option (Int32 × Tr)), fk S T1 → (∀ T2, Ep (k0 T2) (fk1 S)) → (∀ T2, fk S T2 → Ep (k1 T2) (fk1 S)) → Ep (bd (f_X8_number T1 lo hi) fun q => lt q.1 fun r61 => lt q.2 fun S_62 => if r61 = 0 then k0 S_62 else k1 S_62) (fk1 S) := fun T1 lo hi k0 k1 hT h0 h1 => Ep_bd (fk_num hT) (fun q hq => by
    show Ep (if q.1 = 0 then k0 q.2 else k1 q.2) (fk1 S)
    exact Ep_ite (fun _ => h0 _) (fun c => h1 _ (hq.2 c)))
  have z0 : ∀ T1 : Tr, Ep (fJ_X8_lineRead_J343 0 T1) (fk1 S) := fun T1 => fk_343 (fun c => absurd rfl c)
  have j186 : ∀ T1, Ep (fJ_X8_lineRead_J186 T1) (fk1 S) := fun T1 => by unfold fJ_X8_lineRead_J186 fJ_X8_lineRead_J187; exact Ep_ite (fun _ => z0 _) (fun c => absurd rfl c)
  have j227 : ∀ T1, Ep (fJ_X8_lineRead_J227 T1) (fk1 S) := fun T1 => by unfold fJ_X8_lineRead_J227 fJ_X8_lineRead_J228; exact Ep_ite (fun _ => z0 _) (fun c => absurd rfl c)
  have j187 : ∀ T1, fk S T1 → Ep (fJ_X8_lineRead_J187 1 T1) (fk1 S) := fun T1 h1 => by
    unfold fJ_X8_lineRead_J187
    exact Ep_ite (fun c => absurd c (by decide)) (fun _ => Ep_lt (fun T2 e2 => fk_343 (T := T2) (fun _ => by rw [e2]; exact fk_s h1 (by omega))))
  have j228 : ∀ T1, fk S T1 → Ep (fJ_X8_lineRead_J228 1 T1) (fk1 S) := fun T1 h1 => by
    unfold fJ_X8_lineRead_J228
    exact Ep_ite (fun c => absurd c (by decide)) (fun _ => Ep_lt (fun T2 e2 => fk_343 (T := T2) (fun _ => by rw [e2]; exact fk_s h1 (by omega))))
  unfold f_X8_lineRead fJ_X8_lineRead_J17 fJ_X8_lineRead_J136 fJ_X8_lineRead_J276
  refine Ep_ite (fun _ => Ep_ite (fun _ => Ep_lt (fun y8 _ => Ep_ite (fun _ => fk_343b (fk_place h)) (fun _ => Ep_ite (fun _ => fk_343b (fk_person h)) (fun _ => Ep_ite (fun _ => fk_343b (fk_piece h)) (fun _ => Ep_ite (fun _ => fk_343b (fk_wait h)) (fun _ => Ep_ite (fun _ => ?_) (fun _ => Ep_ite (fun _ => ?_) (fun _ => Ep_ite (fun _ => ?_) (fun _ => ?_))))))))) (fun _ => no _ _)) (fun _ => no _ _)
  · refine once 0 (fun S_44 => some (0, S_44)) (fun S_44 => if (S_44 0 8) = 1 then (if (S_44 0 9) < 13 then (bd (f_X8_wrong S_44 (1 : Int32)) fun q => lt q.1 fun r49 => lt q.2 fun S_50 => ck (okB r49) (some (r49, S_50))) else (if (S_44 0 9) ≤ 15 then (lt (st S_44 23 3 ((S_44 0 9) - 13)) fun S_56 => bd (f_X8_token S_56) fun S_57 => fJ_X8_lineRead_J343 1 S_57) else (bd (f_X8_wrong S_44 (1 : Int32)) fun q => lt q.1 fun r49 => lt q.2 fun S_50 => ck (okB r49) (some (r49, S_50))))) else (bd (f_X8_wrong S_44 (1 : Int32)) fun q => lt q.1 fun r49 => lt q.2 fun S_50 => ck (okB r49) (some (r49, S_50)))) (fun T1 => fk_0) (fun T1 h1 => ?_)
    exact Ep_ite (fun _ => Ep_ite (fun _ => no _ _) (fun _ => Ep_ite (fun _ => Ep_lt (fun T2 e2 => Ep_bd (fk_tok (S := S) (T := T2) (by rw [e2]; exact fk_s h1 (by omega))) (fun T3 h3 => fk_343 (fun _ => h3)))) (fun _ => no _ _))) (fun _ => no _ _)
  · refine once 1 (fun S_62 => fJ_X8_lineRead_J186 S_62) (fun S_62 => bd (f_X8_number S_62 (0 : Int32) (99 : Int32)) fun q => lt q.1 fun r68 => lt q.2 fun S_69 => if r68 = 0 then (fJ_X8_lineRead_J186 S_69) else (fJ_X8_lineRead_J187 1 S_69)) j186 (fun T1 h1 => ?_)
    exact num T1 0 99 (fun S_69 => fJ_X8_lineRead_J186 S_69) (fun S_69 => fJ_X8_lineRead_J187 1 S_69) h1 j186 j187
  · refine once 2 (fun S_62 => fJ_X8_lineRead_J227 S_62) (fun S_62 => bd (f_X8_number S_62 (0 : Int32) (99999 : Int32)) fun q => lt q.1 fun r68 => lt q.2 fun S_69 => if r68 = 0 then (fJ_X8_lineRead_J227 S_69) else (fJ_X8_lineRead_J228 1 S_69)) j227 (fun T1 h1 => ?_)
    exact num T1 0 99999 (fun S_69 => fJ_X8_lineRead_J227 S_69) (fun S_69 => fJ_X8_lineRead_J228 1 S_69) h1 j227 j228
  · refine Ep_bd (fk_tok h) (fun T2 h2 => Ep_ite (fun _ => Ep_ite (fun _ => no _ _) (fun _ => Ep_ite (fun _ => Ep_lt (fun y _ => Ep_ck (Ep_ite (fun _ => Ep_lt (fun T3 e3 => Ep_bd (fk_tok (S := S) (T := T3) (by rw [e3]; exact fk_s h2 (by omega))) (fun T4 h4 => Ep_lt (fun T5 e5 => Ep_bd (fk_sum (S := S) (T := T5) (by rw [e5]; exact fk_s h4 (by omega))) (fun q hq => ?_))))) (fun _ => no _ _)))) (fun _ => no _ _))) (fun _ => no _ _))
    exact Ep_lt (fun r105 e105 => Ep_lt (fun T6 e6 => Ep_lt (fun T7 e7 => fk_343 (fun c => by
      have e105 : r105 = q.1 := e105
      have e6 : T6 = q.2 := e6
      rw [e7, e6]
      exact fk_s (hq (by rw [← e105]; exact c)) (by omega)))))
