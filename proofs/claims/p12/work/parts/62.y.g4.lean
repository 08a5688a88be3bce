/-! signs that join; a bracket closes -/
def isJ (c : Int) : Prop := c = 19 ∨ c = 20 ∨ (29 ≤ c ∧ c ≤ 38)
theorem c_join {y : Int32} : (isJ y.toInt → f_X3_isJoining y = some 1) ∧ (¬ isJ y.toInt → f_X3_isJoining y = some 0) := by
  unfold f_X3_isJoining isJ
  by_cases c1 : y = 19
  · rw [if_pos c1]; exact ⟨fun _ => rfl, fun h => absurd (Or.inl (by rw [c1]; decide)) h⟩
  · have k1 := i_isn (k := 19) (by decide) c1
    rw [if_neg c1]
    by_cases c2 : y = 20
    · rw [if_pos c2]; exact ⟨fun _ => rfl, fun h => absurd (Or.inr (Or.inl (by rw [c2]; decide))) h⟩
    · have k2 := i_isn (k := 20) (by decide) c2
      rw [if_neg c2]
      by_cases c3 : y < 29
      · have k3 := tq_lt (b := 29) rfl (by decide) c3
        rw [if_pos c3]; exact ⟨fun h => by omega, fun _ => rfl⟩
      · have k3 := tq_ltn (b := 29) rfl (by decide) c3
        rw [if_neg c3]
        by_cases c4 : 38 < y
        · have k4 := tq_lt (a := 38) (by decide) rfl c4
          rw [if_pos c4]; exact ⟨fun h => by omega, fun _ => rfl⟩
        · have k4 := tq_ltn (a := 38) (by decide) rfl c4
          rw [if_neg c4]; exact ⟨fun _ => rfl, fun h => by omega⟩
theorem r_sign {T : Tr} {c : Int} (h : kI c (T 0 8).toInt (T 0 9).toInt) : ∃ v : Int32, fJ_X8_signs_J47 T = fJ_X8_signs_J147 v T ∧ ((isJ c ∧ sg2 c v.toInt ∧ 3 ≤ v.toInt ∧ v.toInt ≤ 14) ∨ (¬ isJ c ∧ v = 0)) := by
  unfold fJ_X8_signs_J47
  have n0 : (if (0 : Int32) = 0 then True else False) = True := by simp
  by_cases a : (T 0 8).toInt = 1 ∧ (T 0 9).toInt = 19
  · rw [is_ky.1 ⟨a.1, by rw [a.2]; decide⟩]
    refine ⟨3, rfl, Or.inl ?_⟩
    have e : (3 : Int32).toInt = 3 := by decide
    rw [e]; unfold kI at h; unfold isJ sg2; omega
  · rw [is_ky.2 (fun q => a ⟨q.1, by rw [q.2]; decide⟩)]
    show ∃ v, (bd (f_X8_isKey T (20 : Int32)) fun r9 => if r9 = 0 then _ else (fJ_X8_signs_J147 4 T)) = _ ∧ _
    by_cases b : (T 0 8).toInt = 1 ∧ (T 0 9).toInt = 20
    · rw [is_ky.1 ⟨b.1, by rw [b.2]; decide⟩]
      refine ⟨4, rfl, Or.inl ?_⟩
      have e : (4 : Int32).toInt = 4 := by decide
      rw [e]; unfold kI at h; unfold isJ sg2; omega
    · rw [is_ky.2 (fun q => b ⟨q.1, by rw [q.2]; decide⟩)]
      show ∃ v, (if (T 0 8) = 5 then (fJ_X8_signs_J147 ((5 : Int32) + (T 0 9)) T) else _) = _ ∧ _
      by_cases d : (T 0 8).toInt = 5
      · rw [if_pos (i_z (by rw [d]; decide))]
        refine ⟨(5 : Int32) + T 0 9, rfl, Or.inl ?_⟩
        have e : ((5 : Int32) + T 0 9).toInt = 5 + (T 0 9).toInt := i_addK (by decide) rfl (by unfold kI at h; omega) (by unfold kI at h; omega)
        rw [e]; unfold kI at h; unfold isJ sg2; omega
      · rw [if_neg (fun q => d (by rw [q]; decide))]
        by_cases e1 : (T 0 8).toInt = 4 ∧ (T 0 9).toInt = 43
        · rw [is_sg.1 ⟨e1.1, by rw [e1.2]; decide⟩]
          refine ⟨11, rfl, Or.inl ?_⟩
          have e : (11 : Int32).toInt = 11 := by decide
          rw [e]; unfold kI at h; unfold isJ sg2; omega
        · rw [is_sg.2 (fun q => e1 ⟨q.1, by rw [q.2]; decide⟩)]
          show ∃ v, (bd (f_X8_isSign T (45 : Int32)) fun r18 => if r18 = 0 then _ else (fJ_X8_signs_J147 12 T)) = _ ∧ _
          by_cases e2 : (T 0 8).toInt = 4 ∧ (T 0 9).toInt = 45
          · rw [is_sg.1 ⟨e2.1, by rw [e2.2]; decide⟩]
            refine ⟨12, rfl, Or.inl ?_⟩
            have e : (12 : Int32).toInt = 12 := by decide
            rw [e]; unfold kI at h; unfold isJ sg2; omega
          · rw [is_sg.2 (fun q => e2 ⟨q.1, by rw [q.2]; decide⟩)]
            show ∃ v, (bd (f_X8_isSign T (42 : Int32)) fun r22 => if r22 = 0 then _ else (fJ_X8_signs_J147 13 T)) = _ ∧ _
            by_cases e3 : (T 0 8).toInt = 4 ∧ (T 0 9).toInt = 42
            · rw [is_sg.1 ⟨e3.1, by rw [e3.2]; decide⟩]
              refine ⟨13, rfl, Or.inl ?_⟩
              have e : (13 : Int32).toInt = 13 := by decide
              rw [e]; unfold kI at h; unfold isJ sg2; omega
            · rw [is_sg.2 (fun q => e3 ⟨q.1, by rw [q.2]; decide⟩)]
              show ∃ v, (bd (f_X8_isSign T (47 : Int32)) fun r26 => if r26 = 0 then (fJ_X8_signs_J147 0 T) else (fJ_X8_signs_J147 14 T)) = _ ∧ _
              by_cases e4 : (T 0 8).toInt = 4 ∧ (T 0 9).toInt = 47
              · rw [is_sg.1 ⟨e4.1, by rw [e4.2]; decide⟩]
                refine ⟨14, rfl, Or.inl ?_⟩
                have e : (14 : Int32).toInt = 14 := by decide
                rw [e]; unfold kI at h; unfold isJ sg2; omega
              · rw [is_sg.2 (fun q => e4 ⟨q.1, by rw [q.2]; decide⟩)]
                exact ⟨0, rfl, Or.inr ⟨by unfold kI at h; unfold isJ; omega, rfl⟩⟩
theorem rk_v {v : Int} (h1 : 3 ≤ v) (h2 : v ≤ 14) : 1 ≤ rkI v ∧ rkI v ≤ 6 ∧ ¬ rkI v = 3 := by
  have : v = 3 ∨ v = 4 ∨ v = 5 ∨ v = 6 ∨ v = 7 ∨ v = 8 ∨ v = 9 ∨ v = 10 ∨ v = 11 ∨ v = 12 ∨ v = 13 ∨ v = 14 := by omega
  rcases this with rfl | rfl | rfl | rfl | rfl | rfl | rfl | rfl | rfl | rfl | rfl | rfl <;> decide
theorem E2_bw {α β γ δ : Type} {Q : α → β → Prop} {x : Option γ} {y : Option δ} {k : γ → Option α} {k' : δ → Option β} {R : γ → δ → Prop} (h1 : E2 x y R) (h : ∀ a b, R a b → E2 (k a) (k' b) Q) : E2 (bd x k) (bd y k') Q := E2_bd h1 h
/-- the sign itself, once those ahead of it are closed -/
theorem e_join {j f n s : Nat} {K R P T R0 P0 T0 : Tr} {v : Int32} (hj : j < 3) (kt : tkS K T) (G : qC j f 1 0 n s R P T) (r01 : R 0 1 = 0) (h45 : ¬ (K 0 1).toInt = 45) (hv : sg2 (K 0 1).toInt v.toInt ∧ 3 ≤ v.toInt ∧ v.toInt ≤ 14) (hF : qF j f R0 P0 T0 R P T) : E2 (fJ_X3_readJoining_J57 j K 1 R P) (fJ_X8_signs_J217 v T) (opQ j f 1 K R0 P0 T0) := by
  have G0 := G
  obtain ⟨⟨⟨s1, s2, s3, s4⟩, s5, s6, s7⟩, ⟨n1, n2, n3⟩, ⟨h1, h2⟩, l1, c1, c2, c3⟩ := G
  unfold fJ_X3_readJoining_J57 fJ_X8_signs_J217
  rw [ex1]
  refine E2_p2l (E2_ql (by decide) ?_)
  by_cases cc : (T 0 46).toInt = 64
  · rw [(cn_no (K := K) (R := R) c1 cc).1, (cn_no (K := K) (R := R) c1 cc).2]
    exact E2_sl (E2_v3l (E2_pl rfl (E2_p2r (E2_pr rfl (op_fail kt.2.2.2.1 (by decide))))))
  · have cc : (T 0 46).toInt < 64 := by omega
    rw [(cn_yes (K := K) (R := R) c1 cc).1, (cn_yes (K := K) (R := R) c1 cc).2]
    refine E2_sl (E2_v3l (E2_ql (by decide) (E2_p2r (E2_qr (by decide) ?_))))
    have hn : n < 72 := by omega
    have i46 : (T 0 46 + 1).toInt = (T 0 46).toInt + 1 := i_addK rfl (by decide) (by omega) (by omega)
    have o := os_n (R := R) (x := K 0 1) (n := n) s1 hn
    have w := wf_n (T := st T 0 46 (T 0 46 + 1)) (k := v) (n := n) (by rw [st_no (by omega)]; exact s2) (by omega)
    obtain ⟨r, er, hr⟩ := e_rank v
    rw [o, w]
    refine E2_p2l (E2_ql (by decide) (E2_sr (E2_ltr (fun T2 f2 => ?_))))
    rw [er]
    refine E2_sr ?_
    have rk := rk_v hv.2.1 hv.2.2
    obtain ⟨R3, g3⟩ : ∃ R3, R3 = st (st R 8 n (K 0 1)) 0 8 (R 0 8 + 1) := ⟨_, rfl⟩
    rw [← g3]
    have R3f : ∀ a i, ¬ ((a = 0 ∧ i = 8) ∨ (a = 8 ∧ i = n)) → R3 a i = R a i := fun a i hn => by rw [g3, st_no (by omega), st_no (by omega)]
    have T2f : ∀ a i, ¬ ((a = 0 ∧ (i = 46 ∨ i = 43 ∨ i = 47)) ∨ (a = 42 ∧ i = n)) → T2 a i = T a i := fun a i hn => by rw [f2, st_no (by omega), st_no (by omega), st_no (by omega), st_no (by omega)]
    have t46 : T2 0 46 = T 0 46 + 1 := by rw [f2, st_no (by omega), st_no (by omega), st_no (by omega), st_same]
    have t43 : (T2 0 43).toInt = n + 1 := by
      rw [f2, st_no (by omega), st_same, st_no (by omega)]
      exact i_addK s2 (by decide) (by omega) (by omega)
    have t42n : T2 42 n = v := by rw [f2, st_no (by omega), st_no (by omega), st_same]
    have t47 : T2 0 47 = 1 := by rw [f2, st_same]
    have r8 : (R3 0 8).toInt = n + 1 := by
      rw [g3, st_same]
      exact i_addK s1 (by decide) (by omega) (by omega)
    have fin : ∀ u : Int32, (u = 0 ↔ 3 ≤ rkI v.toInt) → E2 (some ((1 : Int32), R3, st P 0 3 (P 0 3 + 1))) (fJ_X8_signs_J250 u T2) (opQ j f 1 K R0 P0 T0) := by
      intro u hu
      unfold fJ_X8_signs_J250
      refine E2_ckr (fun _ => E2_ltr (fun T3 f3 => ?_))
      have T3f : ∀ a i, ¬ ((a = 0 ∧ (i = 46 ∨ i = 43 ∨ i = 47 ∨ i = 48)) ∨ (a = 42 ∧ i = n)) → T3 a i = T a i := fun a i hn => by rw [f3, st_no (by omega), T2f a i (by omega)]
      have t42o : ∀ i, i < n → T3 42 i = T 42 i := fun i hi => T3f 42 i (by omega)
      have u42n : T3 42 n = v := by rw [f3, st_no (by omega), t42n]
      have u46 : T3 0 46 = T 0 46 + 1 := by rw [f3, st_no (by omega), t46]
      have zz : zc (T3 42) (n + 1) = zc (T 42) n := by rw [zc_s (by rw [u42n]; omega), zc_cg t42o]
      have bb : b2 (T3 42) (n + 1) = b2 (T 42) n + 1 := by rw [b2_z (by rw [u42n]; omega), b2_cg t42o]
      have k3 : tkS K T3 := tkS_T kt (fun i h1 h2 => T3f 0 i (by omega)) (funext fun i => T3f 1 i (by omega)) (funext fun i => T3f 4 i (by omega))
      refine op_good h45 ⟨k3, ⟨0, n + 1, s, Or.inr ⟨rfl, rfl⟩, qC_push (k := v) (c := K 0 1) (d' := 0) (e' := 0) G0 hn hv.1 r8 (by rw [g3, st_no (by omega), st_same]) (fun i hi => R3f 8 i (by omega)) (by rw [f3, st_no (by omega)]; exact t43) u42n t42o ?_ ?_ (fun a i g => st_no (by omega)) hj (fun a i g => T3f a i (by omega)) (by rw [bb]) (by rw [st_same, u46, c1]) (by rw [u46, i46]; omega) (by rw [u46, i46, T3f 0 45 (by omega)]; omega), fun _ => ?_⟩, ?_, ?_⟩ (qF_t hF ⟨fun a i g => R3f a i (by omega), fun a i g => st_no (by omega), fun a i g => T3f a i (by omega)⟩)
      · rw [R3f 0 9 (by omega), T3f 0 45 (by omega)]; exact s5
      · rw [T3f 0 45 (by omega), zz]; omega
      · rw [f3, st_same, hu]
        constructor
        · intro g
          refine ⟨n, rfl, ?_⟩
          rw [st_no (by omega), t42n]; omega
        · rintro ⟨m, g1, g2⟩
          have : m = n := by omega
          rw [this, st_no (by omega), t42n] at g2
          omega
      · rw [f3, st_no (by omega)]; exact t47
      · rw [R3f 0 1 (by omega)]; exact r01
    by_cases c3 : 3 ≤ rkI v.toInt
    · exact E2_pr (Int32.le_iff_toInt_le.mpr (by rw [hr]; exact c3)) (fin 0 ⟨fun _ => c3, fun _ => rfl⟩)
    · exact E2_qr (fun q => c3 (by have := tq_le (a := 3) (by decide) hr q; exact this)) (fin 1 ⟨fun q => absurd q (by decide), fun q => absurd q c3⟩)
theorem e_closeF {j f e d n s : Nat} {x2 : Int32} {R P T : Tr} (hj : j < 3) (hx : 1 ≤ x2.toInt) (G : qC j f e d n s R P T) : E2 (f_X3_closeSigns j R P x2) (f_X8_bind T x2) (fun q T1 => clQ j f e d n s x2 R P T q.1 q.2 T1) := e_close hj hx 2000 e d n s R P T G
theorem cl_F {j f e d n s : Nat} {x : Int32} {R P T R1 P1 T1 : Tr} (h : clQ j f e d n s x R P T R1 P1 T1) : qF j f R P T R1 P1 T1 := by
  obtain ⟨n1, s1, v1, v2, v3, v4, v5, v6, v7, v8⟩ := h
  exact ⟨fun a i g => v6 a i (by omega), fun a i g => v7 a i (by omega), fun a i g => v8 a i (by omega)⟩
theorem cl_tk {j f e d n s : Nat} {x : Int32} {K R P T R1 P1 T1 : Tr} (h : clQ j f e d n s x R P T R1 P1 T1) (k : tkS K T) : tkS K T1 := by
  obtain ⟨n1, s1, v1, v2, v3, v4, v5, v6, v7, v8⟩ := h
  exact tkS_T k (fun i h1 h2 => v8 0 i (by omega)) (funext fun i => v8 1 i (by omega)) (funext fun i => v8 4 i (by omega))
/-- a joining sign -/
theorem e_joins {j f : Nat} {K R P T : Tr} (hj : j < 3) (F : fmS j f 0 K R P T) (hJ : isJ (K 0 1).toInt) : E2 (f_X3_readJoining j K R P) (f_X8_signs T) (opQ j f 1 K R P T) := by
  obtain ⟨kt, ⟨e, n, s, he, G, M⟩, w47, r01⟩ := F
  have he0 : e = 1 := by
    rcases he with ⟨_, g⟩ | ⟨g, _⟩
    · exact g
    · exact absurd g (by decide)
  subst he0
  have kk := kt.2.2.2.2.1
  have h45 : ¬ (K 0 1).toInt = 45 := by unfold isJ at hJ; omega
  unfold f_X3_readJoining f_X8_signs
  rw [is_sg.2 (fun q => by
    have q2 := q.2
    have : (41 : Int32).toInt = 41 := by decide
    rw [this] at q2
    unfold kI at kk; unfold isJ at hJ; omega)]
  obtain ⟨v, ev, hv⟩ := r_sign kk
  rw [ev]
  have hv : sg2 (K 0 1).toInt v.toInt ∧ 3 ≤ v.toInt ∧ v.toInt ≤ 14 := by
    rcases hv with ⟨_, g⟩ | ⟨g, _⟩
    · exact g
    · exact absurd hJ g
  have hb := b_rank hv.1
  have rk := rk_v hv.2.1 hv.2.2
  obtain ⟨r, er, hr⟩ := e_rank v
  have e4 : bindsF (K 0 1).toNatClampNeg = r := i_z (by rw [hb, hr])
  rw [e4]
  refine E2_ckl (fun _ => E2_ltl (fun y ey => E2_sr (E2_pr rfl ?_)))
  unfold fJ_X8_signs_J147
  refine E2_qr (fun q => by rw [q] at hv; exact absurd hv.2.1 (by decide)) ?_
  rw [er]
  refine E2_sr ?_
  rw [ey]
  unfold fJ_X3_readJoining_J22 fJ_X3_readJoining_J36 fJ_X8_signs_J175
  by_cases c4 : rkI v.toInt = 4
  · have r4 : r = 4 := i_z (by rw [hr, c4]; decide)
    rw [if_pos r4, if_pos r4]
    refine E2_ql (by decide) ?_
    rw [r4, show (4 : Int32) + 1 = 5 from by decide]
    refine E2_bd (e_closeF (x2 := 5) hj (by decide) G) (fun q T1 hq => ?_)
    obtain ⟨R1, P1⟩ := q
    have hq : clQ j f 1 0 n s 5 R P T R1 P1 T1 := hq
    refine E2_v2l ?_
    rw [er]
    refine E2_ql (by decide) (E2_sr (E2_pr r4 ?_))
    have k1 := cl_tk hq kt
    have F1 := cl_F hq
    obtain ⟨n1, s1, v1, v2, v3, v4, v5, v6, v7, v8⟩ := hq
    have lb := lb_n v1.1
    have r01' : R1 0 1 = 0 := by rw [v6 0 1 (by omega)]; exact r01
    have jn := e_join hj k1 v1 r01' h45 hv F1
    unfold fJ_X3_readJoining_J52
    rcases n1 with _ | m
    · rw [lb.1 rfl]
      refine E2_sl (E2_ql (by decide) (E2_pr (Int32.le_iff_toInt_le.mpr (by rw [v1.1.1.2.1]; decide)) jn))
    · obtain ⟨r2, er2, hr2⟩ := lb.2 m rfl
      have t43 : (T1 0 43 - 1).toInt = m := by rw [i_subK v1.1.1.2.1 (y := 1) (by decide) (by omega) (by have := v1.1.1.2.2.1; omega)]; omega
      obtain ⟨r3, er3, hr3⟩ := e_rank (T1 42 m)
      have e23 : r2 = r3 := i_z (by rw [hr2, hr3])
      rw [er2, i_cn t43, er3]
      refine E2_sl (E2_qr (fun q => by have := tq_le (b := 0) v1.1.1.2.1 (by decide) q; omega) (E2_ckr (fun _ => E2_sr ?_)))
      rw [e23]
      have top : rkI (T1 42 m).toInt < 5 := by
        rcases v4 with g | ⟨m', g1, g2⟩
        · omega
        · have : m' = m := by omega
          rw [this, ← v8 42 m (by omega)] at g2
          exact g2
      by_cases cz : rkI (T1 42 m).toInt = 4
      · have z3 : r3 = 4 := i_z (by rw [hr3, cz]; decide)
        refine E2_pl (by rw [z3]; decide) (E2_pr z3 ?_)
        unfold fJ_X3_readJoining_J57
        rw [ex0, wrE]
        exact E2_p2l (E2_pl rfl (op_fail k1.2.2.2.1 (by decide)))
      · refine E2_ql (fun q => ?_) (E2_qr (fun q => cz (by rw [← hr3, q]; decide)) jn)
        have := tq_le (a := 4) (by decide) hr3 q
        omega
  · have r4 : ¬ r = 4 := fun q => c4 (by rw [← hr, q]; decide)
    rw [if_neg r4, if_neg r4]
    refine E2_pl rfl (E2_sr ?_)
    refine E2_bd (e_closeF (x2 := r) hj (by omega) G) (fun q T1 hq => ?_)
    obtain ⟨R1, P1⟩ := q
    have hq : clQ j f 1 0 n s r R P T R1 P1 T1 := hq
    refine E2_v2l ?_
    rw [er]
    refine E2_pl rfl (E2_sr (E2_qr r4 ?_))
    have k1 := cl_tk hq kt
    have F1 := cl_F hq
    obtain ⟨n1, s1, v1, v2, v3, v4, v5, v6, v7, v8⟩ := hq
    unfold fJ_X3_readJoining_J52
    exact e_join hj k1 v1 (by rw [v6 0 1 (by omega)]; exact r01) h45 hv F1
