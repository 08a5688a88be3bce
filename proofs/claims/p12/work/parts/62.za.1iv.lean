/-! the class: where no fault is told there is no place of one -/
theorem iv_st {R : Tr} {a i : Nat} {v : Int32} (h : R 0 1 = 0 → R 0 2 = -1) (hn : ¬ (a = 0 ∧ (i = 1 ∨ i = 2))) : st R a i v 0 1 = 0 → st R a i v 0 2 = -1 := by
  rw [st_no (by omega), st_no (by omega)]; exact h
theorem iv_expect (K R : Tr) (x1 x2 : Int32) (h : R 0 1 = 0 → R 0 2 = -1) (hx : ¬ x2 = 0) : Ep (f_X3_expect K R x1 x2) (fun q => q.2 0 1 = 0 → q.2 0 2 = -1) := by
  unfold f_X3_expect
  refine Ep_ite (fun _ => Ep_lt (fun R1 e1 => Ep_lt (fun R2 e2 => Ep_ck (Ep_some (fun e => ?_))))) (fun _ => Ep_ck (Ep_some h))
  have e : R2 0 1 = 0 := e
  rw [e2, st_ne (by decide), e1, st_same] at e
  exact absurd e hx
set_option maxHeartbeats 1000000 in
set_option maxRecDepth 100000 in
theorem ivJ_X3_readText_J123 (K : Tr) (R : Tr) (P : Tr) (hR : (R 0 1 = 0 → R 0 2 = -1))   : Ep (fJ_X3_readText_J123 K R P) (fun q => (q.2.2.1 0 1 = 0 → q.2.2.1 0 2 = -1)) := by
  unfold fJ_X3_readText_J123
  refine Ep_ite (fun _ => ?_) (fun _ => ?_)
  · exact Ep_some hR
  · exact Ep_some hR
set_option maxHeartbeats 1000000 in
set_option maxRecDepth 100000 in
theorem ivJ_X3_takeWord_J24 (x1 : Int32) (x3 : Int32) (s0 : Int32) (K : Tr) (R : Tr) (hR : (R 0 1 = 0 → R 0 2 = -1))   : Ep (fJ_X3_takeWord_J24 x1 x3 s0 K R) (fun q => (q.2.2 0 1 = 0 → q.2.2 0 2 = -1)) := by
  unfold fJ_X3_takeWord_J24
  refine Ep_bd (iv_expect K R s0 (1 : Int32) hR (by decide)) (fun q hq => ?_)
  refine Ep_lt (fun r3 er3 => ?_)
  refine Ep_lt (fun R_4 eR_4 => ?_)
  have hR_4 : (R_4 0 1 = 0 → R_4 0 2 = -1) := by rw [eR_4]; exact hq
  refine Ep_ite (fun _ => ?_) (fun _ => ?_)
  · exact Ep_some hR_4
  · refine Ep_any (fun K_8 => ?_)
    exact Ep_some hR_4
set_option maxHeartbeats 1000000 in
set_option maxRecDepth 100000 in
theorem ivJ_X3_takeWord_J23 (x1 : Int32) (x3 : Int32) (K : Tr) (R : Tr) (hR : (R 0 1 = 0 → R 0 2 = -1))   : Ep (fJ_X3_takeWord_J23 x1 x3 K R) (fun q => (q.2.2 0 1 = 0 → q.2.2 0 2 = -1)) := by
  unfold fJ_X3_takeWord_J23
  exact ivJ_X3_takeWord_J24 x1 x3 0 K R hR
set_option maxHeartbeats 1000000 in
set_option maxRecDepth 100000 in
theorem iv_X3_takeWord (K : Tr) (R : Tr) (x1 : Int32) (x2 : Int32) (hR : (R 0 1 = 0 → R 0 2 = -1))   : Ep (f_X3_takeWord K R x1 x2) (fun q => (q.2.2 0 1 = 0 → q.2.2 0 2 = -1)) := by
  unfold f_X3_takeWord
  refine Ep_lt (fun y1 ey1 => ?_)
  refine Ep_ite (fun _ => ?_) (fun _ => ?_)
  · exact ivJ_X3_takeWord_J23 x1 y1 K R hR
  · refine Ep_ite (fun _ => ?_) (fun _ => ?_)
    · exact ivJ_X3_takeWord_J23 x1 y1 K R hR
    · exact ivJ_X3_takeWord_J24 x1 y1 1 K R hR
set_option maxHeartbeats 1000000 in
set_option maxRecDepth 100000 in
theorem ivJ_X3_takeNumber_J49 (x3 : Int32) (s0 : Int32) (K : Tr) (R : Tr) (hR : (R 0 1 = 0 → R 0 2 = -1))   : Ep (fJ_X3_takeNumber_J49 x3 s0 K R) (fun q => (q.2.2 0 1 = 0 → q.2.2 0 2 = -1)) := by
  unfold fJ_X3_takeNumber_J49
  refine Ep_bd (iv_expect K R s0 (2 : Int32) hR (by decide)) (fun q hq => ?_)
  refine Ep_lt (fun r9 er9 => ?_)
  refine Ep_lt (fun R_10 eR_10 => ?_)
  have hR_10 : (R_10 0 1 = 0 → R_10 0 2 = -1) := by rw [eR_10]; exact hq
  refine Ep_ite (fun _ => ?_) (fun _ => ?_)
  · exact Ep_some hR_10
  · refine Ep_any (fun K_14 => ?_)
    exact Ep_some hR_10
set_option maxHeartbeats 1000000 in
set_option maxRecDepth 100000 in
theorem ivJ_X3_takeNumber_J48 (x3 : Int32) (K : Tr) (R : Tr) (hR : (R 0 1 = 0 → R 0 2 = -1))   : Ep (fJ_X3_takeNumber_J48 x3 K R) (fun q => (q.2.2 0 1 = 0 → q.2.2 0 2 = -1)) := by
  unfold fJ_X3_takeNumber_J48
  exact ivJ_X3_takeNumber_J49 x3 0 K R hR
set_option maxHeartbeats 1000000 in
set_option maxRecDepth 100000 in
theorem ivJ_X3_takeNumber_J26 (x1 : Int32) (x2 : Int32) (x3 : Int32) (s0 : Int32) (K : Tr) (R : Tr) (hR : (R 0 1 = 0 → R 0 2 = -1))   : Ep (fJ_X3_takeNumber_J26 x1 x2 x3 s0 K R) (fun q => (q.2.2 0 1 = 0 → q.2.2 0 2 = -1)) := by
  unfold fJ_X3_takeNumber_J26
  refine Ep_bd (iv_expect K R s0 (1 : Int32) hR (by decide)) (fun q hq => ?_)
  refine Ep_lt (fun r3 er3 => ?_)
  refine Ep_lt (fun R_4 eR_4 => ?_)
  have hR_4 : (R_4 0 1 = 0 → R_4 0 2 = -1) := by rw [eR_4]; exact hq
  refine Ep_ite (fun _ => ?_) (fun _ => ?_)
  · exact Ep_some hR_4
  · refine Ep_ite (fun _ => ?_) (fun _ => ?_)
    · exact ivJ_X3_takeNumber_J48 x3 K R_4 hR_4
    · refine Ep_ite (fun _ => ?_) (fun _ => ?_)
      · exact ivJ_X3_takeNumber_J48 x3 K R_4 hR_4
      · exact ivJ_X3_takeNumber_J49 x3 1 K R_4 hR_4
set_option maxHeartbeats 1000000 in
set_option maxRecDepth 100000 in
theorem iv_X3_takeNumber (K : Tr) (R : Tr) (x1 : Int32) (x2 : Int32) (hR : (R 0 1 = 0 → R 0 2 = -1))   : Ep (f_X3_takeNumber K R x1 x2) (fun q => (q.2.2 0 1 = 0 → q.2.2 0 2 = -1)) := by
  unfold f_X3_takeNumber
  refine Ep_lt (fun y1 ey1 => ?_)
  refine Ep_ite (fun _ => ?_) (fun _ => ?_)
  · exact ivJ_X3_takeNumber_J26 x1 x2 y1 1 K R hR
  · exact ivJ_X3_takeNumber_J26 x1 x2 y1 0 K R hR
set_option maxHeartbeats 1000000 in
set_option maxRecDepth 100000 in
theorem ivJ_X3_readPlace_J60 (x1 : Int32) (x2 : Int32) (s0 : Int32) (K : Tr) (R : Tr) (P : Tr) (hR : (R 0 1 = 0 → R 0 2 = -1))   : Ep (fJ_X3_readPlace_J60 x1 x2 s0 K R P) (fun q => (q.2.2.1 0 1 = 0 → q.2.2.1 0 2 = -1)) := by
  unfold fJ_X3_readPlace_J60
  refine Ep_ite (fun _ => ?_) (fun _ => ?_)
  · refine Ep_ck ?_
    refine Ep_lt (fun P_24 eP_24 => ?_)
    refine Ep_lt (fun P_25 eP_25 => ?_)
    refine Ep_lt (fun P_26 eP_26 => ?_)
    exact Ep_some hR
  · exact Ep_some hR
set_option maxHeartbeats 1000000 in
set_option maxRecDepth 100000 in
theorem ivJ_X3_readPlace_J19 (x1 : Int32) (s0 : Int32) (K : Tr) (R : Tr) (P : Tr) (hR : (R 0 1 = 0 → R 0 2 = -1))   : Ep (fJ_X3_readPlace_J19 x1 s0 K R P) (fun q => (q.2.2.1 0 1 = 0 → q.2.2.1 0 2 = -1)) := by
  unfold fJ_X3_readPlace_J19
  refine Ep_bd (iv_expect K R s0 (2 : Int32) hR (by decide)) (fun q hq => ?_)
  refine Ep_lt (fun r3 er3 => ?_)
  refine Ep_lt (fun R_4 eR_4 => ?_)
  have hR_4 : (R_4 0 1 = 0 → R_4 0 2 = -1) := by rw [eR_4]; exact hq
  refine Ep_ite (fun _ => ?_) (fun _ => ?_)
  · exact Ep_some hR_4
  · refine Ep_any (fun K_8 => ?_)
    refine Ep_bd (iv_X3_takeWord K_8 R_4 (8 : Int32) (12 : Int32) hR_4) (fun q hq => ?_)
    refine Ep_lt (fun r11 er11 => ?_)
    refine Ep_lt (fun K_12 eK_12 => ?_)
    refine Ep_lt (fun R_13 eR_13 => ?_)
    have hR_13 : (R_13 0 1 = 0 → R_13 0 2 = -1) := by rw [eR_13]; exact hq
    refine Ep_ite (fun _ => ?_) (fun _ => ?_)
    · refine Ep_bd (iv_X3_takeNumber K_12 R_13 (0 : Int32) (999 : Int32) hR_13) (fun q hq => ?_)
      refine Ep_lt (fun r17 er17 => ?_)
      refine Ep_lt (fun K_18 eK_18 => ?_)
      refine Ep_lt (fun R_19 eR_19 => ?_)
      have hR_19 : (R_19 0 1 = 0 → R_19 0 2 = -1) := by rw [eR_19]; exact hq
      exact ivJ_X3_readPlace_J60 x1 r11 r17 K_18 R_19 P hR_19
    · exact ivJ_X3_readPlace_J60 x1 r11 (-1) K_12 R_13 P hR_13
set_option maxHeartbeats 1000000 in
set_option maxRecDepth 100000 in
theorem iv_X3_readPlace (K : Tr) (R : Tr) (P : Tr) (hR : (R 0 1 = 0 → R 0 2 = -1))   : Ep (f_X3_readPlace K R P) (fun q => (q.2.2.1 0 1 = 0 → q.2.2.1 0 2 = -1)) := by
  unfold f_X3_readPlace
  refine Ep_lt (fun y1 ey1 => ?_)
  refine Ep_ite (fun _ => ?_) (fun _ => ?_)
  · exact ivJ_X3_readPlace_J19 y1 0 K R P hR
  · exact ivJ_X3_readPlace_J19 y1 1 K R P hR
set_option maxHeartbeats 1000000 in
set_option maxRecDepth 100000 in
theorem ivJ_X3_readPerson_J145 (x1 : Int32) (x2 : Int32) (x3 : Int32) (x4 : Int32) (s0 : Int32) (K : Tr) (R : Tr) (P : Tr) (hR : (R 0 1 = 0 → R 0 2 = -1))   : Ep (fJ_X3_readPerson_J145 x1 x2 x3 x4 s0 K R P) (fun q => (q.2.2.1 0 1 = 0 → q.2.2.1 0 2 = -1)) := by
  unfold fJ_X3_readPerson_J145
  refine Ep_ite (fun _ => ?_) (fun _ => ?_)
  · refine Ep_ck ?_
    refine Ep_lt (fun P_49 eP_49 => ?_)
    refine Ep_lt (fun P_50 eP_50 => ?_)
    refine Ep_lt (fun P_51 eP_51 => ?_)
    refine Ep_lt (fun P_52 eP_52 => ?_)
    refine Ep_lt (fun P_53 eP_53 => ?_)
    exact Ep_some hR
  · exact Ep_some hR
set_option maxHeartbeats 1000000 in
set_option maxRecDepth 100000 in
theorem ivJ_X3_readPerson_J127 (x1 : Int32) (x2 : Int32) (x3 : Int32) (s0 : Int32) (K : Tr) (R : Tr) (P : Tr) (hR : (R 0 1 = 0 → R 0 2 = -1))   : Ep (fJ_X3_readPerson_J127 x1 x2 x3 s0 K R P) (fun q => (q.2.2.1 0 1 = 0 → q.2.2.1 0 2 = -1)) := by
  unfold fJ_X3_readPerson_J127
  refine Ep_ite (fun _ => ?_) (fun _ => ?_)
  · refine Ep_bd (iv_X3_takeNumber K R (1 : Int32) (99 : Int32) hR) (fun q hq => ?_)
    refine Ep_lt (fun r42 er42 => ?_)
    refine Ep_lt (fun K_43 eK_43 => ?_)
    refine Ep_lt (fun R_44 eR_44 => ?_)
    have hR_44 : (R_44 0 1 = 0 → R_44 0 2 = -1) := by rw [eR_44]; exact hq
    exact ivJ_X3_readPerson_J145 x1 x2 x3 s0 r42 K_43 R_44 P hR_44
  · exact ivJ_X3_readPerson_J145 x1 x2 x3 s0 (-1) K R P hR
set_option maxHeartbeats 1000000 in
set_option maxRecDepth 100000 in
theorem ivJ_X3_readPerson_J86 (x1 : Int32) (x2 : Int32) (s0 : Int32) (K : Tr) (R : Tr) (P : Tr) (hR : (R 0 1 = 0 → R 0 2 = -1))   : Ep (fJ_X3_readPerson_J86 x1 x2 s0 K R P) (fun q => (q.2.2.1 0 1 = 0 → q.2.2.1 0 2 = -1)) := by
  unfold fJ_X3_readPerson_J86
  refine Ep_bd (iv_expect K R s0 (3 : Int32) hR (by decide)) (fun q hq => ?_)
  refine Ep_lt (fun r22 er22 => ?_)
  refine Ep_lt (fun R_23 eR_23 => ?_)
  have hR_23 : (R_23 0 1 = 0 → R_23 0 2 = -1) := by rw [eR_23]; exact hq
  refine Ep_ite (fun _ => ?_) (fun _ => ?_)
  · exact Ep_some hR_23
  · refine Ep_any (fun K_27 => ?_)
    refine Ep_bd (iv_X3_takeNumber K_27 R_23 (0 : Int32) (19 : Int32) hR_23) (fun q hq => ?_)
    refine Ep_lt (fun r30 er30 => ?_)
    refine Ep_lt (fun K_31 eK_31 => ?_)
    refine Ep_lt (fun R_32 eR_32 => ?_)
    have hR_32 : (R_32 0 1 = 0 → R_32 0 2 = -1) := by rw [eR_32]; exact hq
    refine Ep_ite (fun _ => ?_) (fun _ => ?_)
    · refine Ep_bd (iv_X3_takeNumber K_31 R_32 (r30 + 1) (20 : Int32) hR_32) (fun q hq => ?_)
      refine Ep_lt (fun r36 er36 => ?_)
      refine Ep_lt (fun K_37 eK_37 => ?_)
      refine Ep_lt (fun R_38 eR_38 => ?_)
      have hR_38 : (R_38 0 1 = 0 → R_38 0 2 = -1) := by rw [eR_38]; exact hq
      exact ivJ_X3_readPerson_J127 x1 x2 r30 r36 K_37 R_38 P hR_38
    · exact ivJ_X3_readPerson_J127 x1 x2 r30 (-1) K_31 R_32 P hR_32
set_option maxHeartbeats 1000000 in
set_option maxRecDepth 100000 in
theorem ivJ_X3_readPerson_J62 (x1 : Int32) (x2 : Int32) (s0 : Int32) (K : Tr) (R : Tr) (P : Tr) (hR : (R 0 1 = 0 → R 0 2 = -1))   : Ep (fJ_X3_readPerson_J62 x1 x2 s0 K R P) (fun q => (q.2.2.1 0 1 = 0 → q.2.2.1 0 2 = -1)) := by
  unfold fJ_X3_readPerson_J62
  refine Ep_bd (iv_expect K R s0 (1 : Int32) hR (by decide)) (fun q hq => ?_)
  refine Ep_lt (fun r13 er13 => ?_)
  refine Ep_lt (fun R_14 eR_14 => ?_)
  have hR_14 : (R_14 0 1 = 0 → R_14 0 2 = -1) := by rw [eR_14]; exact hq
  refine Ep_ite (fun _ => ?_) (fun _ => ?_)
  · exact Ep_some hR_14
  · refine Ep_any (fun r18 => ?_)
    refine Ep_ite (fun _ => ?_) (fun _ => ?_)
    · exact ivJ_X3_readPerson_J86 x1 x2 0 K R_14 P hR_14
    · exact ivJ_X3_readPerson_J86 x1 x2 1 K R_14 P hR_14
set_option maxHeartbeats 1000000 in
set_option maxRecDepth 100000 in
theorem ivJ_X3_readPerson_J20 (x1 : Int32) (s0 : Int32) (K : Tr) (R : Tr) (P : Tr) (hR : (R 0 1 = 0 → R 0 2 = -1))   : Ep (fJ_X3_readPerson_J20 x1 s0 K R P) (fun q => (q.2.2.1 0 1 = 0 → q.2.2.1 0 2 = -1)) := by
  unfold fJ_X3_readPerson_J20
  refine Ep_bd (iv_expect K R s0 (2 : Int32) hR (by decide)) (fun q hq => ?_)
  refine Ep_lt (fun r3 er3 => ?_)
  refine Ep_lt (fun R_4 eR_4 => ?_)
  have hR_4 : (R_4 0 1 = 0 → R_4 0 2 = -1) := by rw [eR_4]; exact hq
  refine Ep_ite (fun _ => ?_) (fun _ => ?_)
  · exact Ep_some hR_4
  · refine Ep_any (fun K_8 => ?_)
    refine Ep_lt (fun y11 ey11 => ?_)
    refine Ep_ite (fun _ => ?_) (fun _ => ?_)
    · exact ivJ_X3_readPerson_J62 x1 y11 1 K_8 R_4 P hR_4
    · exact ivJ_X3_readPerson_J62 x1 y11 0 K_8 R_4 P hR_4
set_option maxHeartbeats 1000000 in
set_option maxRecDepth 100000 in
theorem iv_X3_readPerson (K : Tr) (R : Tr) (P : Tr) (hR : (R 0 1 = 0 → R 0 2 = -1))   : Ep (f_X3_readPerson K R P) (fun q => (q.2.2.1 0 1 = 0 → q.2.2.1 0 2 = -1)) := by
  unfold f_X3_readPerson
  refine Ep_lt (fun y1 ey1 => ?_)
  refine Ep_ite (fun _ => ?_) (fun _ => ?_)
  · exact ivJ_X3_readPerson_J20 y1 0 K R P hR
  · exact ivJ_X3_readPerson_J20 y1 1 K R P hR
set_option maxHeartbeats 1000000 in
set_option maxRecDepth 100000 in
theorem ivJ_X3_readPiece_J192 (x1 : Int32) (x2 : Int32) (x3 : Int32) (x4 : Int32) (x5 : Int32) (K : Tr) (R : Tr) (P : Tr) (hR : (R 0 1 = 0 → R 0 2 = -1))   : Ep (fJ_X3_readPiece_J192 x1 x2 x3 x4 x5 K R P) (fun q => (q.2.2.1 0 1 = 0 → q.2.2.1 0 2 = -1)) := by
  unfold fJ_X3_readPiece_J192
  refine Ep_ck ?_
  refine Ep_lt (fun P_43 eP_43 => ?_)
  refine Ep_lt (fun P_44 eP_44 => ?_)
  refine Ep_lt (fun P_45 eP_45 => ?_)
  refine Ep_lt (fun P_46 eP_46 => ?_)
  refine Ep_lt (fun P_47 eP_47 => ?_)
  exact Ep_some hR
set_option maxHeartbeats 1000000 in
set_option maxRecDepth 100000 in
theorem ivJ_X3_readPiece_J176 (x1 : Int32) (x2 : Int32) (x3 : Int32) (x4 : Int32) (x5 : Int32) (s0 : Int32) (K : Tr) (R : Tr) (P : Tr) (hR : (R 0 1 = 0 → R 0 2 = -1))   : Ep (fJ_X3_readPiece_J176 x1 x2 x3 x4 x5 s0 K R P) (fun q => (q.2.2.1 0 1 = 0 → q.2.2.1 0 2 = -1)) := by
  unfold fJ_X3_readPiece_J176
  refine Ep_bd (iv_expect K R s0 (4 : Int32) hR (by decide)) (fun q hq => ?_)
  refine Ep_lt (fun r50 er50 => ?_)
  refine Ep_lt (fun R_51 eR_51 => ?_)
  have hR_51 : (R_51 0 1 = 0 → R_51 0 2 = -1) := by rw [eR_51]; exact hq
  refine Ep_ite (fun _ => ?_) (fun _ => ?_)
  · exact Ep_some hR_51
  · refine Ep_any (fun K_55 => ?_)
    exact ivJ_X3_readPiece_J192 x1 x2 x3 x4 x5 K_55 R_51 P hR_51
set_option maxHeartbeats 1000000 in
set_option maxRecDepth 100000 in
theorem ivJ_X3_readPiece_J125 (x1 : Int32) (x2 : Int32) (x3 : Int32) (s0 : Int32) (K : Tr) (R : Tr) (P : Tr) (hR : (R 0 1 = 0 → R 0 2 = -1))   : Ep (fJ_X3_readPiece_J125 x1 x2 x3 s0 K R P) (fun q => (q.2.2.1 0 1 = 0 → q.2.2.1 0 2 = -1)) := by
  unfold fJ_X3_readPiece_J125
  refine Ep_ite (fun _ => ?_) (fun _ => ?_)
  · refine Ep_ite (fun _ => ?_) (fun _ => ?_)
    · refine Ep_lt (fun y48 ey48 => ?_)
      refine Ep_ite (fun _ => ?_) (fun _ => ?_)
      · exact ivJ_X3_readPiece_J176 x1 x2 x3 s0 y48 0 K R P hR
      · exact ivJ_X3_readPiece_J176 x1 x2 x3 s0 y48 1 K R P hR
    · exact ivJ_X3_readPiece_J192 x1 x2 x3 s0 (-1) K R P hR
  · exact Ep_some hR
set_option maxHeartbeats 1000000 in
set_option maxRecDepth 100000 in
theorem ivJ_X3_readPiece_J86 (x1 : Int32) (x2 : Int32) (s0 : Int32) (K : Tr) (R : Tr) (P : Tr) (hR : (R 0 1 = 0 → R 0 2 = -1))   : Ep (fJ_X3_readPiece_J86 x1 x2 s0 K R P) (fun q => (q.2.2.1 0 1 = 0 → q.2.2.1 0 2 = -1)) := by
  unfold fJ_X3_readPiece_J86
  refine Ep_bd (iv_expect K R s0 (4 : Int32) hR (by decide)) (fun q hq => ?_)
  refine Ep_lt (fun r21 er21 => ?_)
  refine Ep_lt (fun R_22 eR_22 => ?_)
  have hR_22 : (R_22 0 1 = 0 → R_22 0 2 = -1) := by rw [eR_22]; exact hq
  refine Ep_ite (fun _ => ?_) (fun _ => ?_)
  · exact Ep_some hR_22
  · refine Ep_any (fun K_26 => ?_)
    refine Ep_bd (iv_X3_takeNumber K_26 R_22 (1 : Int32) (99 : Int32) hR_22) (fun q hq => ?_)
    refine Ep_lt (fun r29 er29 => ?_)
    refine Ep_lt (fun K_30 eK_30 => ?_)
    refine Ep_lt (fun R_31 eR_31 => ?_)
    have hR_31 : (R_31 0 1 = 0 → R_31 0 2 = -1) := by rw [eR_31]; exact hq
    refine Ep_ite (fun _ => ?_) (fun _ => ?_)
    · refine Ep_bd (iv_X3_takeNumber K_30 R_31 (0 : Int32) (9 : Int32) hR_31) (fun q hq => ?_)
      refine Ep_lt (fun r35 er35 => ?_)
      refine Ep_lt (fun K_36 eK_36 => ?_)
      refine Ep_lt (fun R_37 eR_37 => ?_)
      have hR_37 : (R_37 0 1 = 0 → R_37 0 2 = -1) := by rw [eR_37]; exact hq
      exact ivJ_X3_readPiece_J125 x1 x2 r29 r35 K_36 R_37 P hR_37
    · exact ivJ_X3_readPiece_J125 x1 x2 r29 (-1) K_30 R_31 P hR_31
set_option maxHeartbeats 1000000 in
set_option maxRecDepth 100000 in
theorem ivJ_X3_readPiece_J69 (x1 : Int32) (x2 : Int32) (s0 : Int32) (K : Tr) (R : Tr) (P : Tr) (hR : (R 0 1 = 0 → R 0 2 = -1))   : Ep (fJ_X3_readPiece_J69 x1 x2 s0 K R P) (fun q => (q.2.2.1 0 1 = 0 → q.2.2.1 0 2 = -1)) := by
  unfold fJ_X3_readPiece_J69
  refine Ep_bd (iv_expect K R s0 (1 : Int32) hR (by decide)) (fun q hq => ?_)
  refine Ep_lt (fun r15 er15 => ?_)
  refine Ep_lt (fun R_16 eR_16 => ?_)
  have hR_16 : (R_16 0 1 = 0 → R_16 0 2 = -1) := by rw [eR_16]; exact hq
  refine Ep_ite (fun _ => ?_) (fun _ => ?_)
  · exact Ep_some hR_16
  · refine Ep_ite (fun _ => ?_) (fun _ => ?_)
    · exact ivJ_X3_readPiece_J86 x1 x2 0 K R_16 P hR_16
    · exact ivJ_X3_readPiece_J86 x1 x2 1 K R_16 P hR_16
set_option maxHeartbeats 1000000 in
set_option maxRecDepth 100000 in
theorem ivJ_X3_readPiece_J20 (x1 : Int32) (s0 : Int32) (K : Tr) (R : Tr) (P : Tr) (hR : (R 0 1 = 0 → R 0 2 = -1))   : Ep (fJ_X3_readPiece_J20 x1 s0 K R P) (fun q => (q.2.2.1 0 1 = 0 → q.2.2.1 0 2 = -1)) := by
  unfold fJ_X3_readPiece_J20
  refine Ep_bd (iv_expect K R s0 (2 : Int32) hR (by decide)) (fun q hq => ?_)
  refine Ep_lt (fun r3 er3 => ?_)
  refine Ep_lt (fun R_4 eR_4 => ?_)
  have hR_4 : (R_4 0 1 = 0 → R_4 0 2 = -1) := by rw [eR_4]; exact hq
  refine Ep_ite (fun _ => ?_) (fun _ => ?_)
  · exact Ep_some hR_4
  · refine Ep_any (fun K_8 => ?_)
    refine Ep_any (fun r11 => ?_)
    refine Ep_ite (fun _ => ?_) (fun _ => ?_)
    · exact ivJ_X3_readPiece_J69 x1 r11 1 K_8 R_4 P hR_4
    · exact ivJ_X3_readPiece_J69 x1 r11 0 K_8 R_4 P hR_4
set_option maxHeartbeats 1000000 in
set_option maxRecDepth 100000 in
theorem iv_X3_readPiece (K : Tr) (R : Tr) (P : Tr) (hR : (R 0 1 = 0 → R 0 2 = -1))   : Ep (f_X3_readPiece K R P) (fun q => (q.2.2.1 0 1 = 0 → q.2.2.1 0 2 = -1)) := by
  unfold f_X3_readPiece
  refine Ep_lt (fun y1 ey1 => ?_)
  refine Ep_ite (fun _ => ?_) (fun _ => ?_)
  · exact ivJ_X3_readPiece_J20 y1 0 K R P hR
  · exact ivJ_X3_readPiece_J20 y1 1 K R P hR
set_option maxHeartbeats 1000000 in
set_option maxRecDepth 100000 in
theorem ivJ_X3_readWait_J103 (x1 : Int32) (s0 : Int32) (K : Tr) (R : Tr) (P : Tr) (hR : (R 0 1 = 0 → R 0 2 = -1))   : Ep (fJ_X3_readWait_J103 x1 s0 K R P) (fun q => (q.2.2.1 0 1 = 0 → q.2.2.1 0 2 = -1)) := by
  unfold fJ_X3_readWait_J103
  refine Ep_bd (iv_expect K R s0 (3 : Int32) hR (by decide)) (fun q hq => ?_)
  refine Ep_lt (fun r27 er27 => ?_)
  refine Ep_lt (fun R_28 eR_28 => ?_)
  have hR_28 : (R_28 0 1 = 0 → R_28 0 2 = -1) := by rw [eR_28]; exact hq
  refine Ep_ite (fun _ => ?_) (fun _ => ?_)
  · exact Ep_some hR_28
  · refine Ep_any (fun K_32 => ?_)
    refine Ep_bd (iv_X3_takeNumber K_32 R_28 (0 : Int32) (999 : Int32) hR_28) (fun q hq => ?_)
    refine Ep_lt (fun r35 er35 => ?_)
    refine Ep_lt (fun K_36 eK_36 => ?_)
    refine Ep_lt (fun R_37 eR_37 => ?_)
    have hR_37 : (R_37 0 1 = 0 → R_37 0 2 = -1) := by rw [eR_37]; exact hq
    refine Ep_ite (fun _ => ?_) (fun _ => ?_)
    · refine Ep_lt (fun R_41 eR_41 => ?_)
      have hR_41 : (R_41 0 1 = 0 → R_41 0 2 = -1) := by rw [eR_41]; exact iv_st hR_37 (by omega)
      refine Ep_ck ?_
      refine Ep_lt (fun P_43 eP_43 => ?_)
      exact Ep_some hR_41
    · exact Ep_some hR_37
set_option maxHeartbeats 1000000 in
set_option maxRecDepth 100000 in
theorem ivJ_X3_readWait_J79 (x1 : Int32) (s0 : Int32) (K : Tr) (R : Tr) (P : Tr) (hR : (R 0 1 = 0 → R 0 2 = -1))   : Ep (fJ_X3_readWait_J79 x1 s0 K R P) (fun q => (q.2.2.1 0 1 = 0 → q.2.2.1 0 2 = -1)) := by
  unfold fJ_X3_readWait_J79
  refine Ep_bd (iv_expect K R s0 (2 : Int32) hR (by decide)) (fun q hq => ?_)
  refine Ep_lt (fun r21 er21 => ?_)
  refine Ep_lt (fun R_22 eR_22 => ?_)
  have hR_22 : (R_22 0 1 = 0 → R_22 0 2 = -1) := by rw [eR_22]; exact hq
  refine Ep_ite (fun _ => ?_) (fun _ => ?_)
  · exact Ep_some hR_22
  · refine Ep_ite (fun _ => ?_) (fun _ => ?_)
    · exact ivJ_X3_readWait_J103 x1 1 K R_22 P hR_22
    · exact ivJ_X3_readWait_J103 x1 0 K R_22 P hR_22
set_option maxHeartbeats 1000000 in
set_option maxRecDepth 100000 in
theorem ivJ_X3_readWait_J60 (x1 : Int32) (s0 : Int32) (K : Tr) (R : Tr) (P : Tr) (hR : (R 0 1 = 0 → R 0 2 = -1))   : Ep (fJ_X3_readWait_J60 x1 s0 K R P) (fun q => (q.2.2.1 0 1 = 0 → q.2.2.1 0 2 = -1)) := by
  unfold fJ_X3_readWait_J60
  refine Ep_bd (iv_expect K R s0 (1 : Int32) hR (by decide)) (fun q hq => ?_)
  refine Ep_lt (fun r15 er15 => ?_)
  refine Ep_lt (fun R_16 eR_16 => ?_)
  have hR_16 : (R_16 0 1 = 0 → R_16 0 2 = -1) := by rw [eR_16]; exact hq
  refine Ep_ite (fun _ => ?_) (fun _ => ?_)
  · exact Ep_some hR_16
  · refine Ep_ite (fun _ => ?_) (fun _ => ?_)
    · exact ivJ_X3_readWait_J79 x1 0 K R_16 P hR_16
    · exact ivJ_X3_readWait_J79 x1 1 K R_16 P hR_16
set_option maxHeartbeats 1000000 in
set_option maxRecDepth 100000 in
theorem ivJ_X3_readWait_J18 (s0 : Int32) (K : Tr) (R : Tr) (P : Tr) (hR : (R 0 1 = 0 → R 0 2 = -1))   : Ep (fJ_X3_readWait_J18 s0 K R P) (fun q => (q.2.2.1 0 1 = 0 → q.2.2.1 0 2 = -1)) := by
  unfold fJ_X3_readWait_J18
  refine Ep_bd (iv_expect K R s0 (2 : Int32) hR (by decide)) (fun q hq => ?_)
  refine Ep_lt (fun r5 er5 => ?_)
  refine Ep_lt (fun R_6 eR_6 => ?_)
  have hR_6 : (R_6 0 1 = 0 → R_6 0 2 = -1) := by rw [eR_6]; exact hq
  refine Ep_ite (fun _ => ?_) (fun _ => ?_)
  · exact Ep_some hR_6
  · refine Ep_any (fun K_10 => ?_)
    refine Ep_lt (fun y13 ey13 => ?_)
    refine Ep_ite (fun _ => ?_) (fun _ => ?_)
    · exact ivJ_X3_readWait_J60 y13 1 K_10 R_6 P hR_6
    · exact ivJ_X3_readWait_J60 y13 0 K_10 R_6 P hR_6
set_option maxHeartbeats 1000000 in
set_option maxRecDepth 100000 in
theorem iv_X3_readWait (K : Tr) (R : Tr) (P : Tr) (hR : (R 0 1 = 0 → R 0 2 = -1))   : Ep (f_X3_readWait K R P) (fun q => (q.2.2.1 0 1 = 0 → q.2.2.1 0 2 = -1)) := by
  unfold f_X3_readWait
  refine Ep_any (fun r1 => ?_)
  refine Ep_ite (fun _ => ?_) (fun _ => ?_)
  · exact ivJ_X3_readWait_J18 0 K R P hR
  · exact ivJ_X3_readWait_J18 1 K R P hR
set_option maxHeartbeats 1000000 in
set_option maxRecDepth 100000 in
theorem ivJ_X3_startOnce_J27 (x1 : Int32) (s0 : Int32) (K : Tr) (R : Tr) (hR : (R 0 1 = 0 → R 0 2 = -1))   : Ep (fJ_X3_startOnce_J27 x1 s0 K R) (fun q => (q.2.2 0 1 = 0 → q.2.2 0 2 = -1)) := by
  unfold fJ_X3_startOnce_J27
  refine Ep_bd (iv_expect K R s0 (3 : Int32) hR (by decide)) (fun q hq => ?_)
  refine Ep_lt (fun r3 er3 => ?_)
  refine Ep_lt (fun R_4 eR_4 => ?_)
  have hR_4 : (R_4 0 1 = 0 → R_4 0 2 = -1) := by rw [eR_4]; exact hq
  refine Ep_ite (fun _ => ?_) (fun _ => ?_)
  · exact Ep_some hR_4
  · refine Ep_lt (fun R_8 eR_8 => ?_)
    have hR_8 : (R_8 0 1 = 0 → R_8 0 2 = -1) := by rw [eR_8]; exact iv_st hR_4 (by omega)
    refine Ep_any (fun K_9 => ?_)
    exact Ep_some hR_8
set_option maxHeartbeats 1000000 in
set_option maxRecDepth 100000 in
theorem iv_X3_startOnce (K : Tr) (R : Tr) (hR : (R 0 1 = 0 → R 0 2 = -1))   : Ep (f_X3_startOnce K R) (fun q => (q.2.2 0 1 = 0 → q.2.2 0 2 = -1)) := by
  unfold f_X3_startOnce
  refine Ep_lt (fun y1 ey1 => ?_)
  refine Ep_ite (fun _ => ?_) (fun _ => ?_)
  · exact ivJ_X3_startOnce_J27 y1 1 K R hR
  · exact ivJ_X3_startOnce_J27 y1 0 K R hR
set_option maxHeartbeats 1000000 in
set_option maxRecDepth 100000 in
theorem iv_X3_readRule (K : Tr) (R : Tr) (P : Tr) (hR : (R 0 1 = 0 → R 0 2 = -1))   : Ep (f_X3_readRule K R P) (fun q => (q.2.2.1 0 1 = 0 → q.2.2.1 0 2 = -1)) := by
  unfold f_X3_readRule
  refine Ep_bd (iv_X3_startOnce K R hR) (fun q hq => ?_)
  refine Ep_lt (fun r1 er1 => ?_)
  refine Ep_lt (fun K_2 eK_2 => ?_)
  refine Ep_lt (fun R_3 eR_3 => ?_)
  have hR_3 : (R_3 0 1 = 0 → R_3 0 2 = -1) := by rw [eR_3]; exact hq
  refine Ep_ite (fun _ => ?_) (fun _ => ?_)
  · exact Ep_some hR_3
  · refine Ep_bd (iv_X3_takeWord K_2 R_3 (13 : Int32) (15 : Int32) hR_3) (fun q hq => ?_)
    refine Ep_lt (fun r7 er7 => ?_)
    refine Ep_lt (fun K_8 eK_8 => ?_)
    refine Ep_lt (fun R_9 eR_9 => ?_)
    have hR_9 : (R_9 0 1 = 0 → R_9 0 2 = -1) := by rw [eR_9]; exact hq
    refine Ep_lt (fun P_12 eP_12 => ?_)
    refine Ep_ite (fun _ => ?_) (fun _ => ?_)
    · exact Ep_some hR_9
    · exact Ep_some hR_9
set_option maxHeartbeats 1000000 in
set_option maxRecDepth 100000 in
theorem iv_X3_readCurve (K : Tr) (R : Tr) (P : Tr) (hR : (R 0 1 = 0 → R 0 2 = -1))   : Ep (f_X3_readCurve K R P) (fun q => (q.2.2.1 0 1 = 0 → q.2.2.1 0 2 = -1)) := by
  unfold f_X3_readCurve
  refine Ep_bd (iv_X3_startOnce K R hR) (fun q hq => ?_)
  refine Ep_lt (fun r1 er1 => ?_)
  refine Ep_lt (fun K_2 eK_2 => ?_)
  refine Ep_lt (fun R_3 eR_3 => ?_)
  have hR_3 : (R_3 0 1 = 0 → R_3 0 2 = -1) := by rw [eR_3]; exact hq
  refine Ep_ite (fun _ => ?_) (fun _ => ?_)
  · exact Ep_some hR_3
  · refine Ep_bd (iv_X3_takeNumber K_2 R_3 (0 : Int32) (99 : Int32) hR_3) (fun q hq => ?_)
    refine Ep_lt (fun r7 er7 => ?_)
    refine Ep_lt (fun K_8 eK_8 => ?_)
    refine Ep_lt (fun R_9 eR_9 => ?_)
    have hR_9 : (R_9 0 1 = 0 → R_9 0 2 = -1) := by rw [eR_9]; exact hq
    refine Ep_lt (fun P_12 eP_12 => ?_)
    refine Ep_ite (fun _ => ?_) (fun _ => ?_)
    · exact Ep_some hR_9
    · exact Ep_some hR_9
set_option maxHeartbeats 1000000 in
set_option maxRecDepth 100000 in
theorem iv_X3_readSeed (K : Tr) (R : Tr) (P : Tr) (hR : (R 0 1 = 0 → R 0 2 = -1))   : Ep (f_X3_readSeed K R P) (fun q => (q.2.2.1 0 1 = 0 → q.2.2.1 0 2 = -1)) := by
  unfold f_X3_readSeed
  refine Ep_bd (iv_X3_startOnce K R hR) (fun q hq => ?_)
  refine Ep_lt (fun r1 er1 => ?_)
  refine Ep_lt (fun K_2 eK_2 => ?_)
  refine Ep_lt (fun R_3 eR_3 => ?_)
  have hR_3 : (R_3 0 1 = 0 → R_3 0 2 = -1) := by rw [eR_3]; exact hq
  refine Ep_ite (fun _ => ?_) (fun _ => ?_)
  · exact Ep_some hR_3
  · refine Ep_bd (iv_X3_takeNumber K_2 R_3 (0 : Int32) (99999 : Int32) hR_3) (fun q hq => ?_)
    refine Ep_lt (fun r7 er7 => ?_)
    refine Ep_lt (fun K_8 eK_8 => ?_)
    refine Ep_lt (fun R_9 eR_9 => ?_)
    have hR_9 : (R_9 0 1 = 0 → R_9 0 2 = -1) := by rw [eR_9]; exact hq
    refine Ep_lt (fun P_12 eP_12 => ?_)
    refine Ep_ite (fun _ => ?_) (fun _ => ?_)
    · exact Ep_some hR_9
    · exact Ep_some hR_9
set_option maxHeartbeats 1000000 in
set_option maxRecDepth 100000 in
theorem ivB_X3_closeSigns_L0 (j : Nat) (x2 : Int32)    (N : Nat) : ∀ (R : Tr) (P : Tr), (R 0 1 = 0 → R 0 2 = -1) → Ep (lpF (fun _ _ => none) (fB_X3_closeSigns_L0 j x2) N R P) (fun q => (q.1 0 1 = 0 → q.1 0 2 = -1)) := by
  induction N with
  | zero => intro R P _; exact Ep_none
  | succ N ih =>
    intro R P hR
    show Ep (fB_X3_closeSigns_L0 j x2 (lpF (fun _ _ => none) (fB_X3_closeSigns_L0 j x2) N) R P) _
    have hk0 := ih
    clear ih
    generalize lpF (fun _ _ => none) (fB_X3_closeSigns_L0 j x2) N = k0 at hk0 ⊢
    unfold fB_X3_closeSigns_L0
    refine Ep_ite (fun _ => ?_) (fun _ => ?_)
    · exact Ep_some hR
    · refine Ep_any (fun r2 => ?_)
      refine Ep_ite (fun _ => ?_) (fun _ => ?_)
      · exact Ep_some hR
      · refine Ep_lt (fun R_6 eR_6 => ?_)
        have hR_6 : (R_6 0 1 = 0 → R_6 0 2 = -1) := by rw [eR_6]; exact iv_st hR (by omega)
        refine Ep_ck ?_
        refine Ep_any (fun P_8 => ?_)
        exact hk0 R_6 P_8 hR_6
set_option maxHeartbeats 1000000 in
set_option maxRecDepth 100000 in
theorem ivL_X3_closeSigns_L0 (j : Nat) (x2 : Int32)    (R : Tr) (P : Tr) (hR : (R 0 1 = 0 → R 0 2 = -1)) : Ep (fL_X3_closeSigns_L0 j x2 R P) (fun q => (q.1 0 1 = 0 → q.1 0 2 = -1)) := by
  unfold fL_X3_closeSigns_L0
  exact ivB_X3_closeSigns_L0 j x2 2000 R P hR
set_option maxHeartbeats 1000000 in
set_option maxRecDepth 100000 in
theorem iv_X3_closeSigns (j : Nat) (R : Tr) (P : Tr) (x2 : Int32) (hR : (R 0 1 = 0 → R 0 2 = -1))   : Ep (f_X3_closeSigns j R P x2) (fun q => (q.1 0 1 = 0 → q.1 0 2 = -1)) := by
  unfold f_X3_closeSigns
  exact ivL_X3_closeSigns_L0 j x2 R P hR
set_option maxHeartbeats 1000000 in
set_option maxRecDepth 100000 in
theorem ivJ_X3_readFormula_J173 (j : Nat) (s0 : Int32) (K : Tr) (R : Tr) (P : Tr) (hR : (R 0 1 = 0 → R 0 2 = -1))   : Ep (fJ_X3_readFormula_J173 j s0 K R P) (fun q => (q.2.2.1 0 1 = 0 → q.2.2.1 0 2 = -1)) := by
  unfold fJ_X3_readFormula_J173
  refine Ep_bd (iv_expect K R s0 (1 : Int32) hR (by decide)) (fun q hq => ?_)
  refine Ep_lt (fun r10 er10 => ?_)
  refine Ep_lt (fun R_11 eR_11 => ?_)
  have hR_11 : (R_11 0 1 = 0 → R_11 0 2 = -1) := by rw [eR_11]; exact hq
  refine Ep_ite (fun _ => ?_) (fun _ => ?_)
  · exact Ep_some hR_11
  · exact Ep_some hR_11
set_option maxHeartbeats 1000000 in
set_option maxRecDepth 100000 in
theorem ivJ_X3_readFormula_J147 (j : Nat) (K : Tr) (R : Tr) (P : Tr) (hR : (R 0 1 = 0 → R 0 2 = -1))   : Ep (fJ_X3_readFormula_J147 j K R P) (fun q => (q.2.2.1 0 1 = 0 → q.2.2.1 0 2 = -1)) := by
  unfold fJ_X3_readFormula_J147
  refine Ep_bd (iv_X3_closeSigns j R P (1 : Int32) hR) (fun q hq => ?_)
  refine Ep_lt (fun R_4 eR_4 => ?_)
  have hR_4 : (R_4 0 1 = 0 → R_4 0 2 = -1) := by rw [eR_4]; exact hq
  refine Ep_lt (fun P_5 eP_5 => ?_)
  refine Ep_ite (fun _ => ?_) (fun _ => ?_)
  · refine Ep_ite (fun _ => ?_) (fun _ => ?_)
    · exact ivJ_X3_readFormula_J173 j 1 K R_4 P_5 hR_4
    · exact ivJ_X3_readFormula_J173 j 0 K R_4 P_5 hR_4
  · exact Ep_some hR_4
set_option maxHeartbeats 1000000 in
set_option maxRecDepth 100000 in
theorem ivJ_X3_readFormula_J130 (k17 : Int32 → Int32 → Int32 → Tr → Tr → Tr → Option (Int32 × Tr × Tr × Tr)) (j : Nat) (x2 : Int32) (x3 : Int32) (x4 : Int32) (K : Tr) (R : Tr) (P : Tr) (hR : (R 0 1 = 0 → R 0 2 = -1)) (hk17 : ∀ (x2 : Int32) (x3 : Int32) (x4 : Int32) (K : Tr) (R : Tr) (P : Tr), (R 0 1 = 0 → R 0 2 = -1) → Ep (k17 x2 x3 x4 K R P) (fun q => (q.2.2.1 0 1 = 0 → q.2.2.1 0 2 = -1)))  : Ep (fJ_X3_readFormula_J130 k17 j x2 x3 x4 K R P) (fun q => (q.2.2.1 0 1 = 0 → q.2.2.1 0 2 = -1)) := by
  unfold fJ_X3_readFormula_J130
  refine Ep_ite (fun _ => ?_) (fun _ => ?_)
  · refine Ep_lt (fun y24 ey24 => ?_)
    exact hk17 x2 x3 y24 K R P hR
  · refine Ep_any (fun K_25 => ?_)
    refine Ep_lt (fun y28 ey28 => ?_)
    exact hk17 x2 x3 y28 K_25 R P hR
set_option maxHeartbeats 1000000 in
set_option maxRecDepth 100000 in
theorem iv_X3_closeBracket (j : Nat) (R : Tr) (P : Tr) (hR : (R 0 1 = 0 → R 0 2 = -1))   : Ep (f_X3_closeBracket j R P) (fun q => (q.1 0 1 = 0 → q.1 0 2 = -1)) := by
  unfold f_X3_closeBracket
  refine Ep_bd (iv_X3_closeSigns j R P (1 : Int32) hR) (fun q hq => ?_)
  refine Ep_lt (fun R_1 eR_1 => ?_)
  have hR_1 : (R_1 0 1 = 0 → R_1 0 2 = -1) := by rw [eR_1]; exact hq
  refine Ep_lt (fun P_2 eP_2 => ?_)
  refine Ep_lt (fun R_5 eR_5 => ?_)
  have hR_5 : (R_5 0 1 = 0 → R_5 0 2 = -1) := by rw [eR_5]; exact iv_st hR_1 (by omega)
  refine Ep_lt (fun R_6 eR_6 => ?_)
  have hR_6 : (R_6 0 1 = 0 → R_6 0 2 = -1) := by rw [eR_6]; exact iv_st hR_5 (by omega)
  exact Ep_some hR_6
set_option maxHeartbeats 1000000 in
set_option maxRecDepth 100000 in
theorem ivJ_X3_readFormula_J120 (k17 : Int32 → Int32 → Int32 → Tr → Tr → Tr → Option (Int32 × Tr × Tr × Tr)) (j : Nat) (x2 : Int32) (x4 : Int32) (s0 : Int32) (K : Tr) (R : Tr) (P : Tr) (hR : (R 0 1 = 0 → R 0 2 = -1)) (hk17 : ∀ (x2 : Int32) (x3 : Int32) (x4 : Int32) (K : Tr) (R : Tr) (P : Tr), (R 0 1 = 0 → R 0 2 = -1) → Ep (k17 x2 x3 x4 K R P) (fun q => (q.2.2.1 0 1 = 0 → q.2.2.1 0 2 = -1)))  : Ep (fJ_X3_readFormula_J120 k17 j x2 x4 s0 K R P) (fun q => (q.2.2.1 0 1 = 0 → q.2.2.1 0 2 = -1)) := by
  unfold fJ_X3_readFormula_J120
  refine Ep_ite (fun _ => ?_) (fun _ => ?_)
  · exact ivJ_X3_readFormula_J130 k17 j x2 s0 x4 K R P hR hk17
  · refine Ep_bd (iv_X3_closeBracket j R P hR) (fun q hq => ?_)
    refine Ep_lt (fun R_29 eR_29 => ?_)
    have hR_29 : (R_29 0 1 = 0 → R_29 0 2 = -1) := by rw [eR_29]; exact hq
    refine Ep_lt (fun P_30 eP_30 => ?_)
    exact ivJ_X3_readFormula_J130 k17 j x2 s0 x4 K R_29 P_30 hR_29 hk17
set_option maxHeartbeats 1000000 in
set_option maxRecDepth 100000 in
theorem ivJ_X3_readFormula_J119 (k17 : Int32 → Int32 → Int32 → Tr → Tr → Tr → Option (Int32 × Tr × Tr × Tr)) (j : Nat) (x2 : Int32) (x4 : Int32) (K : Tr) (R : Tr) (P : Tr) (hR : (R 0 1 = 0 → R 0 2 = -1)) (hk17 : ∀ (x2 : Int32) (x3 : Int32) (x4 : Int32) (K : Tr) (R : Tr) (P : Tr), (R 0 1 = 0 → R 0 2 = -1) → Ep (k17 x2 x3 x4 K R P) (fun q => (q.2.2.1 0 1 = 0 → q.2.2.1 0 2 = -1)))  : Ep (fJ_X3_readFormula_J119 k17 j x2 x4 K R P) (fun q => (q.2.2.1 0 1 = 0 → q.2.2.1 0 2 = -1)) := by
  unfold fJ_X3_readFormula_J119
  exact ivJ_X3_readFormula_J120 k17 j x2 x4 0 K R P hR hk17
set_option maxHeartbeats 1000000 in
set_option maxRecDepth 100000 in
theorem ivJ_X3_countKnot_J18 (K : Tr) (s0 : Int32) (R : Tr) (P : Tr) (hR : (R 0 1 = 0 → R 0 2 = -1))   : Ep (fJ_X3_countKnot_J18 K s0 R P) (fun q => (q.2.1 0 1 = 0 → q.2.1 0 2 = -1)) := by
  unfold fJ_X3_countKnot_J18
  refine Ep_bd (iv_expect K R s0 (2 : Int32) hR (by decide)) (fun q hq => ?_)
  refine Ep_lt (fun r2 er2 => ?_)
  refine Ep_lt (fun R_3 eR_3 => ?_)
  have hR_3 : (R_3 0 1 = 0 → R_3 0 2 = -1) := by rw [eR_3]; exact hq
  refine Ep_ite (fun _ => ?_) (fun _ => ?_)
  · exact Ep_some hR_3
  · refine Ep_lt (fun P_7 eP_7 => ?_)
    exact Ep_some hR_3
set_option maxHeartbeats 1000000 in
set_option maxRecDepth 100000 in
theorem iv_X3_countKnot (K : Tr) (R : Tr) (P : Tr) (hR : (R 0 1 = 0 → R 0 2 = -1))   : Ep (f_X3_countKnot K R P) (fun q => (q.2.1 0 1 = 0 → q.2.1 0 2 = -1)) := by
  unfold f_X3_countKnot
  refine Ep_ite (fun _ => ?_) (fun _ => ?_)
  · exact ivJ_X3_countKnot_J18 K 0 R P hR
  · exact ivJ_X3_countKnot_J18 K 1 R P hR
set_option maxHeartbeats 1000000 in
set_option maxRecDepth 100000 in
theorem iv_X3_openSign (R : Tr) (x1 : Int32) (hR : (R 0 1 = 0 → R 0 2 = -1))   : Ep (f_X3_openSign R x1) (fun q => (q.2 0 1 = 0 → q.2 0 2 = -1)) := by
  unfold f_X3_openSign
  refine Ep_ite (fun _ => ?_) (fun _ => ?_)
  · exact Ep_some hR
  · refine Ep_ck ?_
    refine Ep_lt (fun R_3 eR_3 => ?_)
    have hR_3 : (R_3 0 1 = 0 → R_3 0 2 = -1) := by rw [eR_3]; exact iv_st hR (by omega)
    refine Ep_lt (fun R_4 eR_4 => ?_)
    have hR_4 : (R_4 0 1 = 0 → R_4 0 2 = -1) := by rw [eR_4]; exact iv_st hR_3 (by omega)
    exact Ep_some hR_4
set_option maxHeartbeats 1000000 in
set_option maxRecDepth 100000 in
theorem ivJ_X3_readJoining_J57 (j : Nat) (K : Tr) (s0 : Int32) (R : Tr) (P : Tr) (hR : (R 0 1 = 0 → R 0 2 = -1))   : Ep (fJ_X3_readJoining_J57 j K s0 R P) (fun q => (q.2.1 0 1 = 0 → q.2.1 0 2 = -1)) := by
  unfold fJ_X3_readJoining_J57
  refine Ep_bd (iv_expect K R s0 (1 : Int32) hR (by decide)) (fun q hq => ?_)
  refine Ep_lt (fun r10 er10 => ?_)
  refine Ep_lt (fun R_11 eR_11 => ?_)
  have hR_11 : (R_11 0 1 = 0 → R_11 0 2 = -1) := by rw [eR_11]; exact hq
  refine Ep_ite (fun _ => ?_) (fun _ => ?_)
  · exact Ep_some hR_11
  · refine Ep_bd (iv_X3_countKnot K R_11 P hR_11) (fun q hq => ?_)
    refine Ep_lt (fun r15 er15 => ?_)
    refine Ep_lt (fun R_16 eR_16 => ?_)
    have hR_16 : (R_16 0 1 = 0 → R_16 0 2 = -1) := by rw [eR_16]; exact hq
    refine Ep_lt (fun P_17 eP_17 => ?_)
    refine Ep_ite (fun _ => ?_) (fun _ => ?_)
    · exact Ep_some hR_16
    · refine Ep_bd (iv_X3_openSign R_16 (K 0 1) hR_16) (fun q hq => ?_)
      refine Ep_lt (fun r21 er21 => ?_)
      refine Ep_lt (fun R_22 eR_22 => ?_)
      have hR_22 : (R_22 0 1 = 0 → R_22 0 2 = -1) := by rw [eR_22]; exact hq
      refine Ep_ite (fun _ => ?_) (fun _ => ?_)
      · exact Ep_some hR_22
      · exact Ep_some hR_22
set_option maxHeartbeats 1000000 in
set_option maxRecDepth 100000 in
theorem ivJ_X3_readJoining_J52 (j : Nat) (K : Tr) (R : Tr) (P : Tr) (hR : (R 0 1 = 0 → R 0 2 = -1))   : Ep (fJ_X3_readJoining_J52 j K R P) (fun q => (q.2.1 0 1 = 0 → q.2.1 0 2 = -1)) := by
  unfold fJ_X3_readJoining_J52
  exact ivJ_X3_readJoining_J57 j K 1 R P hR
set_option maxHeartbeats 1000000 in
set_option maxRecDepth 100000 in
theorem ivJ_X3_readJoining_J36 (j : Nat) (K : Tr) (x2 : Int32) (x3 : Int32) (s0 : Int32) (R : Tr) (P : Tr) (hR : (R 0 1 = 0 → R 0 2 = -1))   : Ep (fJ_X3_readJoining_J36 j K x2 x3 s0 R P) (fun q => (q.2.1 0 1 = 0 → q.2.1 0 2 = -1)) := by
  unfold fJ_X3_readJoining_J36
  refine Ep_bd (iv_X3_closeSigns j R P s0 hR) (fun q hq => ?_)
  refine Ep_lt (fun R_5 eR_5 => ?_)
  have hR_5 : (R_5 0 1 = 0 → R_5 0 2 = -1) := by rw [eR_5]; exact hq
  refine Ep_lt (fun P_6 eP_6 => ?_)
  refine Ep_ite (fun _ => ?_) (fun _ => ?_)
  · exact ivJ_X3_readJoining_J52 j K R_5 P_6 hR_5
  · refine Ep_any (fun r26 => ?_)
    refine Ep_ite (fun _ => ?_) (fun _ => ?_)
    · exact ivJ_X3_readJoining_J57 j K 0 R_5 P_6 hR_5
    · exact ivJ_X3_readJoining_J52 j K R_5 P_6 hR_5
set_option maxHeartbeats 1000000 in
set_option maxRecDepth 100000 in
theorem ivJ_X3_readJoining_J22 (j : Nat) (K : Tr) (x2 : Int32) (s0 : Int32) (R : Tr) (P : Tr) (hR : (R 0 1 = 0 → R 0 2 = -1))   : Ep (fJ_X3_readJoining_J22 j K x2 s0 R P) (fun q => (q.2.1 0 1 = 0 → q.2.1 0 2 = -1)) := by
  unfold fJ_X3_readJoining_J22
  refine Ep_ite (fun _ => ?_) (fun _ => ?_)
  · exact ivJ_X3_readJoining_J36 j K x2 s0 x2 R P hR
  · exact ivJ_X3_readJoining_J36 j K x2 s0 (x2 + 1) R P hR
set_option maxHeartbeats 1000000 in
set_option maxRecDepth 100000 in
theorem iv_X3_readJoining (j : Nat) (K : Tr) (R : Tr) (P : Tr) (hR : (R 0 1 = 0 → R 0 2 = -1))   : Ep (f_X3_readJoining j K R P) (fun q => (q.2.1 0 1 = 0 → q.2.1 0 2 = -1)) := by
  unfold f_X3_readJoining
  refine Ep_ck ?_
  refine Ep_lt (fun y2 ey2 => ?_)
  refine Ep_ite (fun _ => ?_) (fun _ => ?_)
  · exact ivJ_X3_readJoining_J22 j K y2 1 R P hR
  · exact ivJ_X3_readJoining_J22 j K y2 0 R P hR
set_option maxHeartbeats 1000000 in
set_option maxRecDepth 100000 in
theorem iv_X3_openBracket (R : Tr) (hR : (R 0 1 = 0 → R 0 2 = -1))   : Ep (f_X3_openBracket R) (fun q => (q.2 0 1 = 0 → q.2 0 2 = -1)) := by
  unfold f_X3_openBracket
  refine Ep_lt (fun R_1 eR_1 => ?_)
  have hR_1 : (R_1 0 1 = 0 → R_1 0 2 = -1) := by rw [eR_1]; exact iv_st hR (by omega)
  refine Ep_bd (iv_X3_openSign R_1 (39 : Int32) hR_1) (fun q hq => ?_)
  refine Ep_lt (fun r2 er2 => ?_)
  refine Ep_lt (fun R_3 eR_3 => ?_)
  have hR_3 : (R_3 0 1 = 0 → R_3 0 2 = -1) := by rw [eR_3]; exact hq
  refine Ep_ck ?_
  exact Ep_some hR_3
set_option maxHeartbeats 1000000 in
set_option maxRecDepth 100000 in
theorem ivJ_X3_readOperand_J29 (j : Nat) (K : Tr) (s0 : Int32) (R : Tr) (P : Tr) (hR : (R 0 1 = 0 → R 0 2 = -1))   : Ep (fJ_X3_readOperand_J29 j K s0 R P) (fun q => (q.2.1 0 1 = 0 → q.2.1 0 2 = -1)) := by
  unfold fJ_X3_readOperand_J29
  refine Ep_bd (iv_expect K R s0 (2 : Int32) hR (by decide)) (fun q hq => ?_)
  refine Ep_lt (fun r63 er63 => ?_)
  refine Ep_lt (fun R_64 eR_64 => ?_)
  have hR_64 : (R_64 0 1 = 0 → R_64 0 2 = -1) := by rw [eR_64]; exact hq
  refine Ep_ite (fun _ => ?_) (fun _ => ?_)
  · exact Ep_some hR_64
  · refine Ep_bd (iv_X3_openBracket R_64 hR_64) (fun q hq => ?_)
    refine Ep_lt (fun r68 er68 => ?_)
    refine Ep_lt (fun R_69 eR_69 => ?_)
    have hR_69 : (R_69 0 1 = 0 → R_69 0 2 = -1) := by rw [eR_69]; exact hq
    refine Ep_ite (fun _ => ?_) (fun _ => ?_)
    · exact Ep_some hR_69
    · exact Ep_some hR_69
set_option maxHeartbeats 1000000 in
set_option maxRecDepth 100000 in
theorem ivJ_X3_readOperand_J73 (j : Nat) (K : Tr) (x2 : Int32) (s0 : Int32) (R : Tr) (P : Tr) (hR : (R 0 1 = 0 → R 0 2 = -1))   : Ep (fJ_X3_readOperand_J73 j K x2 s0 R P) (fun q => (q.2.1 0 1 = 0 → q.2.1 0 2 = -1)) := by
  unfold fJ_X3_readOperand_J73
  refine Ep_bd (iv_expect K R s0 (1 : Int32) hR (by decide)) (fun q hq => ?_)
  refine Ep_lt (fun r46 er46 => ?_)
  refine Ep_lt (fun R_47 eR_47 => ?_)
  have hR_47 : (R_47 0 1 = 0 → R_47 0 2 = -1) := by rw [eR_47]; exact hq
  refine Ep_ite (fun _ => ?_) (fun _ => ?_)
  · exact Ep_some hR_47
  · refine Ep_bd (iv_X3_countKnot K R_47 P hR_47) (fun q hq => ?_)
    refine Ep_lt (fun r51 er51 => ?_)
    refine Ep_lt (fun R_52 eR_52 => ?_)
    have hR_52 : (R_52 0 1 = 0 → R_52 0 2 = -1) := by rw [eR_52]; exact hq
    refine Ep_lt (fun P_53 eP_53 => ?_)
    refine Ep_ite (fun _ => ?_) (fun _ => ?_)
    · exact Ep_some hR_52
    · refine Ep_bd (iv_X3_openSign R_52 x2 hR_52) (fun q hq => ?_)
      refine Ep_lt (fun r57 er57 => ?_)
      refine Ep_lt (fun R_58 eR_58 => ?_)
      have hR_58 : (R_58 0 1 = 0 → R_58 0 2 = -1) := by rw [eR_58]; exact hq
      refine Ep_ite (fun _ => ?_) (fun _ => ?_)
      · exact Ep_some hR_58
      · exact Ep_some hR_58
set_option maxHeartbeats 1000000 in
set_option maxRecDepth 100000 in
theorem ivJ_X3_readOperand_J126 (j : Nat) (K : Tr) (s0 : Int32) (R : Tr) (P : Tr) (hR : (R 0 1 = 0 → R 0 2 = -1))   : Ep (fJ_X3_readOperand_J126 j K s0 R P) (fun q => (q.2.1 0 1 = 0 → q.2.1 0 2 = -1)) := by
  unfold fJ_X3_readOperand_J126
  refine Ep_bd (iv_expect K R s0 (2 : Int32) hR (by decide)) (fun q hq => ?_)
  refine Ep_lt (fun r25 er25 => ?_)
  refine Ep_lt (fun R_26 eR_26 => ?_)
  have hR_26 : (R_26 0 1 = 0 → R_26 0 2 = -1) := by rw [eR_26]; exact hq
  refine Ep_ite (fun _ => ?_) (fun _ => ?_)
  · exact Ep_some hR_26
  · refine Ep_bd (iv_X3_countKnot K R_26 P hR_26) (fun q hq => ?_)
    refine Ep_lt (fun r30 er30 => ?_)
    refine Ep_lt (fun R_31 eR_31 => ?_)
    have hR_31 : (R_31 0 1 = 0 → R_31 0 2 = -1) := by rw [eR_31]; exact hq
    refine Ep_lt (fun P_32 eP_32 => ?_)
    refine Ep_ite (fun _ => ?_) (fun _ => ?_)
    · exact Ep_some hR_31
    · refine Ep_any (fun q => ?_)
      refine Ep_lt (fun r36 er36 => ?_)
      refine Ep_lt (fun P_37 eP_37 => ?_)
      refine Ep_ite (fun _ => ?_) (fun _ => ?_)
      · exact Ep_some hR_31
      · exact Ep_some hR_31
set_option maxHeartbeats 1000000 in
set_option maxRecDepth 100000 in
theorem iv_X3_readOperand (j : Nat) (K : Tr) (R : Tr) (P : Tr) (hR : (R 0 1 = 0 → R 0 2 = -1))   : Ep (f_X3_readOperand j K R P) (fun q => (q.2.1 0 1 = 0 → q.2.1 0 2 = -1)) := by
  unfold f_X3_readOperand
  refine Ep_lt (fun y1 ey1 => ?_)
  refine Ep_ite (fun _ => ?_) (fun _ => ?_)
  · refine Ep_ite (fun _ => ?_) (fun _ => ?_)
    · exact ivJ_X3_readOperand_J29 j K 0 R P hR
    · exact ivJ_X3_readOperand_J29 j K 1 R P hR
  · refine Ep_ite (fun _ => ?_) (fun _ => ?_)
    · refine Ep_any (fun r41 => ?_)
      refine Ep_ck ?_
      refine Ep_ite (fun _ => ?_) (fun _ => ?_)
      · exact ivJ_X3_readOperand_J73 j K y1 0 R P hR
      · exact ivJ_X3_readOperand_J73 j K y1 1 R P hR
    · refine Ep_ite (fun _ => ?_) (fun _ => ?_)
      · refine Ep_ite (fun _ => ?_) (fun _ => ?_)
        · exact ivJ_X3_readOperand_J126 j K 0 R P hR
        · exact ivJ_X3_readOperand_J126 j K 1 R P hR
      · refine Ep_any (fun r5 => ?_)
        refine Ep_bd (iv_expect K R r5 (1 : Int32) hR (by decide)) (fun q hq => ?_)
        refine Ep_lt (fun r8 er8 => ?_)
        refine Ep_lt (fun R_9 eR_9 => ?_)
        have hR_9 : (R_9 0 1 = 0 → R_9 0 2 = -1) := by rw [eR_9]; exact hq
        refine Ep_ite (fun _ => ?_) (fun _ => ?_)
        · exact Ep_some hR_9
        · refine Ep_bd (iv_X3_countKnot K R_9 P hR_9) (fun q hq => ?_)
          refine Ep_lt (fun r13 er13 => ?_)
          refine Ep_lt (fun R_14 eR_14 => ?_)
          have hR_14 : (R_14 0 1 = 0 → R_14 0 2 = -1) := by rw [eR_14]; exact hq
          refine Ep_lt (fun P_15 eP_15 => ?_)
          refine Ep_ite (fun _ => ?_) (fun _ => ?_)
          · exact Ep_some hR_14
          · refine Ep_any (fun q => ?_)
            refine Ep_lt (fun r19 er19 => ?_)
            refine Ep_lt (fun P_20 eP_20 => ?_)
            refine Ep_ite (fun _ => ?_) (fun _ => ?_)
            · exact Ep_some hR_14
            · exact Ep_some hR_14
set_option maxHeartbeats 1000000 in
set_option maxRecDepth 100000 in
theorem ivJ_X3_readFormula_J62 (k17 : Int32 → Int32 → Int32 → Tr → Tr → Tr → Option (Int32 × Tr × Tr × Tr)) (j : Nat) (x4 : Int32) (s0 : Int32) (K : Tr) (R : Tr) (P : Tr) (hR : (R 0 1 = 0 → R 0 2 = -1)) (hk17 : ∀ (x2 : Int32) (x3 : Int32) (x4 : Int32) (K : Tr) (R : Tr) (P : Tr), (R 0 1 = 0 → R 0 2 = -1) → Ep (k17 x2 x3 x4 K R P) (fun q => (q.2.2.1 0 1 = 0 → q.2.2.1 0 2 = -1)))  : Ep (fJ_X3_readFormula_J62 k17 j x4 s0 K R P) (fun q => (q.2.2.1 0 1 = 0 → q.2.2.1 0 2 = -1)) := by
  unfold fJ_X3_readFormula_J62
  refine Ep_bd (iv_X3_readOperand j K R P hR) (fun q hq => ?_)
  refine Ep_lt (fun r40 er40 => ?_)
  refine Ep_lt (fun R_41 eR_41 => ?_)
  have hR_41 : (R_41 0 1 = 0 → R_41 0 2 = -1) := by rw [eR_41]; exact hq
  refine Ep_lt (fun P_42 eP_42 => ?_)
  exact ivJ_X3_readFormula_J130 k17 j s0 r40 x4 K R_41 P_42 hR_41 hk17
set_option maxHeartbeats 1000000 in
set_option maxRecDepth 100000 in
theorem ivJ_X3_readFormula_J57 (k17 : Int32 → Int32 → Int32 → Tr → Tr → Tr → Option (Int32 × Tr × Tr × Tr)) (j : Nat) (x4 : Int32) (K : Tr) (R : Tr) (P : Tr) (hR : (R 0 1 = 0 → R 0 2 = -1)) (hk17 : ∀ (x2 : Int32) (x3 : Int32) (x4 : Int32) (K : Tr) (R : Tr) (P : Tr), (R 0 1 = 0 → R 0 2 = -1) → Ep (k17 x2 x3 x4 K R P) (fun q => (q.2.2.1 0 1 = 0 → q.2.2.1 0 2 = -1)))  : Ep (fJ_X3_readFormula_J57 k17 j x4 K R P) (fun q => (q.2.2.1 0 1 = 0 → q.2.2.1 0 2 = -1)) := by
  unfold fJ_X3_readFormula_J57
  exact ivJ_X3_readFormula_J62 k17 j x4 1 K R P hR hk17
set_option maxHeartbeats 1000000 in
set_option maxRecDepth 100000 in
theorem ivB_X3_readFormula_L17 (j : Nat)    (N : Nat) : ∀ (x2 : Int32) (x3 : Int32) (x4 : Int32) (K : Tr) (R : Tr) (P : Tr), (R 0 1 = 0 → R 0 2 = -1) → Ep (lpF (fun _ _ _ _ _ _ => none) (fB_X3_readFormula_L17 j) N x2 x3 x4 K R P) (fun q => (q.2.2.1 0 1 = 0 → q.2.2.1 0 2 = -1)) := by
  induction N with
  | zero => intro x2 x3 x4 K R P _; exact Ep_none
  | succ N ih =>
    intro x2 x3 x4 K R P hR
    show Ep (fB_X3_readFormula_L17 j (lpF (fun _ _ _ _ _ _ => none) (fB_X3_readFormula_L17 j) N) x2 x3 x4 K R P) _
    have hk17 := ih
    clear ih
    generalize lpF (fun _ _ _ _ _ _ => none) (fB_X3_readFormula_L17 j) N = k17 at hk17 ⊢
    unfold fB_X3_readFormula_L17
    refine Ep_ite (fun _ => ?_) (fun _ => ?_)
    · exact ivJ_X3_readFormula_J147 j K R P hR
    · refine Ep_ite (fun _ => ?_) (fun _ => ?_)
      · exact ivJ_X3_readFormula_J147 j K R P hR
      · refine Ep_ite (fun _ => ?_) (fun _ => ?_)
        · refine Ep_any (fun r17 => ?_)
          refine Ep_ite (fun _ => ?_) (fun _ => ?_)
          · refine Ep_ite (fun _ => ?_) (fun _ => ?_)
            · refine Ep_ite (fun _ => ?_) (fun _ => ?_)
              · exact ivJ_X3_readFormula_J119 k17 j x2 x4 K R P hR hk17
              · exact ivJ_X3_readFormula_J120 k17 j x2 x4 1 K R P hR hk17
            · exact ivJ_X3_readFormula_J119 k17 j x2 x4 K R P hR hk17
          · refine Ep_bd (iv_X3_readJoining j K R P hR) (fun q hq => ?_)
            refine Ep_lt (fun r34 er34 => ?_)
            refine Ep_lt (fun R_35 eR_35 => ?_)
            have hR_35 : (R_35 0 1 = 0 → R_35 0 2 = -1) := by rw [eR_35]; exact hq
            refine Ep_lt (fun P_36 eP_36 => ?_)
            exact ivJ_X3_readFormula_J130 k17 j 1 r34 x4 K R_35 P_36 hR_35 hk17
        · refine Ep_ite (fun _ => ?_) (fun _ => ?_)
          · exact ivJ_X3_readFormula_J57 k17 j x4 K R P hR hk17
          · refine Ep_ite (fun _ => ?_) (fun _ => ?_)
            · exact ivJ_X3_readFormula_J57 k17 j x4 K R P hR hk17
            · exact ivJ_X3_readFormula_J62 k17 j x4 0 K R P hR hk17
set_option maxHeartbeats 1000000 in
set_option maxRecDepth 100000 in
theorem ivL_X3_readFormula_L17 (j : Nat)    (x2 : Int32) (x3 : Int32) (x4 : Int32) (K : Tr) (R : Tr) (P : Tr) (hR : (R 0 1 = 0 → R 0 2 = -1)) : Ep (fL_X3_readFormula_L17 j x2 x3 x4 K R P) (fun q => (q.2.2.1 0 1 = 0 → q.2.2.1 0 2 = -1)) := by
  unfold fL_X3_readFormula_L17
  exact ivB_X3_readFormula_L17 j 2000 x2 x3 x4 K R P hR
set_option maxHeartbeats 1000000 in
set_option maxRecDepth 100000 in
theorem iv_X3_readFormula (j : Nat) (K : Tr) (R : Tr) (P : Tr) (hR : (R 0 1 = 0 → R 0 2 = -1))   : Ep (f_X3_readFormula j K R P) (fun q => (q.2.2.1 0 1 = 0 → q.2.2.1 0 2 = -1)) := by
  unfold f_X3_readFormula
  refine Ep_lt (fun R_1 eR_1 => ?_)
  have hR_1 : (R_1 0 1 = 0 → R_1 0 2 = -1) := by rw [eR_1]; exact iv_st hR (by omega)
  refine Ep_lt (fun R_2 eR_2 => ?_)
  have hR_2 : (R_2 0 1 = 0 → R_2 0 2 = -1) := by rw [eR_2]; exact iv_st hR_1 (by omega)
  exact ivL_X3_readFormula_L17 j 1 1 0 K R_2 P hR_2
set_option maxHeartbeats 1000000 in
set_option maxRecDepth 100000 in
theorem ivJ_X3_readLaw_J61 (x1 : Int32) (s0 : Int32) (K : Tr) (R : Tr) (P : Tr) (hR : (R 0 1 = 0 → R 0 2 = -1))   : Ep (fJ_X3_readLaw_J61 x1 s0 K R P) (fun q => (q.2.2.1 0 1 = 0 → q.2.2.1 0 2 = -1)) := by
  unfold fJ_X3_readLaw_J61
  refine Ep_bd (iv_expect K R s0 (3 : Int32) hR (by decide)) (fun q hq => ?_)
  refine Ep_lt (fun r13 er13 => ?_)
  refine Ep_lt (fun R_14 eR_14 => ?_)
  have hR_14 : (R_14 0 1 = 0 → R_14 0 2 = -1) := by rw [eR_14]; exact hq
  refine Ep_ite (fun _ => ?_) (fun _ => ?_)
  · exact Ep_some hR_14
  · refine Ep_any (fun K_18 => ?_)
    refine Ep_ck ?_
    refine Ep_bd (iv_X3_readFormula x1.toNatClampNeg K_18 R_14 P hR_14) (fun q hq => ?_)
    refine Ep_lt (fun r22 er22 => ?_)
    refine Ep_lt (fun K_23 eK_23 => ?_)
    refine Ep_lt (fun R_24 eR_24 => ?_)
    have hR_24 : (R_24 0 1 = 0 → R_24 0 2 = -1) := by rw [eR_24]; exact hq
    refine Ep_lt (fun P_25 eP_25 => ?_)
    refine Ep_ck ?_
    exact Ep_some hR_24
set_option maxHeartbeats 1000000 in
set_option maxRecDepth 100000 in
theorem ivJ_X3_readLaw_J33 (x1 : Int32) (s0 : Int32) (K : Tr) (R : Tr) (P : Tr) (hR : (R 0 1 = 0 → R 0 2 = -1))   : Ep (fJ_X3_readLaw_J33 x1 s0 K R P) (fun q => (q.2.2.1 0 1 = 0 → q.2.2.1 0 2 = -1)) := by
  unfold fJ_X3_readLaw_J33
  refine Ep_bd (iv_expect K R s0 (1 : Int32) hR (by decide)) (fun q hq => ?_)
  refine Ep_lt (fun r6 er6 => ?_)
  refine Ep_lt (fun R_7 eR_7 => ?_)
  have hR_7 : (R_7 0 1 = 0 → R_7 0 2 = -1) := by rw [eR_7]; exact hq
  refine Ep_ite (fun _ => ?_) (fun _ => ?_)
  · exact Ep_some hR_7
  · refine Ep_ck ?_
    refine Ep_ite (fun _ => ?_) (fun _ => ?_)
    · exact ivJ_X3_readLaw_J61 x1 1 K R_7 P hR_7
    · exact ivJ_X3_readLaw_J61 x1 0 K R_7 P hR_7
set_option maxHeartbeats 1000000 in
set_option maxRecDepth 100000 in
theorem ivJ_X3_readLaw_J32 (x1 : Int32) (K : Tr) (R : Tr) (P : Tr) (hR : (R 0 1 = 0 → R 0 2 = -1))   : Ep (fJ_X3_readLaw_J32 x1 K R P) (fun q => (q.2.2.1 0 1 = 0 → q.2.2.1 0 2 = -1)) := by
  unfold fJ_X3_readLaw_J32
  exact ivJ_X3_readLaw_J33 x1 0 K R P hR
set_option maxHeartbeats 1000000 in
set_option maxRecDepth 100000 in
theorem iv_X3_readLaw (K : Tr) (R : Tr) (P : Tr) (hR : (R 0 1 = 0 → R 0 2 = -1))   : Ep (f_X3_readLaw K R P) (fun q => (q.2.2.1 0 1 = 0 → q.2.2.1 0 2 = -1)) := by
  unfold f_X3_readLaw
  refine Ep_any (fun K_1 => ?_)
  refine Ep_lt (fun y4 ey4 => ?_)
  refine Ep_ite (fun _ => ?_) (fun _ => ?_)
  · exact ivJ_X3_readLaw_J32 y4 K_1 R P hR
  · refine Ep_ite (fun _ => ?_) (fun _ => ?_)
    · exact ivJ_X3_readLaw_J32 y4 K_1 R P hR
    · exact ivJ_X3_readLaw_J33 y4 1 K_1 R P hR
set_option maxHeartbeats 1000000 in
set_option maxRecDepth 100000 in
theorem iv_X3_readLine (K : Tr) (R : Tr) (P : Tr) (hR : (R 0 1 = 0 → R 0 2 = -1))   : Ep (f_X3_readLine K R P) (fun q => (q.2.2.1 0 1 = 0 → q.2.2.1 0 2 = -1)) := by
  unfold f_X3_readLine
  refine Ep_lt (fun y1 ey1 => ?_)
  refine Ep_ite (fun _ => ?_) (fun _ => ?_)
  · refine Ep_bd (iv_X3_readPlace K R P hR) (fun q hq => ?_)
    refine Ep_lt (fun r3 er3 => ?_)
    refine Ep_lt (fun K_4 eK_4 => ?_)
    refine Ep_lt (fun R_5 eR_5 => ?_)
    have hR_5 : (R_5 0 1 = 0 → R_5 0 2 = -1) := by rw [eR_5]; exact hq
    refine Ep_lt (fun P_6 eP_6 => ?_)
    refine Ep_ck ?_
    exact Ep_some hR_5
  · refine Ep_ite (fun _ => ?_) (fun _ => ?_)
    · refine Ep_bd (iv_X3_readPerson K R P hR) (fun q hq => ?_)
      refine Ep_lt (fun r11 er11 => ?_)
      refine Ep_lt (fun K_12 eK_12 => ?_)
      refine Ep_lt (fun R_13 eR_13 => ?_)
      have hR_13 : (R_13 0 1 = 0 → R_13 0 2 = -1) := by rw [eR_13]; exact hq
      refine Ep_lt (fun P_14 eP_14 => ?_)
      refine Ep_ck ?_
      exact Ep_some hR_13
    · refine Ep_ite (fun _ => ?_) (fun _ => ?_)
      · refine Ep_bd (iv_X3_readPiece K R P hR) (fun q hq => ?_)
        refine Ep_lt (fun r19 er19 => ?_)
        refine Ep_lt (fun K_20 eK_20 => ?_)
        refine Ep_lt (fun R_21 eR_21 => ?_)
        have hR_21 : (R_21 0 1 = 0 → R_21 0 2 = -1) := by rw [eR_21]; exact hq
        refine Ep_lt (fun P_22 eP_22 => ?_)
        refine Ep_ck ?_
        exact Ep_some hR_21
      · refine Ep_ite (fun _ => ?_) (fun _ => ?_)
        · refine Ep_bd (iv_X3_readWait K R P hR) (fun q hq => ?_)
          refine Ep_lt (fun r27 er27 => ?_)
          refine Ep_lt (fun K_28 eK_28 => ?_)
          refine Ep_lt (fun R_29 eR_29 => ?_)
          have hR_29 : (R_29 0 1 = 0 → R_29 0 2 = -1) := by rw [eR_29]; exact hq
          refine Ep_lt (fun P_30 eP_30 => ?_)
          refine Ep_ck ?_
          exact Ep_some hR_29
        · refine Ep_ite (fun _ => ?_) (fun _ => ?_)
          · refine Ep_bd (iv_X3_readRule K R P hR) (fun q hq => ?_)
            refine Ep_lt (fun r35 er35 => ?_)
            refine Ep_lt (fun K_36 eK_36 => ?_)
            refine Ep_lt (fun R_37 eR_37 => ?_)
            have hR_37 : (R_37 0 1 = 0 → R_37 0 2 = -1) := by rw [eR_37]; exact hq
            refine Ep_lt (fun P_38 eP_38 => ?_)
            refine Ep_ck ?_
            exact Ep_some hR_37
          · refine Ep_ite (fun _ => ?_) (fun _ => ?_)
            · refine Ep_bd (iv_X3_readCurve K R P hR) (fun q hq => ?_)
              refine Ep_lt (fun r43 er43 => ?_)
              refine Ep_lt (fun K_44 eK_44 => ?_)
              refine Ep_lt (fun R_45 eR_45 => ?_)
              have hR_45 : (R_45 0 1 = 0 → R_45 0 2 = -1) := by rw [eR_45]; exact hq
              refine Ep_lt (fun P_46 eP_46 => ?_)
              refine Ep_ck ?_
              exact Ep_some hR_45
            · refine Ep_ite (fun _ => ?_) (fun _ => ?_)
              · refine Ep_bd (iv_X3_readSeed K R P hR) (fun q hq => ?_)
                refine Ep_lt (fun r51 er51 => ?_)
                refine Ep_lt (fun K_52 eK_52 => ?_)
                refine Ep_lt (fun R_53 eR_53 => ?_)
                have hR_53 : (R_53 0 1 = 0 → R_53 0 2 = -1) := by rw [eR_53]; exact hq
                refine Ep_lt (fun P_54 eP_54 => ?_)
                refine Ep_ck ?_
                exact Ep_some hR_53
              · refine Ep_ite (fun _ => ?_) (fun _ => ?_)
                · refine Ep_bd (iv_X3_readLaw K R P hR) (fun q hq => ?_)
                  refine Ep_lt (fun r59 er59 => ?_)
                  refine Ep_lt (fun K_60 eK_60 => ?_)
                  refine Ep_lt (fun R_61 eR_61 => ?_)
                  have hR_61 : (R_61 0 1 = 0 → R_61 0 2 = -1) := by rw [eR_61]; exact hq
                  refine Ep_lt (fun P_62 eP_62 => ?_)
                  refine Ep_ck ?_
                  exact Ep_some hR_61
                · refine Ep_bd (iv_expect K R (0 : Int32) (1 : Int32) hR (by decide)) (fun q hq => ?_)
                  refine Ep_lt (fun r66 er66 => ?_)
                  refine Ep_lt (fun R_67 eR_67 => ?_)
                  have hR_67 : (R_67 0 1 = 0 → R_67 0 2 = -1) := by rw [eR_67]; exact hq
                  refine Ep_ck ?_
                  exact Ep_some hR_67
set_option maxHeartbeats 1000000 in
set_option maxRecDepth 100000 in
theorem ivJ_X3_readText_J93 (k42 : Int32 → Tr → Tr → Tr → Option (Int32 × Tr × Tr × Tr)) (x2 : Int32) (s0 : Int32) (K : Tr) (R : Tr) (P : Tr) (hR : (R 0 1 = 0 → R 0 2 = -1)) (hk42 : ∀ (x2 : Int32) (K : Tr) (R : Tr) (P : Tr), (R 0 1 = 0 → R 0 2 = -1) → Ep (k42 x2 K R P) (fun q => (q.2.2.1 0 1 = 0 → q.2.2.1 0 2 = -1)))  : Ep (fJ_X3_readText_J93 k42 x2 s0 K R P) (fun q => (q.2.2.1 0 1 = 0 → q.2.2.1 0 2 = -1)) := by
  unfold fJ_X3_readText_J93
  refine Ep_bd (iv_expect K R s0 (1 : Int32) hR (by decide)) (fun q hq => ?_)
  refine Ep_lt (fun r25 er25 => ?_)
  refine Ep_lt (fun R_26 eR_26 => ?_)
  have hR_26 : (R_26 0 1 = 0 → R_26 0 2 = -1) := by rw [eR_26]; exact hq
  refine Ep_ite (fun _ => ?_) (fun _ => ?_)
  · refine Ep_lt (fun y30 ey30 => ?_)
    exact hk42 y30 K R_26 P hR_26
  · refine Ep_any (fun K_31 => ?_)
    refine Ep_lt (fun R_34 eR_34 => ?_)
    have hR_34 : (R_34 0 1 = 0 → R_34 0 2 = -1) := by rw [eR_34]; exact iv_st hR_26 (by omega)
    refine Ep_lt (fun y35 ey35 => ?_)
    exact hk42 y35 K_31 R_34 P hR_34
set_option maxHeartbeats 1000000 in
set_option maxRecDepth 100000 in
theorem ivB_X3_readText_L42     (N : Nat) : ∀ (x2 : Int32) (K : Tr) (R : Tr) (P : Tr), (R 0 1 = 0 → R 0 2 = -1) → Ep (lpF (fun _ _ _ _ => none) (fB_X3_readText_L42) N x2 K R P) (fun q => (q.2.2.1 0 1 = 0 → q.2.2.1 0 2 = -1)) := by
  induction N with
  | zero => intro x2 K R P _; exact Ep_none
  | succ N ih =>
    intro x2 K R P hR
    show Ep (fB_X3_readText_L42 (lpF (fun _ _ _ _ => none) (fB_X3_readText_L42) N) x2 K R P) _
    have hk42 := ih
    clear ih
    generalize lpF (fun _ _ _ _ => none) (fB_X3_readText_L42) N = k42 at hk42 ⊢
    unfold fB_X3_readText_L42
    refine Ep_ite (fun _ => ?_) (fun _ => ?_)
    · exact ivJ_X3_readText_J123 K R P hR
    · refine Ep_ite (fun _ => ?_) (fun _ => ?_)
      · refine Ep_ite (fun _ => ?_) (fun _ => ?_)
        · exact ivJ_X3_readText_J123 K R P hR
        · refine Ep_bd (iv_X3_readLine K R P hR) (fun q hq => ?_)
          refine Ep_lt (fun r16 er16 => ?_)
          refine Ep_lt (fun K_17 eK_17 => ?_)
          refine Ep_lt (fun R_18 eR_18 => ?_)
          have hR_18 : (R_18 0 1 = 0 → R_18 0 2 = -1) := by rw [eR_18]; exact hq
          refine Ep_lt (fun P_19 eP_19 => ?_)
          refine Ep_ite (fun _ => ?_) (fun _ => ?_)
          · refine Ep_lt (fun y23 ey23 => ?_)
            exact hk42 y23 K_17 R_18 P_19 hR_18
          · refine Ep_ite (fun _ => ?_) (fun _ => ?_)
            · exact ivJ_X3_readText_J93 k42 x2 1 K_17 R_18 P_19 hR_18 hk42
            · exact ivJ_X3_readText_J93 k42 x2 0 K_17 R_18 P_19 hR_18 hk42
      · exact ivJ_X3_readText_J123 K R P hR
set_option maxHeartbeats 1000000 in
set_option maxRecDepth 100000 in
theorem ivL_X3_readText_L42     (x2 : Int32) (K : Tr) (R : Tr) (P : Tr) (hR : (R 0 1 = 0 → R 0 2 = -1)) : Ep (fL_X3_readText_L42 x2 K R P) (fun q => (q.2.2.1 0 1 = 0 → q.2.2.1 0 2 = -1)) := by
  unfold fL_X3_readText_L42
  exact ivB_X3_readText_L42 2000 x2 K R P hR
