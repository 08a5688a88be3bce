/-! a token: what it may change -/
def aK (S S1 : Tr) : Prop := ∀ a j, (bif Nat.beq a 0 then (Nat.ble 7 j && Nat.ble j 10) else false) = false → S1 a j = S a j
theorem aK_rfl {S : Tr} : aK S S := fun _ _ _ => rfl
theorem aK_tr {S S1 S2 : Tr} (h1 : aK S S1) (h2 : aK S1 S2) : aK S S2 := fun a j h => (h2 a j h).trans (h1 a j h)
theorem aK_set {z S : Tr} {a i : Nat} {v : Int32} (h : aK z S) (hw : (bif Nat.beq a 0 then (Nat.ble 7 i && Nat.ble i 10) else false) = true) : aK z (st S a i v) := fun c j hf => by
  rcases st_or (S := S) (a := a) (i := i) (b := c) (j := j) (v := v) with e | ⟨e1, e2⟩
  · rw [e]; exact h c j hf
  · subst e1; subst e2; rw [hw] at hf; cases hf
set_option maxHeartbeats 1000000 in
set_option maxRecDepth 100000 in
theorem t_X8_signToken (S : Tr) (hS : iR BM S) (h7 : (S 0 7).toInt < (S 0 6).toInt) : D (f_X8_signToken S) (fun (q : Tr) => (iR BM q) ∧ (aK S q) ∧ ((q 0 7).toInt ≤ (q 0 6).toInt) ∧ (4 ≤ (q 0 8).toInt)) := by
  unfold f_X8_signToken
  have n1 : 0 ≤ (S 0 6).toInt ∧ (S 0 6).toInt ≤ 700 := hS 0 6
  have n2 : 0 ≤ (S 0 7).toInt ∧ (S 0 7).toInt ≤ 700 := hS 0 7
  refine D_ck (okI_of (by omega) (by omega)) ?_
  refine D_lt (fun S_3 eS_3 => ?_)
  have hS_3 : iR BM S_3 := by rw [eS_3]; exact iR_setU hS rfl
  have kaK_t4 : aK S S_3 := (by rw [eS_3]; exact aK_set aK_rfl rfl)
  have n5 : (S_3 0 7).toInt = (S 0 7).toInt := by rw [eS_3]; rfl
  have n6 : (S_3 0 6).toInt = (S 0 6).toInt := by rw [eS_3]; rfl
  have n7 := i_rng (S 1 (S 0 7).toNatClampNeg)
  have n8 : (S_3 0 9).toInt = (S 1 (S 0 7).toNatClampNeg).toInt := by rw [eS_3]; rfl
  have n10 : ((S_3 0 7) + 1).toInt = (S_3 0 7).toInt + 1 := i_addK rfl (by decide) (by omega) (by omega)
  refine D_lt (fun S_9 eS_9 => ?_)
  have hS_9 : iR BM S_9 := by rw [eS_9]; exact iR_set hS_3 (show (0 : Int) ≤ _ from (by omega)) (show _ ≤ (700 : Int) from (by omega))
  have kaK_t11 : aK S S_9 := (by rw [eS_9]; exact aK_set kaK_t4 rfl)
  have n12 : (S_9 0 9).toInt = (S_3 0 9).toInt := by rw [eS_9]; rfl
  have n13 : (S_9 0 6).toInt = (S_3 0 6).toInt := by rw [eS_9]; rfl
  have n14 : (S_9 0 7).toInt = ((S_3 0 7) + 1).toInt := by rw [eS_9]; rfl
  refine D_ite (fun c15 => ?_) (fun c15 => ?_)
  · have kc15 := tq_eq (x := (S_9 0 9)) (y := (60 : Int32)) rfl (b := 60) (by decide) c15
    unfold fJ_X8_signToken_J50
    refine D_ite (fun c16 => ?_) (fun c16 => ?_)
    · have kc16 := tq_le (x := (S_9 0 6)) (y := (S_9 0 7)) rfl rfl c16
      unfold fJ_X8_signToken_J74
      refine D_ite (fun c17 => ?_) (fun c17 => ?_)
      · have kc17 := tq_eq (x := (S_9 0 9)) (y := (61 : Int32)) rfl (b := 61) (by decide) c17
        exfalso
        exact (by clear h7 n1 n2 n5 n6 n10 n13 n14 kc16; omega)
      · skip
        have l0 : (0 : Int32).toInt = 0 := by decide
        have l61 : (61 : Int32).toInt = 61 := by decide
        refine D_ite (fun c18 => ?_) (fun c18 => ?_)
        · have kc18 := tq_eq (x := (0 : Int32)) (y := (61 : Int32)) (a := 0) (by decide) (b := 61) (by decide) c18
          exfalso
          exact (by clear h7 n1 n2 n5 n6 n7 n8 n10 n12 n13 n14 kc15 kc16; omega)
        · skip
          unfold fJ_X8_signToken_J94
          unfold fJ_X8_signToken_J95
          refine D_ite (fun c19 => ?_) (fun c19 => ?_)
          · have kc19 := tq_eq (x := (S_9 0 9)) (y := (60 : Int32)) rfl (b := 60) (by decide) c19
            have l62 : (62 : Int32).toInt = 62 := by decide
            refine D_ite (fun c20 => ?_) (fun c20 => ?_)
            · have kc20 := tq_eq (x := (0 : Int32)) (y := (62 : Int32)) (a := 0) (by decide) (b := 62) (by decide) c20
              exfalso
              exact (by clear h7 n1 n2 n5 n6 n7 n8 n10 n12 n13 n14 kc15 kc16 kc19; omega)
            · skip
              unfold fJ_X8_signToken_J115
              unfold fJ_X8_signToken_J116
              refine D_ite (fun c21 => ?_) (fun c21 => ?_)
              · have kc21 := tq_eq (x := (0 : Int32)) (y := (0 : Int32)) rfl rfl c21
                refine D_ite (fun c22 => ?_) (fun c22 => ?_)
                · have kc22 := tq_eq (x := (0 : Int32)) (y := (0 : Int32)) rfl rfl c22
                  unfold fJ_X8_signToken_J135
                  have l5 : (5 : Int32).toInt = 5 := by decide
                  refine D_lt (fun S_23 eS_23 => ?_)
                  have hS_23 : iR BM S_23 := by rw [eS_23]; exact iR_set hS_9 (show (0 : Int) ≤ _ from (by clear h7 n1 n2 n5 n6 n7 n8 n10 n12 n13 n14 kc15 kc16 kc19; omega)) (show _ ≤ (6 : Int) from (by clear h7 n1 n2 n5 n6 n7 n8 n10 n12 n13 n14 kc15 kc16 kc19; omega))
                  have kaK_t24 : aK S S_23 := (by rw [eS_23]; exact aK_set kaK_t11 rfl)
                  have n25 : (S_23 0 9).toInt = (S_9 0 9).toInt := by rw [eS_23]; rfl
                  have n26 : (S_23 0 7).toInt = (S_9 0 7).toInt := by rw [eS_23]; rfl
                  have n27 : (S_23 0 6).toInt = (S_9 0 6).toInt := by rw [eS_23]; rfl
                  have n28 : (S_23 0 8).toInt = (5 : Int32).toInt := by rw [eS_23]; rfl
                  refine D_ite (fun c29 => ?_) (fun c29 => ?_)
                  · have kc29 := tq_eq (x := (S_23 0 9)) (y := (61 : Int32)) rfl (b := 61) (by decide) c29
                    exfalso
                    exact (by clear h7 n1 n2 n5 n6 n10 n13 n14 kc16 n26 n27 n28; omega)
                  · skip
                    refine D_ite (fun c30 => ?_) (fun c30 => ?_)
                    · have kc30 := tq_eq (x := (S_23 0 9)) (y := (60 : Int32)) rfl (b := 60) (by decide) c30
                      refine D_ite (fun c31 => ?_) (fun c31 => ?_)
                      · have kc31 := tq_eq (x := (0 : Int32)) (y := (0 : Int32)) rfl rfl c31
                        refine D_ite (fun c32 => ?_) (fun c32 => ?_)
                        · have kc32 := tq_eq (x := (0 : Int32)) (y := (0 : Int32)) rfl rfl c32
                          unfold fJ_X8_signToken_J192
                          refine D_lt (fun S_33 eS_33 => ?_)
                          have hS_33 : iR BM S_33 := by rw [eS_33]; exact iR_setU hS_23 rfl
                          have kaK_t34 : aK S S_33 := (by rw [eS_33]; exact aK_set kaK_t24 rfl)
                          have n35 : (S_33 0 7).toInt = (S_23 0 7).toInt := by rw [eS_33]; rfl
                          have n36 : (S_33 0 8).toInt = (S_23 0 8).toInt := by rw [eS_33]; rfl
                          have n37 : (S_33 0 6).toInt = (S_23 0 6).toInt := by rw [eS_33]; rfl
                          have n38 : (S_33 0 9).toInt = (0 : Int32).toInt := by rw [eS_33]; rfl
                          exact D_some (show (iR BM S_33) ∧ (aK S S_33) ∧ ((S_33 0 7).toInt ≤ (S_33 0 6).toInt) ∧ (4 ≤ (S_33 0 8).toInt) from ⟨hS_33, kaK_t34, (by clear n7 n8 n12 kc15 kc19 n25 n28 kc30 n36 n38; omega), (by clear h7 n1 n2 n5 n6 n7 n8 n10 n12 n13 n14 kc15 kc16 kc19 n25 n26 n27 kc30 n35 n37 n38; omega)⟩)
                        · have kc320 := tq_eqn (x := (0 : Int32)) (y := (0 : Int32)) rfl rfl c32
                          have kc32 : 1 ≤ (0 : Int32).toInt := (by clear h7 n1 n2 n5 n6 n7 n8 n10 n12 n13 n14 kc15 kc16 kc19 n25 n26 n27 n28 kc30; omega)
                          clear kc320
                          exfalso
                          exact (by clear h7 n1 n2 n5 n6 n7 n8 n10 n12 n13 n14 kc15 kc16 kc19 n25 n26 n27 n28 kc30; omega)
                      · have kc310 := tq_eqn (x := (0 : Int32)) (y := (0 : Int32)) rfl rfl c31
                        have kc31 : 1 ≤ (0 : Int32).toInt := (by clear h7 n1 n2 n5 n6 n7 n8 n10 n12 n13 n14 kc15 kc16 kc19 n25 n26 n27 n28 kc30; omega)
                        clear kc310
                        exfalso
                        exact (by clear h7 n1 n2 n5 n6 n7 n8 n10 n12 n13 n14 kc15 kc16 kc19 n25 n26 n27 n28 kc30; omega)
                    · have kc300 := tq_eqn (x := (S_23 0 9)) (y := (60 : Int32)) rfl (b := 60) (by decide) c30
                      have kc30 : 61 ≤ (S_23 0 9).toInt := (by clear h7 n1 n2 n5 n6 n10 n13 n14 kc16 n26 n27 n28; omega)
                      clear kc300
                      exfalso
                      exact (by clear h7 n1 n2 n5 n6 n10 n13 n14 kc16 n26 n27 n28; omega)
                · have kc220 := tq_eqn (x := (0 : Int32)) (y := (0 : Int32)) rfl rfl c22
                  have kc22 : 1 ≤ (0 : Int32).toInt := (by clear h7 n1 n2 n5 n6 n7 n8 n10 n12 n13 n14 kc15 kc16 kc19; omega)
                  clear kc220
                  exfalso
                  exact (by clear h7 n1 n2 n5 n6 n7 n8 n10 n12 n13 n14 kc15 kc16 kc19; omega)
              · have kc210 := tq_eqn (x := (0 : Int32)) (y := (0 : Int32)) rfl rfl c21
                have kc21 : 1 ≤ (0 : Int32).toInt := (by clear h7 n1 n2 n5 n6 n7 n8 n10 n12 n13 n14 kc15 kc16 kc19; omega)
                clear kc210
                exfalso
                exact (by clear h7 n1 n2 n5 n6 n7 n8 n10 n12 n13 n14 kc15 kc16 kc19; omega)
          · have kc190 := tq_eqn (x := (S_9 0 9)) (y := (60 : Int32)) rfl (b := 60) (by decide) c19
            have kc19 : 61 ≤ (S_9 0 9).toInt := (by clear h7 n1 n2 n5 n6 n10 n13 n14 kc16; omega)
            clear kc190
            exfalso
            exact (by clear h7 n1 n2 n5 n6 n10 n13 n14 kc16; omega)
    · have kc16 := tq_len (x := (S_9 0 6)) (y := (S_9 0 7)) rfl rfl c16
      refine D_ck (okI_of (by clear n7 n8 n12 kc15; omega) (by clear n7 n8 n12 kc15; omega)) ?_
      unfold fJ_X8_signToken_J74
      refine D_ite (fun c39 => ?_) (fun c39 => ?_)
      · have kc39 := tq_eq (x := (S_9 0 9)) (y := (61 : Int32)) rfl (b := 61) (by decide) c39
        exfalso
        exact (by clear h7 n1 n2 n5 n6 n10 n13 n14 kc16; omega)
      · skip
        have n41 := i_rng (S_9 1 (S_9 0 7).toNatClampNeg)
        refine D_ite (fun c40 => ?_) (fun c40 => ?_)
        · have kc40 := tq_eq (x := (S_9 1 (S_9 0 7).toNatClampNeg)) (y := (61 : Int32)) rfl (b := 61) (by decide) c40
          unfold fJ_X8_signToken_J95
          refine D_ite (fun c42 => ?_) (fun c42 => ?_)
          · have kc42 := tq_eq (x := (S_9 0 9)) (y := (60 : Int32)) rfl (b := 60) (by decide) c42
            refine D_ite (fun c43 => ?_) (fun c43 => ?_)
            · have kc43 := tq_eq (x := (S_9 1 (S_9 0 7).toNatClampNeg)) (y := (62 : Int32)) rfl (b := 62) (by decide) c43
              exfalso
              exact (by clear h7 n1 n2 n5 n6 n7 n8 n10 n12 n13 n14 kc15 kc16 kc42; omega)
            · skip
              unfold fJ_X8_signToken_J115
              unfold fJ_X8_signToken_J116
              have l1 : (1 : Int32).toInt = 1 := by decide
              have l0 : (0 : Int32).toInt = 0 := by decide
              refine D_ite (fun c44 => ?_) (fun c44 => ?_)
              · have kc44 := tq_eq (x := (1 : Int32)) (y := (0 : Int32)) (a := 1) (by decide) (b := 0) (by decide) c44
                exfalso
                exact (by clear h7 n1 n2 n5 n6 n7 n8 n10 n12 n13 n14 kc15 kc16 n41 kc40 kc42; omega)
              · skip
                unfold fJ_X8_signToken_J125
                have n46 : ((S_9 0 7) + 1).toInt = (S_9 0 7).toInt + 1 := i_addK rfl (by decide) (by clear n7 n8 n12 kc15 n41 kc40 kc42; omega) (by clear n7 n8 n12 kc15 n41 kc40 kc42; omega)
                refine D_lt (fun S_45 eS_45 => ?_)
                have hS_45 : iR BM S_45 := by rw [eS_45]; exact iR_set hS_9 (show (0 : Int) ≤ _ from (by clear n7 n8 n12 kc15 n41 kc40 kc42; omega)) (show _ ≤ (700 : Int) from (by clear n7 n8 n12 kc15 n41 kc40 kc42; omega))
                have kaK_t47 : aK S S_45 := (by rw [eS_45]; exact aK_set kaK_t11 rfl)
                have n48 : (S_45 0 9).toInt = (S_9 0 9).toInt := by rw [eS_45]; rfl
                have n49 : (S_45 0 6).toInt = (S_9 0 6).toInt := by rw [eS_45]; rfl
                have n50 : (S_45 0 7).toInt = ((S_9 0 7) + 1).toInt := by rw [eS_45]; rfl
                unfold fJ_X8_signToken_J135
                have l5 : (5 : Int32).toInt = 5 := by decide
                refine D_lt (fun S_51 eS_51 => ?_)
                have hS_51 : iR BM S_51 := by rw [eS_51]; exact iR_set hS_45 (show (0 : Int) ≤ _ from (by clear h7 n1 n2 n5 n6 n7 n8 n10 n12 n13 n14 kc15 kc16 n41 kc40 kc42 n46 n48 n49 n50; omega)) (show _ ≤ (6 : Int) from (by clear h7 n1 n2 n5 n6 n7 n8 n10 n12 n13 n14 kc15 kc16 n41 kc40 kc42 n46 n48 n49 n50; omega))
                have kaK_t52 : aK S S_51 := (by rw [eS_51]; exact aK_set kaK_t47 rfl)
                have n53 : (S_51 0 7).toInt = (S_45 0 7).toInt := by rw [eS_51]; rfl
                have n54 : (S_51 0 9).toInt = (S_45 0 9).toInt := by rw [eS_51]; rfl
                have n55 : (S_51 0 6).toInt = (S_45 0 6).toInt := by rw [eS_51]; rfl
                have n56 : (S_51 0 8).toInt = (5 : Int32).toInt := by rw [eS_51]; rfl
                refine D_ite (fun c57 => ?_) (fun c57 => ?_)
                · have kc57 := tq_eq (x := (S_51 0 9)) (y := (61 : Int32)) rfl (b := 61) (by decide) c57
                  exfalso
                  exact (by clear h7 n1 n2 n5 n6 n10 n13 n14 kc16 n41 kc40 n46 n49 n50 n53 n55 n56; omega)
                · skip
                  refine D_ite (fun c58 => ?_) (fun c58 => ?_)
                  · have kc58 := tq_eq (x := (S_51 0 9)) (y := (60 : Int32)) rfl (b := 60) (by decide) c58
                    refine D_ite (fun c59 => ?_) (fun c59 => ?_)
                    · have kc59 := tq_eq (x := (1 : Int32)) (y := (0 : Int32)) (a := 1) (by decide) (b := 0) (by decide) c59
                      exfalso
                      exact (by clear h7 n1 n2 n5 n6 n7 n8 n10 n12 n13 n14 kc15 kc16 n41 kc40 kc42 n46 n48 n49 n50 n53 n54 n55 n56 kc58; omega)
                    · skip
                      unfold fJ_X8_signToken_J192
                      refine D_lt (fun S_60 eS_60 => ?_)
                      have hS_60 : iR BM S_60 := by rw [eS_60]; exact iR_setU hS_51 rfl
                      have kaK_t61 : aK S S_60 := (by rw [eS_60]; exact aK_set kaK_t52 rfl)
                      have n62 : (S_60 0 8).toInt = (S_51 0 8).toInt := by rw [eS_60]; rfl
                      have n63 : (S_60 0 7).toInt = (S_51 0 7).toInt := by rw [eS_60]; rfl
                      have n64 : (S_60 0 6).toInt = (S_51 0 6).toInt := by rw [eS_60]; rfl
                      have n65 : (S_60 0 9).toInt = (1 : Int32).toInt := by rw [eS_60]; rfl
                      exact D_some (show (iR BM S_60) ∧ (aK S S_60) ∧ ((S_60 0 7).toInt ≤ (S_60 0 6).toInt) ∧ (4 ≤ (S_60 0 8).toInt) from ⟨hS_60, kaK_t61, (by clear n7 n8 n12 kc15 n41 kc40 kc42 n48 n54 n56 kc58 n62 n65; omega), (by clear h7 n1 n2 n5 n6 n7 n8 n10 n12 n13 n14 kc15 kc16 n41 kc40 kc42 n46 n48 n49 n50 n53 n54 n55 kc58 n63 n64 n65; omega)⟩)
                  · have kc580 := tq_eqn (x := (S_51 0 9)) (y := (60 : Int32)) rfl (b := 60) (by decide) c58
                    have kc58 : 61 ≤ (S_51 0 9).toInt := (by clear h7 n1 n2 n5 n6 n10 n13 n14 kc16 n41 kc40 n46 n49 n50 n53 n55 n56; omega)
                    clear kc580
                    exfalso
                    exact (by clear h7 n1 n2 n5 n6 n10 n13 n14 kc16 n41 kc40 n46 n49 n50 n53 n55 n56; omega)
          · have kc420 := tq_eqn (x := (S_9 0 9)) (y := (60 : Int32)) rfl (b := 60) (by decide) c42
            have kc42 : 61 ≤ (S_9 0 9).toInt := (by clear h7 n1 n2 n5 n6 n10 n13 n14 kc16 n41 kc40; omega)
            clear kc420
            exfalso
            exact (by clear h7 n1 n2 n5 n6 n10 n13 n14 kc16 n41 kc40; omega)
        · skip
          unfold fJ_X8_signToken_J94
          unfold fJ_X8_signToken_J95
          refine D_ite (fun c66 => ?_) (fun c66 => ?_)
          · have kc66 := tq_eq (x := (S_9 0 9)) (y := (60 : Int32)) rfl (b := 60) (by decide) c66
            refine D_ite (fun c67 => ?_) (fun c67 => ?_)
            · have kc67 := tq_eq (x := (S_9 1 (S_9 0 7).toNatClampNeg)) (y := (62 : Int32)) rfl (b := 62) (by decide) c67
              unfold fJ_X8_signToken_J116
              have l0 : (0 : Int32).toInt = 0 := by decide
              refine D_ite (fun c68 => ?_) (fun c68 => ?_)
              · have kc68 := tq_eq (x := (0 : Int32)) (y := (0 : Int32)) rfl rfl c68
                have l1 : (1 : Int32).toInt = 1 := by decide
                refine D_ite (fun c69 => ?_) (fun c69 => ?_)
                · have kc69 := tq_eq (x := (1 : Int32)) (y := (0 : Int32)) (a := 1) (by decide) (b := 0) (by decide) c69
                  exfalso
                  exact (by clear h7 n1 n2 n5 n6 n7 n8 n10 n12 n13 n14 kc15 kc16 n41 kc66 kc67; omega)
                · skip
                  unfold fJ_X8_signToken_J125
                  have n71 : ((S_9 0 7) + 1).toInt = (S_9 0 7).toInt + 1 := i_addK rfl (by decide) (by clear n7 n8 n12 kc15 n41 kc66 kc67; omega) (by clear n7 n8 n12 kc15 n41 kc66 kc67; omega)
                  refine D_lt (fun S_70 eS_70 => ?_)
                  have hS_70 : iR BM S_70 := by rw [eS_70]; exact iR_set hS_9 (show (0 : Int) ≤ _ from (by clear n7 n8 n12 kc15 n41 kc66 kc67; omega)) (show _ ≤ (700 : Int) from (by clear n7 n8 n12 kc15 n41 kc66 kc67; omega))
                  have kaK_t72 : aK S S_70 := (by rw [eS_70]; exact aK_set kaK_t11 rfl)
                  have n73 : (S_70 0 9).toInt = (S_9 0 9).toInt := by rw [eS_70]; rfl
                  have n74 : (S_70 0 6).toInt = (S_9 0 6).toInt := by rw [eS_70]; rfl
                  have n75 : (S_70 0 7).toInt = ((S_9 0 7) + 1).toInt := by rw [eS_70]; rfl
                  unfold fJ_X8_signToken_J135
                  have l5 : (5 : Int32).toInt = 5 := by decide
                  refine D_lt (fun S_76 eS_76 => ?_)
                  have hS_76 : iR BM S_76 := by rw [eS_76]; exact iR_set hS_70 (show (0 : Int) ≤ _ from (by clear h7 n1 n2 n5 n6 n7 n8 n10 n12 n13 n14 kc15 kc16 n41 kc66 kc67 n71 n73 n74 n75; omega)) (show _ ≤ (6 : Int) from (by clear h7 n1 n2 n5 n6 n7 n8 n10 n12 n13 n14 kc15 kc16 n41 kc66 kc67 n71 n73 n74 n75; omega))
                  have kaK_t77 : aK S S_76 := (by rw [eS_76]; exact aK_set kaK_t72 rfl)
                  have n78 : (S_76 0 9).toInt = (S_70 0 9).toInt := by rw [eS_76]; rfl
                  have n79 : (S_76 0 7).toInt = (S_70 0 7).toInt := by rw [eS_76]; rfl
                  have n80 : (S_76 0 6).toInt = (S_70 0 6).toInt := by rw [eS_76]; rfl
                  have n81 : (S_76 0 8).toInt = (5 : Int32).toInt := by rw [eS_76]; rfl
                  refine D_ite (fun c82 => ?_) (fun c82 => ?_)
                  · have kc82 := tq_eq (x := (S_76 0 9)) (y := (61 : Int32)) rfl (b := 61) (by decide) c82
                    exfalso
                    exact (by clear h7 n1 n2 n5 n6 n10 n13 n14 kc16 n41 kc67 n71 n74 n75 n79 n80 n81; omega)
                  · skip
                    refine D_ite (fun c83 => ?_) (fun c83 => ?_)
                    · have kc83 := tq_eq (x := (S_76 0 9)) (y := (60 : Int32)) rfl (b := 60) (by decide) c83
                      refine D_ite (fun c84 => ?_) (fun c84 => ?_)
                      · have kc84 := tq_eq (x := (0 : Int32)) (y := (0 : Int32)) rfl rfl c84
                        refine D_ite (fun c85 => ?_) (fun c85 => ?_)
                        · have kc85 := tq_eq (x := (1 : Int32)) (y := (0 : Int32)) (a := 1) (by decide) (b := 0) (by decide) c85
                          exfalso
                          exact (by clear h7 n1 n2 n5 n6 n7 n8 n10 n12 n13 n14 kc15 kc16 n41 kc66 kc67 n71 n73 n74 n75 n78 n79 n80 n81 kc83; omega)
                        · skip
                          unfold fJ_X8_signToken_J192
                          refine D_lt (fun S_86 eS_86 => ?_)
                          have hS_86 : iR BM S_86 := by rw [eS_86]; exact iR_setU hS_76 rfl
                          have kaK_t87 : aK S S_86 := (by rw [eS_86]; exact aK_set kaK_t77 rfl)
                          have n88 : (S_86 0 8).toInt = (S_76 0 8).toInt := by rw [eS_86]; rfl
                          have n89 : (S_86 0 6).toInt = (S_76 0 6).toInt := by rw [eS_86]; rfl
                          have n90 : (S_86 0 7).toInt = (S_76 0 7).toInt := by rw [eS_86]; rfl
                          have l3 : (3 : Int32).toInt = 3 := by decide
                          have n91 : (S_86 0 9).toInt = (3 : Int32).toInt := by rw [eS_86]; rfl
                          exact D_some (show (iR BM S_86) ∧ (aK S S_86) ∧ ((S_86 0 7).toInt ≤ (S_86 0 6).toInt) ∧ (4 ≤ (S_86 0 8).toInt) from ⟨hS_86, kaK_t87, (by clear n7 n8 n12 kc15 n41 kc66 kc67 n73 n78 n81 kc83 n88 n91; omega), (by clear h7 n1 n2 n5 n6 n7 n8 n10 n12 n13 n14 kc15 kc16 n41 kc66 kc67 n71 n73 n74 n75 n78 n79 n80 kc83 n89 n90 n91; omega)⟩)
                      · have kc840 := tq_eqn (x := (0 : Int32)) (y := (0 : Int32)) rfl rfl c84
                        have kc84 : 1 ≤ (0 : Int32).toInt := (by clear h7 n1 n2 n5 n6 n7 n8 n10 n12 n13 n14 kc15 kc16 n41 kc66 kc67 n71 n73 n74 n75 n78 n79 n80 n81 kc83; omega)
                        clear kc840
                        exfalso
                        exact (by clear h7 n1 n2 n5 n6 n7 n8 n10 n12 n13 n14 kc15 kc16 n41 kc66 kc67 n71 n73 n74 n75 n78 n79 n80 n81 kc83; omega)
                    · have kc830 := tq_eqn (x := (S_76 0 9)) (y := (60 : Int32)) rfl (b := 60) (by decide) c83
                      have kc83 : 61 ≤ (S_76 0 9).toInt := (by clear h7 n1 n2 n5 n6 n10 n13 n14 kc16 n41 kc67 n71 n74 n75 n79 n80 n81; omega)
                      clear kc830
                      exfalso
                      exact (by clear h7 n1 n2 n5 n6 n10 n13 n14 kc16 n41 kc67 n71 n74 n75 n79 n80 n81; omega)
              · have kc680 := tq_eqn (x := (0 : Int32)) (y := (0 : Int32)) rfl rfl c68
                have kc68 : 1 ≤ (0 : Int32).toInt := (by clear h7 n1 n2 n5 n6 n7 n8 n10 n12 n13 n14 kc15 kc16 n41 kc66 kc67; omega)
                clear kc680
                exfalso
                exact (by clear h7 n1 n2 n5 n6 n7 n8 n10 n12 n13 n14 kc15 kc16 n41 kc66 kc67; omega)
            · skip
              unfold fJ_X8_signToken_J115
              unfold fJ_X8_signToken_J116
              have l0 : (0 : Int32).toInt = 0 := by decide
              refine D_ite (fun c92 => ?_) (fun c92 => ?_)
              · have kc92 := tq_eq (x := (0 : Int32)) (y := (0 : Int32)) rfl rfl c92
                refine D_ite (fun c93 => ?_) (fun c93 => ?_)
                · have kc93 := tq_eq (x := (0 : Int32)) (y := (0 : Int32)) rfl rfl c93
                  unfold fJ_X8_signToken_J135
                  have l5 : (5 : Int32).toInt = 5 := by decide
                  refine D_lt (fun S_94 eS_94 => ?_)
                  have hS_94 : iR BM S_94 := by rw [eS_94]; exact iR_set hS_9 (show (0 : Int) ≤ _ from (by clear h7 n1 n2 n5 n6 n7 n8 n10 n12 n13 n14 kc15 kc16 n41 kc66; omega)) (show _ ≤ (6 : Int) from (by clear h7 n1 n2 n5 n6 n7 n8 n10 n12 n13 n14 kc15 kc16 n41 kc66; omega))
                  have kaK_t95 : aK S S_94 := (by rw [eS_94]; exact aK_set kaK_t11 rfl)
                  have n96 : (S_94 0 9).toInt = (S_9 0 9).toInt := by rw [eS_94]; rfl
                  have n97 : (S_94 0 7).toInt = (S_9 0 7).toInt := by rw [eS_94]; rfl
                  have n98 : (S_94 0 6).toInt = (S_9 0 6).toInt := by rw [eS_94]; rfl
                  have n99 : (S_94 0 8).toInt = (5 : Int32).toInt := by rw [eS_94]; rfl
                  refine D_ite (fun c100 => ?_) (fun c100 => ?_)
                  · have kc100 := tq_eq (x := (S_94 0 9)) (y := (61 : Int32)) rfl (b := 61) (by decide) c100
                    exfalso
                    exact (by clear h7 n1 n2 n5 n6 n10 n13 n14 kc16 n41 n97 n98 n99; omega)
                  · skip
                    refine D_ite (fun c101 => ?_) (fun c101 => ?_)
                    · have kc101 := tq_eq (x := (S_94 0 9)) (y := (60 : Int32)) rfl (b := 60) (by decide) c101
                      refine D_ite (fun c102 => ?_) (fun c102 => ?_)
                      · have kc102 := tq_eq (x := (0 : Int32)) (y := (0 : Int32)) rfl rfl c102
                        refine D_ite (fun c103 => ?_) (fun c103 => ?_)
                        · have kc103 := tq_eq (x := (0 : Int32)) (y := (0 : Int32)) rfl rfl c103
                          unfold fJ_X8_signToken_J192
                          refine D_lt (fun S_104 eS_104 => ?_)
                          have hS_104 : iR BM S_104 := by rw [eS_104]; exact iR_setU hS_94 rfl
                          have kaK_t105 : aK S S_104 := (by rw [eS_104]; exact aK_set kaK_t95 rfl)
                          have n106 : (S_104 0 6).toInt = (S_94 0 6).toInt := by rw [eS_104]; rfl
                          have n107 : (S_104 0 7).toInt = (S_94 0 7).toInt := by rw [eS_104]; rfl
                          have n108 : (S_104 0 8).toInt = (S_94 0 8).toInt := by rw [eS_104]; rfl
                          have n109 : (S_104 0 9).toInt = (0 : Int32).toInt := by rw [eS_104]; rfl
                          exact D_some (show (iR BM S_104) ∧ (aK S S_104) ∧ ((S_104 0 7).toInt ≤ (S_104 0 6).toInt) ∧ (4 ≤ (S_104 0 8).toInt) from ⟨hS_104, kaK_t105, (by clear n7 n8 n12 kc15 n41 kc66 n96 n99 kc101 n108 n109; omega), (by clear h7 n1 n2 n5 n6 n7 n8 n10 n12 n13 n14 kc15 kc16 n41 kc66 n96 n97 n98 kc101 n106 n107 n109; omega)⟩)
                        · have kc1030 := tq_eqn (x := (0 : Int32)) (y := (0 : Int32)) rfl rfl c103
                          have kc103 : 1 ≤ (0 : Int32).toInt := (by clear h7 n1 n2 n5 n6 n7 n8 n10 n12 n13 n14 kc15 kc16 n41 kc66 n96 n97 n98 n99 kc101; omega)
                          clear kc1030
                          exfalso
                          exact (by clear h7 n1 n2 n5 n6 n7 n8 n10 n12 n13 n14 kc15 kc16 n41 kc66 n96 n97 n98 n99 kc101; omega)
                      · have kc1020 := tq_eqn (x := (0 : Int32)) (y := (0 : Int32)) rfl rfl c102
                        have kc102 : 1 ≤ (0 : Int32).toInt := (by clear h7 n1 n2 n5 n6 n7 n8 n10 n12 n13 n14 kc15 kc16 n41 kc66 n96 n97 n98 n99 kc101; omega)
                        clear kc1020
                        exfalso
                        exact (by clear h7 n1 n2 n5 n6 n7 n8 n10 n12 n13 n14 kc15 kc16 n41 kc66 n96 n97 n98 n99 kc101; omega)
                    · have kc1010 := tq_eqn (x := (S_94 0 9)) (y := (60 : Int32)) rfl (b := 60) (by decide) c101
                      have kc101 : 61 ≤ (S_94 0 9).toInt := (by clear h7 n1 n2 n5 n6 n10 n13 n14 kc16 n41 n97 n98 n99; omega)
                      clear kc1010
                      exfalso
                      exact (by clear h7 n1 n2 n5 n6 n10 n13 n14 kc16 n41 n97 n98 n99; omega)
                · have kc930 := tq_eqn (x := (0 : Int32)) (y := (0 : Int32)) rfl rfl c93
                  have kc93 : 1 ≤ (0 : Int32).toInt := (by clear h7 n1 n2 n5 n6 n7 n8 n10 n12 n13 n14 kc15 kc16 n41 kc66; omega)
                  clear kc930
                  exfalso
                  exact (by clear h7 n1 n2 n5 n6 n7 n8 n10 n12 n13 n14 kc15 kc16 n41 kc66; omega)
              · have kc920 := tq_eqn (x := (0 : Int32)) (y := (0 : Int32)) rfl rfl c92
                have kc92 : 1 ≤ (0 : Int32).toInt := (by clear h7 n1 n2 n5 n6 n7 n8 n10 n12 n13 n14 kc15 kc16 n41 kc66; omega)
                clear kc920
                exfalso
                exact (by clear h7 n1 n2 n5 n6 n7 n8 n10 n12 n13 n14 kc15 kc16 n41 kc66; omega)
          · have kc660 := tq_eqn (x := (S_9 0 9)) (y := (60 : Int32)) rfl (b := 60) (by decide) c66
            have kc66 : 61 ≤ (S_9 0 9).toInt := (by clear h7 n1 n2 n5 n6 n10 n13 n14 kc16 n41; omega)
            clear kc660
            exfalso
            exact (by clear h7 n1 n2 n5 n6 n10 n13 n14 kc16 n41; omega)
  · skip
    refine D_ite (fun c110 => ?_) (fun c110 => ?_)
    · have kc110 := tq_eq (x := (S_9 0 9)) (y := (62 : Int32)) rfl (b := 62) (by decide) c110
      unfold fJ_X8_signToken_J50
      refine D_ite (fun c111 => ?_) (fun c111 => ?_)
      · have kc111 := tq_le (x := (S_9 0 6)) (y := (S_9 0 7)) rfl rfl c111
        unfold fJ_X8_signToken_J74
        refine D_ite (fun c112 => ?_) (fun c112 => ?_)
        · have kc112 := tq_eq (x := (S_9 0 9)) (y := (61 : Int32)) rfl (b := 61) (by decide) c112
          exfalso
          exact (by clear h7 n1 n2 n5 n6 n10 n13 n14 kc111; omega)
        · skip
          have l0 : (0 : Int32).toInt = 0 := by decide
          have l61 : (61 : Int32).toInt = 61 := by decide
          refine D_ite (fun c113 => ?_) (fun c113 => ?_)
          · have kc113 := tq_eq (x := (0 : Int32)) (y := (61 : Int32)) (a := 0) (by decide) (b := 61) (by decide) c113
            exfalso
            exact (by clear h7 n1 n2 n5 n6 n7 n8 n10 n12 n13 n14 kc110 kc111; omega)
          · skip
            unfold fJ_X8_signToken_J94
            unfold fJ_X8_signToken_J95
            refine D_ite (fun c114 => ?_) (fun c114 => ?_)
            · have kc114 := tq_eq (x := (S_9 0 9)) (y := (60 : Int32)) rfl (b := 60) (by decide) c114
              exfalso
              exact (by clear h7 n1 n2 n5 n6 n10 n13 n14 kc111; omega)
            · skip
              unfold fJ_X8_signToken_J115
              unfold fJ_X8_signToken_J116
              refine D_ite (fun c115 => ?_) (fun c115 => ?_)
              · have kc115 := tq_eq (x := (0 : Int32)) (y := (0 : Int32)) rfl rfl c115
                refine D_ite (fun c116 => ?_) (fun c116 => ?_)
                · have kc116 := tq_eq (x := (0 : Int32)) (y := (0 : Int32)) rfl rfl c116
                  unfold fJ_X8_signToken_J135
                  have l5 : (5 : Int32).toInt = 5 := by decide
                  refine D_lt (fun S_117 eS_117 => ?_)
                  have hS_117 : iR BM S_117 := by rw [eS_117]; exact iR_set hS_9 (show (0 : Int) ≤ _ from (by clear h7 n1 n2 n5 n6 n7 n8 n10 n12 n13 n14 kc110 kc111; omega)) (show _ ≤ (6 : Int) from (by clear h7 n1 n2 n5 n6 n7 n8 n10 n12 n13 n14 kc110 kc111; omega))
                  have kaK_t118 : aK S S_117 := (by rw [eS_117]; exact aK_set kaK_t11 rfl)
                  have n119 : (S_117 0 9).toInt = (S_9 0 9).toInt := by rw [eS_117]; rfl
                  have n120 : (S_117 0 7).toInt = (S_9 0 7).toInt := by rw [eS_117]; rfl
                  have n121 : (S_117 0 6).toInt = (S_9 0 6).toInt := by rw [eS_117]; rfl
                  have n122 : (S_117 0 8).toInt = (5 : Int32).toInt := by rw [eS_117]; rfl
                  refine D_ite (fun c123 => ?_) (fun c123 => ?_)
                  · have kc123 := tq_eq (x := (S_117 0 9)) (y := (61 : Int32)) rfl (b := 61) (by decide) c123
                    exfalso
                    exact (by clear h7 n1 n2 n5 n6 n10 n13 n14 kc111 n120 n121 n122; omega)
                  · skip
                    refine D_ite (fun c124 => ?_) (fun c124 => ?_)
                    · have kc124 := tq_eq (x := (S_117 0 9)) (y := (60 : Int32)) rfl (b := 60) (by decide) c124
                      exfalso
                      exact (by clear h7 n1 n2 n5 n6 n10 n13 n14 kc111 n120 n121 n122; omega)
                    · skip
                      refine D_ite (fun c125 => ?_) (fun c125 => ?_)
                      · have kc125 := tq_eq (x := (0 : Int32)) (y := (0 : Int32)) rfl rfl c125
                        unfold fJ_X8_signToken_J192
                        refine D_lt (fun S_126 eS_126 => ?_)
                        have hS_126 : iR BM S_126 := by rw [eS_126]; exact iR_setU hS_117 rfl
                        have kaK_t127 : aK S S_126 := (by rw [eS_126]; exact aK_set kaK_t118 rfl)
                        have n128 : (S_126 0 6).toInt = (S_117 0 6).toInt := by rw [eS_126]; rfl
                        have n129 : (S_126 0 8).toInt = (S_117 0 8).toInt := by rw [eS_126]; rfl
                        have n130 : (S_126 0 7).toInt = (S_117 0 7).toInt := by rw [eS_126]; rfl
                        have n131 : (S_126 0 9).toInt = (5 : Int32).toInt := by rw [eS_126]; rfl
                        exact D_some (show (iR BM S_126) ∧ (aK S S_126) ∧ ((S_126 0 7).toInt ≤ (S_126 0 6).toInt) ∧ (4 ≤ (S_126 0 8).toInt) from ⟨hS_126, kaK_t127, (by clear n7 n8 n12 kc110 n119 n122 n129 n131; omega), (by clear h7 n1 n2 n5 n6 n7 n8 n10 n12 n13 n14 kc110 kc111 n119 n120 n121 n128 n130 n131; omega)⟩)
                      · have kc1250 := tq_eqn (x := (0 : Int32)) (y := (0 : Int32)) rfl rfl c125
                        have kc125 : 1 ≤ (0 : Int32).toInt := (by clear h7 n1 n2 n5 n6 n7 n8 n10 n12 n13 n14 kc110 kc111 n119 n120 n121 n122; omega)
                        clear kc1250
                        exfalso
                        exact (by clear h7 n1 n2 n5 n6 n7 n8 n10 n12 n13 n14 kc110 kc111 n119 n120 n121 n122; omega)
                · have kc1160 := tq_eqn (x := (0 : Int32)) (y := (0 : Int32)) rfl rfl c116
                  have kc116 : 1 ≤ (0 : Int32).toInt := (by clear h7 n1 n2 n5 n6 n7 n8 n10 n12 n13 n14 kc110 kc111; omega)
                  clear kc1160
                  exfalso
                  exact (by clear h7 n1 n2 n5 n6 n7 n8 n10 n12 n13 n14 kc110 kc111; omega)
              · have kc1150 := tq_eqn (x := (0 : Int32)) (y := (0 : Int32)) rfl rfl c115
                have kc115 : 1 ≤ (0 : Int32).toInt := (by clear h7 n1 n2 n5 n6 n7 n8 n10 n12 n13 n14 kc110 kc111; omega)
                clear kc1150
                exfalso
                exact (by clear h7 n1 n2 n5 n6 n7 n8 n10 n12 n13 n14 kc110 kc111; omega)
      · have kc111 := tq_len (x := (S_9 0 6)) (y := (S_9 0 7)) rfl rfl c111
        refine D_ck (okI_of (by clear n7 n8 n12 kc110; omega) (by clear n7 n8 n12 kc110; omega)) ?_
        unfold fJ_X8_signToken_J74
        refine D_ite (fun c132 => ?_) (fun c132 => ?_)
        · have kc132 := tq_eq (x := (S_9 0 9)) (y := (61 : Int32)) rfl (b := 61) (by decide) c132
          exfalso
          exact (by clear h7 n1 n2 n5 n6 n10 n13 n14 kc111; omega)
        · skip
          have n134 := i_rng (S_9 1 (S_9 0 7).toNatClampNeg)
          refine D_ite (fun c133 => ?_) (fun c133 => ?_)
          · have kc133 := tq_eq (x := (S_9 1 (S_9 0 7).toNatClampNeg)) (y := (61 : Int32)) rfl (b := 61) (by decide) c133
            unfold fJ_X8_signToken_J95
            refine D_ite (fun c135 => ?_) (fun c135 => ?_)
            · have kc135 := tq_eq (x := (S_9 0 9)) (y := (60 : Int32)) rfl (b := 60) (by decide) c135
              exfalso
              exact (by clear h7 n1 n2 n5 n6 n10 n13 n14 kc111 n134 kc133; omega)
            · skip
              unfold fJ_X8_signToken_J115
              unfold fJ_X8_signToken_J116
              have l1 : (1 : Int32).toInt = 1 := by decide
              have l0 : (0 : Int32).toInt = 0 := by decide
              refine D_ite (fun c136 => ?_) (fun c136 => ?_)
              · have kc136 := tq_eq (x := (1 : Int32)) (y := (0 : Int32)) (a := 1) (by decide) (b := 0) (by decide) c136
                exfalso
                exact (by clear h7 n1 n2 n5 n6 n7 n8 n10 n12 n13 n14 kc110 kc111 n134 kc133; omega)
              · skip
                unfold fJ_X8_signToken_J125
                have n138 : ((S_9 0 7) + 1).toInt = (S_9 0 7).toInt + 1 := i_addK rfl (by decide) (by clear n7 n8 n12 kc110 n134 kc133; omega) (by clear n7 n8 n12 kc110 n134 kc133; omega)
                refine D_lt (fun S_137 eS_137 => ?_)
                have hS_137 : iR BM S_137 := by rw [eS_137]; exact iR_set hS_9 (show (0 : Int) ≤ _ from (by clear n7 n8 n12 kc110 n134 kc133; omega)) (show _ ≤ (700 : Int) from (by clear n7 n8 n12 kc110 n134 kc133; omega))
                have kaK_t139 : aK S S_137 := (by rw [eS_137]; exact aK_set kaK_t11 rfl)
                have n140 : (S_137 0 9).toInt = (S_9 0 9).toInt := by rw [eS_137]; rfl
                have n141 : (S_137 0 6).toInt = (S_9 0 6).toInt := by rw [eS_137]; rfl
                have n142 : (S_137 0 7).toInt = ((S_9 0 7) + 1).toInt := by rw [eS_137]; rfl
                unfold fJ_X8_signToken_J135
                have l5 : (5 : Int32).toInt = 5 := by decide
                refine D_lt (fun S_143 eS_143 => ?_)
                have hS_143 : iR BM S_143 := by rw [eS_143]; exact iR_set hS_137 (show (0 : Int) ≤ _ from (by clear h7 n1 n2 n5 n6 n7 n8 n10 n12 n13 n14 kc110 kc111 n134 kc133 n138 n140 n141 n142; omega)) (show _ ≤ (6 : Int) from (by clear h7 n1 n2 n5 n6 n7 n8 n10 n12 n13 n14 kc110 kc111 n134 kc133 n138 n140 n141 n142; omega))
                have kaK_t144 : aK S S_143 := (by rw [eS_143]; exact aK_set kaK_t139 rfl)
                have n145 : (S_143 0 7).toInt = (S_137 0 7).toInt := by rw [eS_143]; rfl
                have n146 : (S_143 0 6).toInt = (S_137 0 6).toInt := by rw [eS_143]; rfl
                have n147 : (S_143 0 9).toInt = (S_137 0 9).toInt := by rw [eS_143]; rfl
                have n148 : (S_143 0 8).toInt = (5 : Int32).toInt := by rw [eS_143]; rfl
                refine D_ite (fun c149 => ?_) (fun c149 => ?_)
                · have kc149 := tq_eq (x := (S_143 0 9)) (y := (61 : Int32)) rfl (b := 61) (by decide) c149
                  exfalso
                  exact (by clear h7 n1 n2 n5 n6 n10 n13 n14 kc111 n134 kc133 n138 n141 n142 n145 n146 n148; omega)
                · skip
                  refine D_ite (fun c150 => ?_) (fun c150 => ?_)
                  · have kc150 := tq_eq (x := (S_143 0 9)) (y := (60 : Int32)) rfl (b := 60) (by decide) c150
                    exfalso
                    exact (by clear h7 n1 n2 n5 n6 n10 n13 n14 kc111 n134 kc133 n138 n141 n142 n145 n146 n148; omega)
                  · skip
                    refine D_ite (fun c151 => ?_) (fun c151 => ?_)
                    · have kc151 := tq_eq (x := (1 : Int32)) (y := (0 : Int32)) (a := 1) (by decide) (b := 0) (by decide) c151
                      exfalso
                      exact (by clear h7 n1 n2 n5 n6 n7 n8 n10 n12 n13 n14 kc110 kc111 n134 kc133 n138 n140 n141 n142 n145 n146 n147 n148; omega)
                    · skip
                      unfold fJ_X8_signToken_J192
                      refine D_lt (fun S_152 eS_152 => ?_)
                      have hS_152 : iR BM S_152 := by rw [eS_152]; exact iR_setU hS_143 rfl
                      have kaK_t153 : aK S S_152 := (by rw [eS_152]; exact aK_set kaK_t144 rfl)
                      have n154 : (S_152 0 8).toInt = (S_143 0 8).toInt := by rw [eS_152]; rfl
                      have n155 : (S_152 0 6).toInt = (S_143 0 6).toInt := by rw [eS_152]; rfl
                      have n156 : (S_152 0 7).toInt = (S_143 0 7).toInt := by rw [eS_152]; rfl
                      have l4 : (4 : Int32).toInt = 4 := by decide
                      have n157 : (S_152 0 9).toInt = (4 : Int32).toInt := by rw [eS_152]; rfl
                      exact D_some (show (iR BM S_152) ∧ (aK S S_152) ∧ ((S_152 0 7).toInt ≤ (S_152 0 6).toInt) ∧ (4 ≤ (S_152 0 8).toInt) from ⟨hS_152, kaK_t153, (by clear n7 n8 n12 kc110 n134 kc133 n140 n147 n148 n154 n157; omega), (by clear h7 n1 n2 n5 n6 n7 n8 n10 n12 n13 n14 kc110 kc111 n134 kc133 n138 n140 n141 n142 n145 n146 n147 n155 n156 n157; omega)⟩)
          · skip
            unfold fJ_X8_signToken_J94
            unfold fJ_X8_signToken_J95
            refine D_ite (fun c158 => ?_) (fun c158 => ?_)
            · have kc158 := tq_eq (x := (S_9 0 9)) (y := (60 : Int32)) rfl (b := 60) (by decide) c158
              exfalso
              exact (by clear h7 n1 n2 n5 n6 n10 n13 n14 kc111 n134; omega)
            · skip
              unfold fJ_X8_signToken_J115
              unfold fJ_X8_signToken_J116
              have l0 : (0 : Int32).toInt = 0 := by decide
              refine D_ite (fun c159 => ?_) (fun c159 => ?_)
              · have kc159 := tq_eq (x := (0 : Int32)) (y := (0 : Int32)) rfl rfl c159
                refine D_ite (fun c160 => ?_) (fun c160 => ?_)
                · have kc160 := tq_eq (x := (0 : Int32)) (y := (0 : Int32)) rfl rfl c160
                  unfold fJ_X8_signToken_J135
                  have l5 : (5 : Int32).toInt = 5 := by decide
                  refine D_lt (fun S_161 eS_161 => ?_)
                  have hS_161 : iR BM S_161 := by rw [eS_161]; exact iR_set hS_9 (show (0 : Int) ≤ _ from (by clear h7 n1 n2 n5 n6 n7 n8 n10 n12 n13 n14 kc110 kc111 n134; omega)) (show _ ≤ (6 : Int) from (by clear h7 n1 n2 n5 n6 n7 n8 n10 n12 n13 n14 kc110 kc111 n134; omega))
                  have kaK_t162 : aK S S_161 := (by rw [eS_161]; exact aK_set kaK_t11 rfl)
                  have n163 : (S_161 0 9).toInt = (S_9 0 9).toInt := by rw [eS_161]; rfl
                  have n164 : (S_161 0 7).toInt = (S_9 0 7).toInt := by rw [eS_161]; rfl
                  have n165 : (S_161 0 6).toInt = (S_9 0 6).toInt := by rw [eS_161]; rfl
                  have n166 : (S_161 0 8).toInt = (5 : Int32).toInt := by rw [eS_161]; rfl
                  refine D_ite (fun c167 => ?_) (fun c167 => ?_)
                  · have kc167 := tq_eq (x := (S_161 0 9)) (y := (61 : Int32)) rfl (b := 61) (by decide) c167
                    exfalso
                    exact (by clear h7 n1 n2 n5 n6 n10 n13 n14 kc111 n134 n164 n165 n166; omega)
                  · skip
                    refine D_ite (fun c168 => ?_) (fun c168 => ?_)
                    · have kc168 := tq_eq (x := (S_161 0 9)) (y := (60 : Int32)) rfl (b := 60) (by decide) c168
                      exfalso
                      exact (by clear h7 n1 n2 n5 n6 n10 n13 n14 kc111 n134 n164 n165 n166; omega)
                    · skip
                      refine D_ite (fun c169 => ?_) (fun c169 => ?_)
                      · have kc169 := tq_eq (x := (0 : Int32)) (y := (0 : Int32)) rfl rfl c169
                        unfold fJ_X8_signToken_J192
                        refine D_lt (fun S_170 eS_170 => ?_)
                        have hS_170 : iR BM S_170 := by rw [eS_170]; exact iR_setU hS_161 rfl
                        have kaK_t171 : aK S S_170 := (by rw [eS_170]; exact aK_set kaK_t162 rfl)
                        have n172 : (S_170 0 8).toInt = (S_161 0 8).toInt := by rw [eS_170]; rfl
                        have n173 : (S_170 0 7).toInt = (S_161 0 7).toInt := by rw [eS_170]; rfl
                        have n174 : (S_170 0 6).toInt = (S_161 0 6).toInt := by rw [eS_170]; rfl
                        have n175 : (S_170 0 9).toInt = (5 : Int32).toInt := by rw [eS_170]; rfl
                        exact D_some (show (iR BM S_170) ∧ (aK S S_170) ∧ ((S_170 0 7).toInt ≤ (S_170 0 6).toInt) ∧ (4 ≤ (S_170 0 8).toInt) from ⟨hS_170, kaK_t171, (by clear n7 n8 n12 kc110 n134 n163 n166 n172 n175; omega), (by clear h7 n1 n2 n5 n6 n7 n8 n10 n12 n13 n14 kc110 kc111 n134 n163 n164 n165 n173 n174 n175; omega)⟩)
                      · have kc1690 := tq_eqn (x := (0 : Int32)) (y := (0 : Int32)) rfl rfl c169
                        have kc169 : 1 ≤ (0 : Int32).toInt := (by clear h7 n1 n2 n5 n6 n7 n8 n10 n12 n13 n14 kc110 kc111 n134 n163 n164 n165 n166; omega)
                        clear kc1690
                        exfalso
                        exact (by clear h7 n1 n2 n5 n6 n7 n8 n10 n12 n13 n14 kc110 kc111 n134 n163 n164 n165 n166; omega)
                · have kc1600 := tq_eqn (x := (0 : Int32)) (y := (0 : Int32)) rfl rfl c160
                  have kc160 : 1 ≤ (0 : Int32).toInt := (by clear h7 n1 n2 n5 n6 n7 n8 n10 n12 n13 n14 kc110 kc111 n134; omega)
                  clear kc1600
                  exfalso
                  exact (by clear h7 n1 n2 n5 n6 n7 n8 n10 n12 n13 n14 kc110 kc111 n134; omega)
              · have kc1590 := tq_eqn (x := (0 : Int32)) (y := (0 : Int32)) rfl rfl c159
                have kc159 : 1 ≤ (0 : Int32).toInt := (by clear h7 n1 n2 n5 n6 n7 n8 n10 n12 n13 n14 kc110 kc111 n134; omega)
                clear kc1590
                exfalso
                exact (by clear h7 n1 n2 n5 n6 n7 n8 n10 n12 n13 n14 kc110 kc111 n134; omega)
    · skip
      refine D_ite (fun c176 => ?_) (fun c176 => ?_)
      · have kc176 := tq_eq (x := (S_9 0 9)) (y := (61 : Int32)) rfl (b := 61) (by decide) c176
        unfold fJ_X8_signToken_J50
        refine D_ite (fun c177 => ?_) (fun c177 => ?_)
        · have kc177 := tq_le (x := (S_9 0 6)) (y := (S_9 0 7)) rfl rfl c177
          unfold fJ_X8_signToken_J74
          refine D_ite (fun c178 => ?_) (fun c178 => ?_)
          · have kc178 := tq_eq (x := (S_9 0 9)) (y := (61 : Int32)) rfl (b := 61) (by decide) c178
            unfold fJ_X8_signToken_J94
            unfold fJ_X8_signToken_J95
            refine D_ite (fun c179 => ?_) (fun c179 => ?_)
            · have kc179 := tq_eq (x := (S_9 0 9)) (y := (60 : Int32)) rfl (b := 60) (by decide) c179
              exfalso
              exact (by clear h7 n1 n2 n5 n6 n10 n13 n14 kc177; omega)
            · skip
              unfold fJ_X8_signToken_J115
              unfold fJ_X8_signToken_J116
              have l0 : (0 : Int32).toInt = 0 := by decide
              refine D_ite (fun c180 => ?_) (fun c180 => ?_)
              · have kc180 := tq_eq (x := (0 : Int32)) (y := (0 : Int32)) rfl rfl c180
                refine D_ite (fun c181 => ?_) (fun c181 => ?_)
                · have kc181 := tq_eq (x := (0 : Int32)) (y := (0 : Int32)) rfl rfl c181
                  unfold fJ_X8_signToken_J135
                  have l5 : (5 : Int32).toInt = 5 := by decide
                  refine D_lt (fun S_182 eS_182 => ?_)
                  have hS_182 : iR BM S_182 := by rw [eS_182]; exact iR_set hS_9 (show (0 : Int) ≤ _ from (by clear h7 n1 n2 n5 n6 n7 n8 n10 n12 n13 n14 kc176 kc177 kc178; omega)) (show _ ≤ (6 : Int) from (by clear h7 n1 n2 n5 n6 n7 n8 n10 n12 n13 n14 kc176 kc177 kc178; omega))
                  have kaK_t183 : aK S S_182 := (by rw [eS_182]; exact aK_set kaK_t11 rfl)
                  have n184 : (S_182 0 9).toInt = (S_9 0 9).toInt := by rw [eS_182]; rfl
                  have n185 : (S_182 0 7).toInt = (S_9 0 7).toInt := by rw [eS_182]; rfl
                  have n186 : (S_182 0 6).toInt = (S_9 0 6).toInt := by rw [eS_182]; rfl
                  have n187 : (S_182 0 8).toInt = (5 : Int32).toInt := by rw [eS_182]; rfl
                  refine D_ite (fun c188 => ?_) (fun c188 => ?_)
                  · have kc188 := tq_eq (x := (S_182 0 9)) (y := (61 : Int32)) rfl (b := 61) (by decide) c188
                    unfold fJ_X8_signToken_J192
                    refine D_lt (fun S_189 eS_189 => ?_)
                    have hS_189 : iR BM S_189 := by rw [eS_189]; exact iR_setU hS_182 rfl
                    have kaK_t190 : aK S S_189 := (by rw [eS_189]; exact aK_set kaK_t183 rfl)
                    have n191 : (S_189 0 7).toInt = (S_182 0 7).toInt := by rw [eS_189]; rfl
                    have n192 : (S_189 0 8).toInt = (S_182 0 8).toInt := by rw [eS_189]; rfl
                    have n193 : (S_189 0 6).toInt = (S_182 0 6).toInt := by rw [eS_189]; rfl
                    have l2 : (2 : Int32).toInt = 2 := by decide
                    have n194 : (S_189 0 9).toInt = (2 : Int32).toInt := by rw [eS_189]; rfl
                    exact D_some (show (iR BM S_189) ∧ (aK S S_189) ∧ ((S_189 0 7).toInt ≤ (S_189 0 6).toInt) ∧ (4 ≤ (S_189 0 8).toInt) from ⟨hS_189, kaK_t190, (by clear n7 n8 n12 kc176 kc178 n184 n187 kc188 n192 n194; omega), (by clear h7 n1 n2 n5 n6 n7 n8 n10 n12 n13 n14 kc176 kc177 kc178 n184 n185 n186 kc188 n191 n193 n194; omega)⟩)
                  · have kc1880 := tq_eqn (x := (S_182 0 9)) (y := (61 : Int32)) rfl (b := 61) (by decide) c188
                    have kc188 : 62 ≤ (S_182 0 9).toInt := (by clear h7 n1 n2 n5 n6 n10 n13 n14 kc177 n185 n186 n187; omega)
                    clear kc1880
                    exfalso
                    exact (by clear h7 n1 n2 n5 n6 n10 n13 n14 kc177 n185 n186 n187; omega)
                · have kc1810 := tq_eqn (x := (0 : Int32)) (y := (0 : Int32)) rfl rfl c181
                  have kc181 : 1 ≤ (0 : Int32).toInt := (by clear h7 n1 n2 n5 n6 n7 n8 n10 n12 n13 n14 kc176 kc177 kc178; omega)
                  clear kc1810
                  exfalso
                  exact (by clear h7 n1 n2 n5 n6 n7 n8 n10 n12 n13 n14 kc176 kc177 kc178; omega)
              · have kc1800 := tq_eqn (x := (0 : Int32)) (y := (0 : Int32)) rfl rfl c180
                have kc180 : 1 ≤ (0 : Int32).toInt := (by clear h7 n1 n2 n5 n6 n7 n8 n10 n12 n13 n14 kc176 kc177 kc178; omega)
                clear kc1800
                exfalso
                exact (by clear h7 n1 n2 n5 n6 n7 n8 n10 n12 n13 n14 kc176 kc177 kc178; omega)
          · have kc1780 := tq_eqn (x := (S_9 0 9)) (y := (61 : Int32)) rfl (b := 61) (by decide) c178
            have kc178 : 62 ≤ (S_9 0 9).toInt := (by clear h7 n1 n2 n5 n6 n10 n13 n14 kc177; omega)
            clear kc1780
            exfalso
            exact (by clear h7 n1 n2 n5 n6 n10 n13 n14 kc177; omega)
        · have kc177 := tq_len (x := (S_9 0 6)) (y := (S_9 0 7)) rfl rfl c177
          refine D_ck (okI_of (by clear n7 n8 n12 kc176; omega) (by clear n7 n8 n12 kc176; omega)) ?_
          unfold fJ_X8_signToken_J74
          refine D_ite (fun c195 => ?_) (fun c195 => ?_)
          · have kc195 := tq_eq (x := (S_9 0 9)) (y := (61 : Int32)) rfl (b := 61) (by decide) c195
            unfold fJ_X8_signToken_J94
            unfold fJ_X8_signToken_J95
            refine D_ite (fun c196 => ?_) (fun c196 => ?_)
            · have kc196 := tq_eq (x := (S_9 0 9)) (y := (60 : Int32)) rfl (b := 60) (by decide) c196
              exfalso
              exact (by clear h7 n1 n2 n5 n6 n10 n13 n14 kc177; omega)
            · skip
              unfold fJ_X8_signToken_J115
              unfold fJ_X8_signToken_J116
              have l0 : (0 : Int32).toInt = 0 := by decide
              refine D_ite (fun c197 => ?_) (fun c197 => ?_)
              · have kc197 := tq_eq (x := (0 : Int32)) (y := (0 : Int32)) rfl rfl c197
                refine D_ite (fun c198 => ?_) (fun c198 => ?_)
                · have kc198 := tq_eq (x := (0 : Int32)) (y := (0 : Int32)) rfl rfl c198
                  unfold fJ_X8_signToken_J135
                  have l5 : (5 : Int32).toInt = 5 := by decide
                  refine D_lt (fun S_199 eS_199 => ?_)
                  have hS_199 : iR BM S_199 := by rw [eS_199]; exact iR_set hS_9 (show (0 : Int) ≤ _ from (by clear h7 n1 n2 n5 n6 n7 n8 n10 n12 n13 n14 kc176 kc177 kc195; omega)) (show _ ≤ (6 : Int) from (by clear h7 n1 n2 n5 n6 n7 n8 n10 n12 n13 n14 kc176 kc177 kc195; omega))
                  have kaK_t200 : aK S S_199 := (by rw [eS_199]; exact aK_set kaK_t11 rfl)
                  have n201 : (S_199 0 9).toInt = (S_9 0 9).toInt := by rw [eS_199]; rfl
                  have n202 : (S_199 0 7).toInt = (S_9 0 7).toInt := by rw [eS_199]; rfl
                  have n203 : (S_199 0 6).toInt = (S_9 0 6).toInt := by rw [eS_199]; rfl
                  have n204 : (S_199 0 8).toInt = (5 : Int32).toInt := by rw [eS_199]; rfl
                  refine D_ite (fun c205 => ?_) (fun c205 => ?_)
                  · have kc205 := tq_eq (x := (S_199 0 9)) (y := (61 : Int32)) rfl (b := 61) (by decide) c205
                    unfold fJ_X8_signToken_J192
                    refine D_lt (fun S_206 eS_206 => ?_)
                    have hS_206 : iR BM S_206 := by rw [eS_206]; exact iR_setU hS_199 rfl
                    have kaK_t207 : aK S S_206 := (by rw [eS_206]; exact aK_set kaK_t200 rfl)
                    have n208 : (S_206 0 8).toInt = (S_199 0 8).toInt := by rw [eS_206]; rfl
                    have n209 : (S_206 0 7).toInt = (S_199 0 7).toInt := by rw [eS_206]; rfl
                    have n210 : (S_206 0 6).toInt = (S_199 0 6).toInt := by rw [eS_206]; rfl
                    have l2 : (2 : Int32).toInt = 2 := by decide
                    have n211 : (S_206 0 9).toInt = (2 : Int32).toInt := by rw [eS_206]; rfl
                    exact D_some (show (iR BM S_206) ∧ (aK S S_206) ∧ ((S_206 0 7).toInt ≤ (S_206 0 6).toInt) ∧ (4 ≤ (S_206 0 8).toInt) from ⟨hS_206, kaK_t207, (by clear n7 n8 n12 kc176 kc195 n201 n204 kc205 n208 n211; omega), (by clear h7 n1 n2 n5 n6 n7 n8 n10 n12 n13 n14 kc176 kc177 kc195 n201 n202 n203 kc205 n209 n210 n211; omega)⟩)
                  · have kc2050 := tq_eqn (x := (S_199 0 9)) (y := (61 : Int32)) rfl (b := 61) (by decide) c205
                    have kc205 : 62 ≤ (S_199 0 9).toInt := (by clear h7 n1 n2 n5 n6 n10 n13 n14 kc177 n202 n203 n204; omega)
                    clear kc2050
                    exfalso
                    exact (by clear h7 n1 n2 n5 n6 n10 n13 n14 kc177 n202 n203 n204; omega)
                · have kc1980 := tq_eqn (x := (0 : Int32)) (y := (0 : Int32)) rfl rfl c198
                  have kc198 : 1 ≤ (0 : Int32).toInt := (by clear h7 n1 n2 n5 n6 n7 n8 n10 n12 n13 n14 kc176 kc177 kc195; omega)
                  clear kc1980
                  exfalso
                  exact (by clear h7 n1 n2 n5 n6 n7 n8 n10 n12 n13 n14 kc176 kc177 kc195; omega)
              · have kc1970 := tq_eqn (x := (0 : Int32)) (y := (0 : Int32)) rfl rfl c197
                have kc197 : 1 ≤ (0 : Int32).toInt := (by clear h7 n1 n2 n5 n6 n7 n8 n10 n12 n13 n14 kc176 kc177 kc195; omega)
                clear kc1970
                exfalso
                exact (by clear h7 n1 n2 n5 n6 n7 n8 n10 n12 n13 n14 kc176 kc177 kc195; omega)
          · have kc1950 := tq_eqn (x := (S_9 0 9)) (y := (61 : Int32)) rfl (b := 61) (by decide) c195
            have kc195 : 62 ≤ (S_9 0 9).toInt := (by clear h7 n1 n2 n5 n6 n10 n13 n14 kc177; omega)
            clear kc1950
            exfalso
            exact (by clear h7 n1 n2 n5 n6 n10 n13 n14 kc177; omega)
      · skip
        refine D_ite (fun c212 => ?_) (fun c212 => ?_)
        · have kc212 := tq_eq (x := (S_9 0 9)) (y := (59 : Int32)) rfl (b := 59) (by decide) c212
          unfold fJ_X8_signToken_J270
          unfold fJ_X8_signToken_J275
          have l1 : (1 : Int32).toInt = 1 := by decide
          have l0 : (0 : Int32).toInt = 0 := by decide
          refine D_ite (fun c213 => ?_) (fun c213 => ?_)
          · have kc213 := tq_eq (x := (1 : Int32)) (y := (0 : Int32)) (a := 1) (by decide) (b := 0) (by decide) c213
            exfalso
            exact (by clear h7 n1 n2 n5 n6 n7 n8 n10 n12 n13 n14 kc212; omega)
          · skip
            unfold fJ_X8_signToken_J287
            have l4 : (4 : Int32).toInt = 4 := by decide
            refine D_lt (fun S_214 eS_214 => ?_)
            have hS_214 : iR BM S_214 := by rw [eS_214]; exact iR_set hS_9 (show (0 : Int) ≤ _ from (by clear h7 n1 n2 n5 n6 n7 n8 n10 n12 n13 n14 kc212; omega)) (show _ ≤ (6 : Int) from (by clear h7 n1 n2 n5 n6 n7 n8 n10 n12 n13 n14 kc212; omega))
            have kaK_t215 : aK S S_214 := (by rw [eS_214]; exact aK_set kaK_t11 rfl)
            have n216 : (S_214 0 9).toInt = (S_9 0 9).toInt := by rw [eS_214]; rfl
            have n217 : (S_214 0 7).toInt = (S_9 0 7).toInt := by rw [eS_214]; rfl
            have n218 : (S_214 0 6).toInt = (S_9 0 6).toInt := by rw [eS_214]; rfl
            have n219 : (S_214 0 8).toInt = (4 : Int32).toInt := by rw [eS_214]; rfl
            exact D_some (show (iR BM S_214) ∧ (aK S S_214) ∧ ((S_214 0 7).toInt ≤ (S_214 0 6).toInt) ∧ (4 ≤ (S_214 0 8).toInt) from ⟨hS_214, kaK_t215, (by clear n7 n8 n12 kc212 n216 n219; omega), (by clear h7 n1 n2 n5 n6 n7 n8 n10 n12 n13 n14 kc212 n216 n217 n218; omega)⟩)
        · skip
          refine D_ite (fun c220 => ?_) (fun c220 => ?_)
          · have kc220 := tq_eq (x := (S_9 0 9)) (y := (40 : Int32)) rfl (b := 40) (by decide) c220
            unfold fJ_X8_signToken_J270
            unfold fJ_X8_signToken_J275
            have l1 : (1 : Int32).toInt = 1 := by decide
            have l0 : (0 : Int32).toInt = 0 := by decide
            refine D_ite (fun c221 => ?_) (fun c221 => ?_)
            · have kc221 := tq_eq (x := (1 : Int32)) (y := (0 : Int32)) (a := 1) (by decide) (b := 0) (by decide) c221
              exfalso
              exact (by clear h7 n1 n2 n5 n6 n7 n8 n10 n12 n13 n14 kc220; omega)
            · skip
              unfold fJ_X8_signToken_J287
              have l4 : (4 : Int32).toInt = 4 := by decide
              refine D_lt (fun S_222 eS_222 => ?_)
              have hS_222 : iR BM S_222 := by rw [eS_222]; exact iR_set hS_9 (show (0 : Int) ≤ _ from (by clear h7 n1 n2 n5 n6 n7 n8 n10 n12 n13 n14 kc220; omega)) (show _ ≤ (6 : Int) from (by clear h7 n1 n2 n5 n6 n7 n8 n10 n12 n13 n14 kc220; omega))
              have kaK_t223 : aK S S_222 := (by rw [eS_222]; exact aK_set kaK_t11 rfl)
              have n224 : (S_222 0 9).toInt = (S_9 0 9).toInt := by rw [eS_222]; rfl
              have n225 : (S_222 0 7).toInt = (S_9 0 7).toInt := by rw [eS_222]; rfl
              have n226 : (S_222 0 6).toInt = (S_9 0 6).toInt := by rw [eS_222]; rfl
              have n227 : (S_222 0 8).toInt = (4 : Int32).toInt := by rw [eS_222]; rfl
              exact D_some (show (iR BM S_222) ∧ (aK S S_222) ∧ ((S_222 0 7).toInt ≤ (S_222 0 6).toInt) ∧ (4 ≤ (S_222 0 8).toInt) from ⟨hS_222, kaK_t223, (by clear n7 n8 n12 kc220 n224 n227; omega), (by clear h7 n1 n2 n5 n6 n7 n8 n10 n12 n13 n14 kc220 n224 n225 n226; omega)⟩)
          · skip
            refine D_ite (fun c228 => ?_) (fun c228 => ?_)
            · have kc228 := tq_eq (x := (S_9 0 9)) (y := (41 : Int32)) rfl (b := 41) (by decide) c228
              unfold fJ_X8_signToken_J270
              unfold fJ_X8_signToken_J275
              have l1 : (1 : Int32).toInt = 1 := by decide
              have l0 : (0 : Int32).toInt = 0 := by decide
              refine D_ite (fun c229 => ?_) (fun c229 => ?_)
              · have kc229 := tq_eq (x := (1 : Int32)) (y := (0 : Int32)) (a := 1) (by decide) (b := 0) (by decide) c229
                exfalso
                exact (by clear h7 n1 n2 n5 n6 n7 n8 n10 n12 n13 n14 kc228; omega)
              · skip
                unfold fJ_X8_signToken_J287
                have l4 : (4 : Int32).toInt = 4 := by decide
                refine D_lt (fun S_230 eS_230 => ?_)
                have hS_230 : iR BM S_230 := by rw [eS_230]; exact iR_set hS_9 (show (0 : Int) ≤ _ from (by clear h7 n1 n2 n5 n6 n7 n8 n10 n12 n13 n14 kc228; omega)) (show _ ≤ (6 : Int) from (by clear h7 n1 n2 n5 n6 n7 n8 n10 n12 n13 n14 kc228; omega))
                have kaK_t231 : aK S S_230 := (by rw [eS_230]; exact aK_set kaK_t11 rfl)
                have n232 : (S_230 0 9).toInt = (S_9 0 9).toInt := by rw [eS_230]; rfl
                have n233 : (S_230 0 7).toInt = (S_9 0 7).toInt := by rw [eS_230]; rfl
                have n234 : (S_230 0 6).toInt = (S_9 0 6).toInt := by rw [eS_230]; rfl
                have n235 : (S_230 0 8).toInt = (4 : Int32).toInt := by rw [eS_230]; rfl
                exact D_some (show (iR BM S_230) ∧ (aK S S_230) ∧ ((S_230 0 7).toInt ≤ (S_230 0 6).toInt) ∧ (4 ≤ (S_230 0 8).toInt) from ⟨hS_230, kaK_t231, (by clear n7 n8 n12 kc228 n232 n235; omega), (by clear h7 n1 n2 n5 n6 n7 n8 n10 n12 n13 n14 kc228 n232 n233 n234; omega)⟩)
            · skip
              refine D_ite (fun c236 => ?_) (fun c236 => ?_)
              · have kc236 := tq_eq (x := (S_9 0 9)) (y := (43 : Int32)) rfl (b := 43) (by decide) c236
                unfold fJ_X8_signToken_J270
                unfold fJ_X8_signToken_J275
                have l1 : (1 : Int32).toInt = 1 := by decide
                have l0 : (0 : Int32).toInt = 0 := by decide
                refine D_ite (fun c237 => ?_) (fun c237 => ?_)
                · have kc237 := tq_eq (x := (1 : Int32)) (y := (0 : Int32)) (a := 1) (by decide) (b := 0) (by decide) c237
                  exfalso
                  exact (by clear h7 n1 n2 n5 n6 n7 n8 n10 n12 n13 n14 kc236; omega)
                · skip
                  unfold fJ_X8_signToken_J287
                  have l4 : (4 : Int32).toInt = 4 := by decide
                  refine D_lt (fun S_238 eS_238 => ?_)
                  have hS_238 : iR BM S_238 := by rw [eS_238]; exact iR_set hS_9 (show (0 : Int) ≤ _ from (by clear h7 n1 n2 n5 n6 n7 n8 n10 n12 n13 n14 kc236; omega)) (show _ ≤ (6 : Int) from (by clear h7 n1 n2 n5 n6 n7 n8 n10 n12 n13 n14 kc236; omega))
                  have kaK_t239 : aK S S_238 := (by rw [eS_238]; exact aK_set kaK_t11 rfl)
                  have n240 : (S_238 0 9).toInt = (S_9 0 9).toInt := by rw [eS_238]; rfl
                  have n241 : (S_238 0 7).toInt = (S_9 0 7).toInt := by rw [eS_238]; rfl
                  have n242 : (S_238 0 6).toInt = (S_9 0 6).toInt := by rw [eS_238]; rfl
                  have n243 : (S_238 0 8).toInt = (4 : Int32).toInt := by rw [eS_238]; rfl
                  exact D_some (show (iR BM S_238) ∧ (aK S S_238) ∧ ((S_238 0 7).toInt ≤ (S_238 0 6).toInt) ∧ (4 ≤ (S_238 0 8).toInt) from ⟨hS_238, kaK_t239, (by clear n7 n8 n12 kc236 n240 n243; omega), (by clear h7 n1 n2 n5 n6 n7 n8 n10 n12 n13 n14 kc236 n240 n241 n242; omega)⟩)
              · skip
                refine D_ite (fun c244 => ?_) (fun c244 => ?_)
                · have kc244 := tq_eq (x := (S_9 0 9)) (y := (45 : Int32)) rfl (b := 45) (by decide) c244
                  unfold fJ_X8_signToken_J270
                  unfold fJ_X8_signToken_J275
                  have l1 : (1 : Int32).toInt = 1 := by decide
                  have l0 : (0 : Int32).toInt = 0 := by decide
                  refine D_ite (fun c245 => ?_) (fun c245 => ?_)
                  · have kc245 := tq_eq (x := (1 : Int32)) (y := (0 : Int32)) (a := 1) (by decide) (b := 0) (by decide) c245
                    exfalso
                    exact (by clear h7 n1 n2 n5 n6 n7 n8 n10 n12 n13 n14 kc244; omega)
                  · skip
                    unfold fJ_X8_signToken_J287
                    have l4 : (4 : Int32).toInt = 4 := by decide
                    refine D_lt (fun S_246 eS_246 => ?_)
                    have hS_246 : iR BM S_246 := by rw [eS_246]; exact iR_set hS_9 (show (0 : Int) ≤ _ from (by clear h7 n1 n2 n5 n6 n7 n8 n10 n12 n13 n14 kc244; omega)) (show _ ≤ (6 : Int) from (by clear h7 n1 n2 n5 n6 n7 n8 n10 n12 n13 n14 kc244; omega))
                    have kaK_t247 : aK S S_246 := (by rw [eS_246]; exact aK_set kaK_t11 rfl)
                    have n248 : (S_246 0 9).toInt = (S_9 0 9).toInt := by rw [eS_246]; rfl
                    have n249 : (S_246 0 7).toInt = (S_9 0 7).toInt := by rw [eS_246]; rfl
                    have n250 : (S_246 0 6).toInt = (S_9 0 6).toInt := by rw [eS_246]; rfl
                    have n251 : (S_246 0 8).toInt = (4 : Int32).toInt := by rw [eS_246]; rfl
                    exact D_some (show (iR BM S_246) ∧ (aK S S_246) ∧ ((S_246 0 7).toInt ≤ (S_246 0 6).toInt) ∧ (4 ≤ (S_246 0 8).toInt) from ⟨hS_246, kaK_t247, (by clear n7 n8 n12 kc244 n248 n251; omega), (by clear h7 n1 n2 n5 n6 n7 n8 n10 n12 n13 n14 kc244 n248 n249 n250; omega)⟩)
                · skip
                  refine D_ite (fun c252 => ?_) (fun c252 => ?_)
                  · have kc252 := tq_eq (x := (S_9 0 9)) (y := (42 : Int32)) rfl (b := 42) (by decide) c252
                    unfold fJ_X8_signToken_J270
                    unfold fJ_X8_signToken_J275
                    have l1 : (1 : Int32).toInt = 1 := by decide
                    have l0 : (0 : Int32).toInt = 0 := by decide
                    refine D_ite (fun c253 => ?_) (fun c253 => ?_)
                    · have kc253 := tq_eq (x := (1 : Int32)) (y := (0 : Int32)) (a := 1) (by decide) (b := 0) (by decide) c253
                      exfalso
                      exact (by clear h7 n1 n2 n5 n6 n7 n8 n10 n12 n13 n14 kc252; omega)
                    · skip
                      unfold fJ_X8_signToken_J287
                      have l4 : (4 : Int32).toInt = 4 := by decide
                      refine D_lt (fun S_254 eS_254 => ?_)
                      have hS_254 : iR BM S_254 := by rw [eS_254]; exact iR_set hS_9 (show (0 : Int) ≤ _ from (by clear h7 n1 n2 n5 n6 n7 n8 n10 n12 n13 n14 kc252; omega)) (show _ ≤ (6 : Int) from (by clear h7 n1 n2 n5 n6 n7 n8 n10 n12 n13 n14 kc252; omega))
                      have kaK_t255 : aK S S_254 := (by rw [eS_254]; exact aK_set kaK_t11 rfl)
                      have n256 : (S_254 0 9).toInt = (S_9 0 9).toInt := by rw [eS_254]; rfl
                      have n257 : (S_254 0 7).toInt = (S_9 0 7).toInt := by rw [eS_254]; rfl
                      have n258 : (S_254 0 6).toInt = (S_9 0 6).toInt := by rw [eS_254]; rfl
                      have n259 : (S_254 0 8).toInt = (4 : Int32).toInt := by rw [eS_254]; rfl
                      exact D_some (show (iR BM S_254) ∧ (aK S S_254) ∧ ((S_254 0 7).toInt ≤ (S_254 0 6).toInt) ∧ (4 ≤ (S_254 0 8).toInt) from ⟨hS_254, kaK_t255, (by clear n7 n8 n12 kc252 n256 n259; omega), (by clear h7 n1 n2 n5 n6 n7 n8 n10 n12 n13 n14 kc252 n256 n257 n258; omega)⟩)
                  · skip
                    refine D_ite (fun c260 => ?_) (fun c260 => ?_)
                    · have kc260 := tq_eq (x := (S_9 0 9)) (y := (47 : Int32)) rfl (b := 47) (by decide) c260
                      unfold fJ_X8_signToken_J270
                      unfold fJ_X8_signToken_J275
                      have l1 : (1 : Int32).toInt = 1 := by decide
                      have l0 : (0 : Int32).toInt = 0 := by decide
                      refine D_ite (fun c261 => ?_) (fun c261 => ?_)
                      · have kc261 := tq_eq (x := (1 : Int32)) (y := (0 : Int32)) (a := 1) (by decide) (b := 0) (by decide) c261
                        exfalso
                        exact (by clear h7 n1 n2 n5 n6 n7 n8 n10 n12 n13 n14 kc260; omega)
                      · skip
                        unfold fJ_X8_signToken_J287
                        have l4 : (4 : Int32).toInt = 4 := by decide
                        refine D_lt (fun S_262 eS_262 => ?_)
                        have hS_262 : iR BM S_262 := by rw [eS_262]; exact iR_set hS_9 (show (0 : Int) ≤ _ from (by clear h7 n1 n2 n5 n6 n7 n8 n10 n12 n13 n14 kc260; omega)) (show _ ≤ (6 : Int) from (by clear h7 n1 n2 n5 n6 n7 n8 n10 n12 n13 n14 kc260; omega))
                        have kaK_t263 : aK S S_262 := (by rw [eS_262]; exact aK_set kaK_t11 rfl)
                        have n264 : (S_262 0 9).toInt = (S_9 0 9).toInt := by rw [eS_262]; rfl
                        have n265 : (S_262 0 7).toInt = (S_9 0 7).toInt := by rw [eS_262]; rfl
                        have n266 : (S_262 0 6).toInt = (S_9 0 6).toInt := by rw [eS_262]; rfl
                        have n267 : (S_262 0 8).toInt = (4 : Int32).toInt := by rw [eS_262]; rfl
                        exact D_some (show (iR BM S_262) ∧ (aK S S_262) ∧ ((S_262 0 7).toInt ≤ (S_262 0 6).toInt) ∧ (4 ≤ (S_262 0 8).toInt) from ⟨hS_262, kaK_t263, (by clear n7 n8 n12 kc260 n264 n267; omega), (by clear h7 n1 n2 n5 n6 n7 n8 n10 n12 n13 n14 kc260 n264 n265 n266; omega)⟩)
                    · skip
                      refine D_ite (fun c268 => ?_) (fun c268 => ?_)
                      · have kc268 := tq_eq (x := (S_9 0 9)) (y := (37 : Int32)) rfl (b := 37) (by decide) c268
                        unfold fJ_X8_signToken_J270
                        unfold fJ_X8_signToken_J275
                        have l1 : (1 : Int32).toInt = 1 := by decide
                        have l0 : (0 : Int32).toInt = 0 := by decide
                        refine D_ite (fun c269 => ?_) (fun c269 => ?_)
                        · have kc269 := tq_eq (x := (1 : Int32)) (y := (0 : Int32)) (a := 1) (by decide) (b := 0) (by decide) c269
                          exfalso
                          exact (by clear h7 n1 n2 n5 n6 n7 n8 n10 n12 n13 n14 kc268; omega)
                        · skip
                          unfold fJ_X8_signToken_J287
                          have l4 : (4 : Int32).toInt = 4 := by decide
                          refine D_lt (fun S_270 eS_270 => ?_)
                          have hS_270 : iR BM S_270 := by rw [eS_270]; exact iR_set hS_9 (show (0 : Int) ≤ _ from (by clear h7 n1 n2 n5 n6 n7 n8 n10 n12 n13 n14 kc268; omega)) (show _ ≤ (6 : Int) from (by clear h7 n1 n2 n5 n6 n7 n8 n10 n12 n13 n14 kc268; omega))
                          have kaK_t271 : aK S S_270 := (by rw [eS_270]; exact aK_set kaK_t11 rfl)
                          have n272 : (S_270 0 9).toInt = (S_9 0 9).toInt := by rw [eS_270]; rfl
                          have n273 : (S_270 0 7).toInt = (S_9 0 7).toInt := by rw [eS_270]; rfl
                          have n274 : (S_270 0 6).toInt = (S_9 0 6).toInt := by rw [eS_270]; rfl
                          have n275 : (S_270 0 8).toInt = (4 : Int32).toInt := by rw [eS_270]; rfl
                          exact D_some (show (iR BM S_270) ∧ (aK S S_270) ∧ ((S_270 0 7).toInt ≤ (S_270 0 6).toInt) ∧ (4 ≤ (S_270 0 8).toInt) from ⟨hS_270, kaK_t271, (by clear n7 n8 n12 kc268 n272 n275; omega), (by clear h7 n1 n2 n5 n6 n7 n8 n10 n12 n13 n14 kc268 n272 n273 n274; omega)⟩)
                      · skip
                        unfold fJ_X8_signToken_J275
                        have l0 : (0 : Int32).toInt = 0 := by decide
                        refine D_ite (fun c276 => ?_) (fun c276 => ?_)
                        · have kc276 := tq_eq (x := (0 : Int32)) (y := (0 : Int32)) rfl rfl c276
                          unfold fJ_X8_signToken_J287
                          have l6 : (6 : Int32).toInt = 6 := by decide
                          refine D_lt (fun S_277 eS_277 => ?_)
                          have hS_277 : iR BM S_277 := by rw [eS_277]; exact iR_set hS_9 (show (0 : Int) ≤ _ from (by clear h7 n1 n2 n5 n6 n7 n8 n10 n12 n13 n14; omega)) (show _ ≤ (6 : Int) from (by clear h7 n1 n2 n5 n6 n7 n8 n10 n12 n13 n14; omega))
                          have kaK_t278 : aK S S_277 := (by rw [eS_277]; exact aK_set kaK_t11 rfl)
                          have n279 : (S_277 0 9).toInt = (S_9 0 9).toInt := by rw [eS_277]; rfl
                          have n280 : (S_277 0 7).toInt = (S_9 0 7).toInt := by rw [eS_277]; rfl
                          have n281 : (S_277 0 6).toInt = (S_9 0 6).toInt := by rw [eS_277]; rfl
                          have n282 : (S_277 0 8).toInt = (6 : Int32).toInt := by rw [eS_277]; rfl
                          exact D_some (show (iR BM S_277) ∧ (aK S S_277) ∧ ((S_277 0 7).toInt ≤ (S_277 0 6).toInt) ∧ (4 ≤ (S_277 0 8).toInt) from ⟨hS_277, kaK_t278, (by clear n7 n8 n12 n279 n282; omega), (by clear h7 n1 n2 n5 n6 n7 n8 n10 n12 n13 n14 n279 n280 n281; omega)⟩)
                        · have kc2760 := tq_eqn (x := (0 : Int32)) (y := (0 : Int32)) rfl rfl c276
                          have kc276 : 1 ≤ (0 : Int32).toInt := (by clear h7 n1 n2 n5 n6 n7 n8 n10 n12 n13 n14; omega)
                          clear kc2760
                          exfalso
                          exact (by clear h7 n1 n2 n5 n6 n7 n8 n10 n12 n13 n14; omega)
