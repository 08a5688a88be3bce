set_option maxHeartbeats 1000000 in
set_option maxRecDepth 100000 in
theorem tl_X6_takeDown_L53 (zT_0_0 : Int32) (P : Tr) (x1 : Int32) (x4 : Int32) (N7 : Nat) (hP : iR BP P) (hx4 : 0 ≤ x4.toInt ∧ x4.toInt ≤ 5) (hN7 : 1000 - x4.toInt < (N7 : Int) + 1) (k7 : Int32 → Int32 → Int32 → Tr → Lo → Option (Int32 × Tr × Lo)) (hk7 : ∀ (x2 : Int32) (x3 : Int32) (x4 : Int32) (T : Tr) (L : Lo), T 0 0 = zT_0_0 → iR BT T → 0 ≤ x4.toInt ∧ x4.toInt ≤ 1000 → 1000 - x4.toInt < (N7 : Int) → D (k7 x2 x3 x4 T L) (fun (q : Int32 × Tr × Lo) => (iR BT (q.2.1)) ∧ ((q.2.1) 0 0 = zT_0_0))) (N : Nat) : ∀ (x2 : Int32) (x3 : Int32) (x5 : Int32) (T : Tr) (L : Lo), T 0 0 = zT_0_0 → iR BT T → 0 ≤ x5.toInt ∧ x5.toInt ≤ 1000 → 1000 - x5.toInt < (N : Int) → D (lpF (fun _ _ _ _ _ => none) (fB_X6_takeDown_L53 k7 P x1 x4) N x2 x3 x5 T L) (fun (q : Int32 × Tr × Lo) => (iR BT (q.2.1)) ∧ ((q.2.1) 0 0 = zT_0_0)) := by
  induction N with
  | zero =>
    intro x2 x3 x5 T L dT_0_0 hT hx5 hN
    exfalso
    omega
  | succ N53 ih =>
    intro x2 x3 x5 T L dT_0_0 hT hx5 hN
    have hk53 : ∀ (x2 : Int32) (x3 : Int32) (x5 : Int32) (T : Tr) (L : Lo), T 0 0 = zT_0_0 → iR BT T → 0 ≤ x5.toInt ∧ x5.toInt ≤ 1000 → 1000 - x5.toInt < (N53 : Int) → D (lpF (fun _ _ _ _ _ => none) (fB_X6_takeDown_L53 k7 P x1 x4) N53 x2 x3 x5 T L) (fun (q : Int32 × Tr × Lo) => (iR BT (q.2.1)) ∧ ((q.2.1) 0 0 = zT_0_0)) := ih
    show D (fB_X6_takeDown_L53 k7 P x1 x4 (lpF (fun _ _ _ _ _ => none) (fB_X6_takeDown_L53 k7 P x1 x4) N53) x2 x3 x5 T L) _
    generalize lpF (fun _ _ _ _ _ => none) (fB_X6_takeDown_L53 k7 P x1 x4) N53 = k53 at hk53 ⊢
    have hN53 : 1000 - x5.toInt < (N53 : Int) + 1 := by omega
    clear ih
    unfold fB_X6_takeDown_L53
    have n10 : 0 ≤ (P 0 2).toInt ∧ (P 0 2).toInt ≤ 10 := hP 0 2
    refine D_ite (fun c9 => ?_) (fun c9 => ?_)
    · have kc9 := tq_le (x := (P 0 2)) (y := x5) rfl rfl c9
      unfold fJ_X6_takeDown_J176
      have n12 : 0 ≤ (T 0 0).toInt ∧ (T 0 0).toInt ≤ 21 := hT 0 0
      refine D_ite (fun c11 => ?_) (fun c11 => ?_)
      · have kc11 := tq_eq (x := (T 0 0)) (y := (20 : Int32)) rfl (b := 20) (by decide) c11
        have l5 : (5 : Int32).toInt = 5 := by decide
        refine D_bd (t_X6_setFree T P x4 (5 : Int32) hT hP) (fun T_13 eq15 hq14 => ?_)
        obtain ⟨p16, p17⟩ : (iR BT T_13) ∧ (T_13 0 0 = (T 0 0)) := hq14
        have k18 : T_13 0 0 = zT_0_0 := p17.trans dT_0_0
        unfold fJ_X6_takeDown_J192
        refine D_bd (t_X6_hasPlaced T_13 P x4 p16 hP) (fun r19 eq21 hq20 => ?_)
        have p22 : 0 ≤ r19.toInt ∧ r19.toInt ≤ 1 := hq20
        refine D_ite (fun c23 => ?_) (fun c23 => ?_)
        · have kc23 := tq_eq (x := r19) (y := (0 : Int32)) rfl (b := 0) (by decide) c23
          refine D_ck (okI_of (by clear hx5 hN7 hN53 hN n10 kc9 n12 kc11 p22 kc23; omega) (by clear hx5 hN7 hN53 hN n10 kc9 n12 kc11 p22 kc23; omega)) ?_
          refine D_lt (fun T_24 eT_24 => ?_)
          have hT_24 : iR BT T_24 := by rw [eT_24]; exact iR_setU p16 rfl
          have kT_0_0_t25 : T_24 0 0 = zT_0_0 := by rw [eT_24]; exact k18
          have n27 : (x4 + 1).toInt = x4.toInt + 1 := i_addK rfl (by decide) (by clear hx5 hN7 hN53 hN n10 kc9 n12 kc11 p22 kc23; omega) (by clear hx5 hN7 hN53 hN n10 kc9 n12 kc11 p22 kc23; omega)
          refine D_lt (fun y26 ey26 => ?_)
          have hy26 : y26.toInt = (x4 + 1 : Int32).toInt := by rw [ey26]
          have n28 := i_rng x2
          have n29 := i_rng x3
          exact hk7 x2 x3 y26 T_24 L kT_0_0_t25 hT_24 ⟨(by clear hx5 hN7 hN53 hN n10 kc9 n12 kc11 p22 kc23 n28 n29; omega), (by clear hx5 hN7 hN53 hN n10 kc9 n12 kc11 p22 kc23 n28 n29; omega)⟩ (by clear hx5 hN53 hN n10 kc9 n12 kc11 p22 kc23 n28 n29; omega)
        · have kc230 := tq_eqn (x := r19) (y := (0 : Int32)) rfl (b := 0) (by decide) c23
          have kc23 : 1 ≤ r19.toInt := (by clear hx4 hx5 hN7 hN53 hN n10 kc9 n12 kc11; omega)
          clear kc230
          have n31 : (x4 + 1).toInt = x4.toInt + 1 := i_addK rfl (by decide) (by clear hx5 hN7 hN53 hN n10 kc9 n12 kc11 p22 kc23; omega) (by clear hx5 hN7 hN53 hN n10 kc9 n12 kc11 p22 kc23; omega)
          refine D_lt (fun y30 ey30 => ?_)
          have hy30 : y30.toInt = (x4 + 1 : Int32).toInt := by rw [ey30]
          have n32 := i_rng x2
          have n33 := i_rng x3
          exact hk7 x2 x3 y30 T_13 L k18 p16 ⟨(by clear hx5 hN7 hN53 hN n10 kc9 n12 kc11 p22 kc23 n32 n33; omega), (by clear hx5 hN7 hN53 hN n10 kc9 n12 kc11 p22 kc23 n32 n33; omega)⟩ (by clear hx5 hN53 hN n10 kc9 n12 kc11 p22 kc23 n32 n33; omega)
      · skip
        unfold fJ_X6_takeDown_J192
        refine D_bd (t_X6_hasPlaced T P x4 hT hP) (fun r34 eq36 hq35 => ?_)
        have p37 : 0 ≤ r34.toInt ∧ r34.toInt ≤ 1 := hq35
        refine D_ite (fun c38 => ?_) (fun c38 => ?_)
        · have kc38 := tq_eq (x := r34) (y := (0 : Int32)) rfl (b := 0) (by decide) c38
          refine D_ck (okI_of (by clear hx5 hN7 hN53 hN n10 kc9 n12 p37 kc38; omega) (by clear hx5 hN7 hN53 hN n10 kc9 n12 p37 kc38; omega)) ?_
          refine D_lt (fun T_39 eT_39 => ?_)
          have hT_39 : iR BT T_39 := by rw [eT_39]; exact iR_setU hT rfl
          have kT_0_0_t40 : T_39 0 0 = zT_0_0 := by rw [eT_39]; exact dT_0_0
          have n41 : (T_39 0 0).toInt = (T 0 0).toInt := by rw [eT_39]; rfl
          have n43 : (x4 + 1).toInt = x4.toInt + 1 := i_addK rfl (by decide) (by clear hx5 hN7 hN53 hN n10 kc9 n12 p37 kc38 n41; omega) (by clear hx5 hN7 hN53 hN n10 kc9 n12 p37 kc38 n41; omega)
          refine D_lt (fun y42 ey42 => ?_)
          have hy42 : y42.toInt = (x4 + 1 : Int32).toInt := by rw [ey42]
          have n44 := i_rng x2
          have n45 := i_rng x3
          exact hk7 x2 x3 y42 T_39 L kT_0_0_t40 hT_39 ⟨(by clear hx5 hN7 hN53 hN n10 kc9 n12 p37 kc38 n41 n44 n45; omega), (by clear hx5 hN7 hN53 hN n10 kc9 n12 p37 kc38 n41 n44 n45; omega)⟩ (by clear hx5 hN53 hN n10 kc9 n12 p37 kc38 n41 n44 n45; omega)
        · have kc380 := tq_eqn (x := r34) (y := (0 : Int32)) rfl (b := 0) (by decide) c38
          have kc38 : 1 ≤ r34.toInt := (by clear hx4 hx5 hN7 hN53 hN n10 kc9 n12; omega)
          clear kc380
          have n47 : (x4 + 1).toInt = x4.toInt + 1 := i_addK rfl (by decide) (by clear hx5 hN7 hN53 hN n10 kc9 n12 p37 kc38; omega) (by clear hx5 hN7 hN53 hN n10 kc9 n12 p37 kc38; omega)
          refine D_lt (fun y46 ey46 => ?_)
          have hy46 : y46.toInt = (x4 + 1 : Int32).toInt := by rw [ey46]
          have n48 := i_rng x2
          have n49 := i_rng x3
          exact hk7 x2 x3 y46 T L dT_0_0 hT ⟨(by clear hx5 hN7 hN53 hN n10 kc9 n12 p37 kc38 n48 n49; omega), (by clear hx5 hN7 hN53 hN n10 kc9 n12 p37 kc38 n48 n49; omega)⟩ (by clear hx5 hN53 hN n10 kc9 n12 p37 kc38 n48 n49; omega)
    · have kc9 := tq_len (x := (P 0 2)) (y := x5) rfl rfl c9
      have n51 := i_rng x3
      refine D_ite (fun c50 => ?_) (fun c50 => ?_)
      · have kc50 := tq_eq (x := x3) (y := (0 : Int32)) rfl (b := 0) (by decide) c50
        unfold fJ_X6_takeDown_J176
        have n53 : 0 ≤ (T 0 0).toInt ∧ (T 0 0).toInt ≤ 21 := hT 0 0
        refine D_ite (fun c52 => ?_) (fun c52 => ?_)
        · have kc52 := tq_eq (x := (T 0 0)) (y := (20 : Int32)) rfl (b := 20) (by decide) c52
          have l5 : (5 : Int32).toInt = 5 := by decide
          refine D_bd (t_X6_setFree T P x4 (5 : Int32) hT hP) (fun T_54 eq56 hq55 => ?_)
          obtain ⟨p57, p58⟩ : (iR BT T_54) ∧ (T_54 0 0 = (T 0 0)) := hq55
          have k59 : T_54 0 0 = zT_0_0 := p58.trans dT_0_0
          unfold fJ_X6_takeDown_J192
          refine D_bd (t_X6_hasPlaced T_54 P x4 p57 hP) (fun r60 eq62 hq61 => ?_)
          have p63 : 0 ≤ r60.toInt ∧ r60.toInt ≤ 1 := hq61
          refine D_ite (fun c64 => ?_) (fun c64 => ?_)
          · have kc64 := tq_eq (x := r60) (y := (0 : Int32)) rfl (b := 0) (by decide) c64
            refine D_ck (okI_of (by clear hx5 hN7 hN53 hN n10 kc9 n51 kc50 n53 kc52 p63 kc64; omega) (by clear hx5 hN7 hN53 hN n10 kc9 n51 kc50 n53 kc52 p63 kc64; omega)) ?_
            refine D_lt (fun T_65 eT_65 => ?_)
            have hT_65 : iR BT T_65 := by rw [eT_65]; exact iR_setU p57 rfl
            have kT_0_0_t66 : T_65 0 0 = zT_0_0 := by rw [eT_65]; exact k59
            have n68 : (x4 + 1).toInt = x4.toInt + 1 := i_addK rfl (by decide) (by clear hx5 hN7 hN53 hN n10 kc9 n51 kc50 n53 kc52 p63 kc64; omega) (by clear hx5 hN7 hN53 hN n10 kc9 n51 kc50 n53 kc52 p63 kc64; omega)
            refine D_lt (fun y67 ey67 => ?_)
            have hy67 : y67.toInt = (x4 + 1 : Int32).toInt := by rw [ey67]
            have n69 := i_rng x2
            exact hk7 x2 x3 y67 T_65 L kT_0_0_t66 hT_65 ⟨(by clear hx5 hN7 hN53 hN n10 kc9 n51 kc50 n53 kc52 p63 kc64 n69; omega), (by clear hx5 hN7 hN53 hN n10 kc9 n51 kc50 n53 kc52 p63 kc64 n69; omega)⟩ (by clear hx5 hN53 hN n10 kc9 n51 kc50 n53 kc52 p63 kc64 n69; omega)
          · have kc640 := tq_eqn (x := r60) (y := (0 : Int32)) rfl (b := 0) (by decide) c64
            have kc64 : 1 ≤ r60.toInt := (by clear hx4 hx5 hN7 hN53 hN n10 kc9 n51 kc50 n53 kc52; omega)
            clear kc640
            have n71 : (x4 + 1).toInt = x4.toInt + 1 := i_addK rfl (by decide) (by clear hx5 hN7 hN53 hN n10 kc9 n51 kc50 n53 kc52 p63 kc64; omega) (by clear hx5 hN7 hN53 hN n10 kc9 n51 kc50 n53 kc52 p63 kc64; omega)
            refine D_lt (fun y70 ey70 => ?_)
            have hy70 : y70.toInt = (x4 + 1 : Int32).toInt := by rw [ey70]
            have n72 := i_rng x2
            exact hk7 x2 x3 y70 T_54 L k59 p57 ⟨(by clear hx5 hN7 hN53 hN n10 kc9 n51 kc50 n53 kc52 p63 kc64 n72; omega), (by clear hx5 hN7 hN53 hN n10 kc9 n51 kc50 n53 kc52 p63 kc64 n72; omega)⟩ (by clear hx5 hN53 hN n10 kc9 n51 kc50 n53 kc52 p63 kc64 n72; omega)
        · skip
          unfold fJ_X6_takeDown_J192
          refine D_bd (t_X6_hasPlaced T P x4 hT hP) (fun r73 eq75 hq74 => ?_)
          have p76 : 0 ≤ r73.toInt ∧ r73.toInt ≤ 1 := hq74
          refine D_ite (fun c77 => ?_) (fun c77 => ?_)
          · have kc77 := tq_eq (x := r73) (y := (0 : Int32)) rfl (b := 0) (by decide) c77
            refine D_ck (okI_of (by clear hx5 hN7 hN53 hN n10 kc9 n51 kc50 n53 p76 kc77; omega) (by clear hx5 hN7 hN53 hN n10 kc9 n51 kc50 n53 p76 kc77; omega)) ?_
            refine D_lt (fun T_78 eT_78 => ?_)
            have hT_78 : iR BT T_78 := by rw [eT_78]; exact iR_setU hT rfl
            have kT_0_0_t79 : T_78 0 0 = zT_0_0 := by rw [eT_78]; exact dT_0_0
            have n80 : (T_78 0 0).toInt = (T 0 0).toInt := by rw [eT_78]; rfl
            have n82 : (x4 + 1).toInt = x4.toInt + 1 := i_addK rfl (by decide) (by clear hx5 hN7 hN53 hN n10 kc9 n51 kc50 n53 p76 kc77 n80; omega) (by clear hx5 hN7 hN53 hN n10 kc9 n51 kc50 n53 p76 kc77 n80; omega)
            refine D_lt (fun y81 ey81 => ?_)
            have hy81 : y81.toInt = (x4 + 1 : Int32).toInt := by rw [ey81]
            have n83 := i_rng x2
            exact hk7 x2 x3 y81 T_78 L kT_0_0_t79 hT_78 ⟨(by clear hx5 hN7 hN53 hN n10 kc9 n51 kc50 n53 p76 kc77 n80 n83; omega), (by clear hx5 hN7 hN53 hN n10 kc9 n51 kc50 n53 p76 kc77 n80 n83; omega)⟩ (by clear hx5 hN53 hN n10 kc9 n51 kc50 n53 p76 kc77 n80 n83; omega)
          · have kc770 := tq_eqn (x := r73) (y := (0 : Int32)) rfl (b := 0) (by decide) c77
            have kc77 : 1 ≤ r73.toInt := (by clear hx4 hx5 hN7 hN53 hN n10 kc9 n51 kc50 n53; omega)
            clear kc770
            have n85 : (x4 + 1).toInt = x4.toInt + 1 := i_addK rfl (by decide) (by clear hx5 hN7 hN53 hN n10 kc9 n51 kc50 n53 p76 kc77; omega) (by clear hx5 hN7 hN53 hN n10 kc9 n51 kc50 n53 p76 kc77; omega)
            refine D_lt (fun y84 ey84 => ?_)
            have hy84 : y84.toInt = (x4 + 1 : Int32).toInt := by rw [ey84]
            have n86 := i_rng x2
            exact hk7 x2 x3 y84 T L dT_0_0 hT ⟨(by clear hx5 hN7 hN53 hN n10 kc9 n51 kc50 n53 p76 kc77 n86; omega), (by clear hx5 hN7 hN53 hN n10 kc9 n51 kc50 n53 p76 kc77 n86; omega)⟩ (by clear hx5 hN53 hN n10 kc9 n51 kc50 n53 p76 kc77 n86; omega)
      · skip
        refine D_ck (okI_of (by clear hx4 hN7 hN53 hN n51; omega) (by clear hx4 hN7 hN53 hN n51; omega)) ?_
        have n88 : 0 ≤ (P 14 x5.toNatClampNeg).toInt ∧ (P 14 x5.toNatClampNeg).toInt ≤ 5 := hP 14 x5.toNatClampNeg
        refine D_ite (fun c87 => ?_) (fun c87 => ?_)
        · have kc87 := tq_eq (x := (P 14 x5.toNatClampNeg)) (y := x4) rfl rfl c87
          have n90 := i_rng (T 14 x5.toNatClampNeg)
          refine D_ite (fun c89 => ?_) (fun c89 => ?_)
          · have kc89 := tq_eq (x := (T 14 x5.toNatClampNeg)) (y := (1 : Int32)) rfl (b := 1) (by decide) c89
            refine D_ck (okI_of (by clear hx5 hN7 hN53 hN n10 kc9 n51 n90 kc89; omega) (by clear hx5 hN7 hN53 hN n10 kc9 n51 n90 kc89; omega)) ?_
            have n91 := i_rng (T 10 x4.toNatClampNeg)
            refine D_bd3 (t_X6_secondsFor T P L x5 (T 10 x4.toNatClampNeg) hT hP ⟨(by clear hx4 hN7 hN53 hN n51 n88 kc87 n90 kc89 n91; omega), (by clear hx4 hN7 hN53 hN n51 n88 kc87 n90 kc89 n91; omega)⟩) (fun r92 T_93 L_94 eq96 hq95 => ?_)
            refine D_lte (y := r92) rfl ?_
            refine D_lte (y := T_93) rfl ?_
            refine D_lte (y := L_94) rfl ?_
            obtain ⟨p97, p98⟩ : (iR BT T_93) ∧ (T_93 0 0 = (T 0 0)) := hq95
            have n99 := i_rng r92
            have k100 : T_93 0 0 = zT_0_0 := p98.trans dT_0_0
            have n102 := i_rng (x2 + r92)
            have n103 := i_rng x1
            refine D_ite (fun c101 => ?_) (fun c101 => ?_)
            · have kc101 := tq_lt (x := x1) (y := (x2 + r92)) rfl rfl c101
              unfold fJ_X6_takeDown_J126
              have l0 : (0 : Int32).toInt = 0 := by decide
              refine D_ite (fun c104 => ?_) (fun c104 => ?_)
              · have kc104 := tq_eq (x := (0 : Int32)) (y := (0 : Int32)) rfl rfl c104
                have n106 : (x5 + 1).toInt = x5.toInt + 1 := i_addK rfl (by decide) (by clear hx4 hN7 hN53 hN n51 n88 kc87 n90 kc89 n91 n99 n102 n103 kc101; omega) (by clear hx4 hN7 hN53 hN n51 n88 kc87 n90 kc89 n91 n99 n102 n103 kc101; omega)
                refine D_lt (fun y105 ey105 => ?_)
                have hy105 : y105.toInt = (x5 + 1 : Int32).toInt := by rw [ey105]
                have n107 := i_rng x2
                exact hk53 x2 (0 : Int32) y105 T_93 L_94 k100 p97 ⟨(by clear hx4 hN7 hN53 hN n51 n88 kc87 n90 kc89 n91 n99 n102 n103 kc101 n107; omega), (by clear hx4 hN7 hN53 hN n51 n88 kc87 n90 kc89 n91 n99 n102 n103 kc101 n107; omega)⟩ (by clear hx4 hN7 n51 n88 kc87 n90 kc89 n91 n99 n102 n103 kc101 n107; omega)
              · have kc1040 := tq_eqn (x := (0 : Int32)) (y := (0 : Int32)) rfl rfl c104
                have kc104 : 1 ≤ (0 : Int32).toInt := (by clear hx4 hx5 hN7 hN53 hN n10 kc9 n51 n88 kc87 n90 kc89 n91 n99 n102 n103 kc101; omega)
                clear kc1040
                exfalso
                exact (by clear hx4 hx5 hN7 hN53 hN n10 kc9 n51 n88 kc87 n90 kc89 n91 n99 n102 n103 kc101; omega)
            · have kc101 := tq_ltn (x := x1) (y := (x2 + r92)) rfl rfl c101
              unfold fJ_X6_takeDown_J126
              have l1 : (1 : Int32).toInt = 1 := by decide
              have l0 : (0 : Int32).toInt = 0 := by decide
              refine D_ite (fun c108 => ?_) (fun c108 => ?_)
              · have kc108 := tq_eq (x := (1 : Int32)) (y := (0 : Int32)) (a := 1) (by decide) (b := 0) (by decide) c108
                exfalso
                exact (by clear hx4 hx5 hN7 hN53 hN n10 kc9 n51 n88 kc87 n90 kc89 n91 n99 n102 n103 kc101; omega)
              · skip
                refine D_lt (fun y109 ey109 => ?_)
                have hy109 : y109.toInt = (x2 + r92).toInt := by rw [ey109]
                refine D_ck (okI_of (by clear hx5 hN7 hN53 hN n10 kc9 n51 n90 kc89 n91 n99 n102 n103 kc101 hy109; omega) (by clear hx5 hN7 hN53 hN n10 kc9 n51 n90 kc89 n91 n99 n102 n103 kc101 hy109; omega)) ?_
                refine D_lt (fun T_110 eT_110 => ?_)
                have hT_110 : iR BT T_110 := by rw [eT_110]; exact iR_setU p97 rfl
                have kT_0_0_t111 : T_110 0 0 = zT_0_0 := by rw [eT_110]; exact k100
                refine D_bd (t_X6_above T_110 x5 hT_110 ⟨(by clear hx4 hN7 hN53 hN n51 n88 kc87 n90 kc89 n91 n99 n102 n103 kc101 hy109; omega), (by clear hx4 hN7 hN53 hN n51 n88 kc87 n90 kc89 n91 n99 n102 n103 kc101 hy109; omega)⟩) (fun r112 eq114 hq113 => ?_)
                have n115 := i_rng r112
                refine D_lt (fun T_116 eT_116 => ?_)
                have hT_116 : iR BT T_116 := by rw [eT_116]; exact iR_setU hT_110 rfl
                have kT_0_0_t117 : T_116 0 0 = zT_0_0 := by rw [eT_116]; exact kT_0_0_t111
                have l2 : (2 : Int32).toInt = 2 := by decide
                refine D_bd (t_X6_takeAway T_116 P x5 (2 : Int32) hT_116 hP ⟨(by clear hx4 hN7 hN53 hN n51 n88 kc87 n90 kc89 n91 n99 n102 n103 kc101 hy109 n115; omega), (by clear hx4 hN7 hN53 hN n51 n88 kc87 n90 kc89 n91 n99 n102 n103 kc101 hy109 n115; omega)⟩) (fun T_118 eq120 hq119 => ?_)
                obtain ⟨p121, p122⟩ : (iR BT T_118) ∧ (T_118 0 0 = (T_116 0 0)) := hq119
                have k123 : T_118 0 0 = zT_0_0 := p122.trans kT_0_0_t117
                have n125 : (x5 + 1).toInt = x5.toInt + 1 := i_addK rfl (by decide) (by clear hx4 hN7 hN53 hN n51 n88 kc87 n90 kc89 n91 n99 n102 n103 kc101 hy109 n115; omega) (by clear hx4 hN7 hN53 hN n51 n88 kc87 n90 kc89 n91 n99 n102 n103 kc101 hy109 n115; omega)
                refine D_lt (fun y124 ey124 => ?_)
                have hy124 : y124.toInt = (x5 + 1 : Int32).toInt := by rw [ey124]
                exact hk53 y109 (1 : Int32) y124 T_118 L_94 k123 p121 ⟨(by clear hx4 hN7 hN53 hN n51 n88 kc87 n90 kc89 n91 n99 n102 n103 kc101 hy109 n115; omega), (by clear hx4 hN7 hN53 hN n51 n88 kc87 n90 kc89 n91 n99 n102 n103 kc101 hy109 n115; omega)⟩ (by clear hx4 hN7 n51 n88 kc87 n90 kc89 n91 n99 n102 n103 kc101 hy109 n115; omega)
          · skip
            have n127 : (x5 + 1).toInt = x5.toInt + 1 := i_addK rfl (by decide) (by clear hx4 hN7 hN53 hN n51 n88 kc87 n90; omega) (by clear hx4 hN7 hN53 hN n51 n88 kc87 n90; omega)
            refine D_lt (fun y126 ey126 => ?_)
            have hy126 : y126.toInt = (x5 + 1 : Int32).toInt := by rw [ey126]
            have n128 := i_rng x2
            exact hk53 x2 x3 y126 T L dT_0_0 hT ⟨(by clear hx4 hN7 hN53 hN n51 n88 kc87 n90 n128; omega), (by clear hx4 hN7 hN53 hN n51 n88 kc87 n90 n128; omega)⟩ (by clear hx4 hN7 n51 n88 kc87 n90 n128; omega)
        · skip
          have n130 : (x5 + 1).toInt = x5.toInt + 1 := i_addK rfl (by decide) (by clear hx4 hN7 hN53 hN n51 n88; omega) (by clear hx4 hN7 hN53 hN n51 n88; omega)
          refine D_lt (fun y129 ey129 => ?_)
          have hy129 : y129.toInt = (x5 + 1 : Int32).toInt := by rw [ey129]
          have n131 := i_rng x2
          exact hk53 x2 x3 y129 T L dT_0_0 hT ⟨(by clear hx4 hN7 hN53 hN n51 n88 n131; omega), (by clear hx4 hN7 hN53 hN n51 n88 n131; omega)⟩ (by clear hx4 hN7 n51 n88 n131; omega)
set_option maxHeartbeats 1000000 in
set_option maxRecDepth 100000 in
theorem tl_X6_takeDown_L7 (zT_0_0 : Int32) (P : Tr) (x1 : Int32) (hP : iR BP P)   (N : Nat) : ∀ (x2 : Int32) (x3 : Int32) (x4 : Int32) (T : Tr) (L : Lo), T 0 0 = zT_0_0 → iR BT T → 0 ≤ x4.toInt ∧ x4.toInt ≤ 1000 → 1000 - x4.toInt < (N : Int) → D (lpF (fun _ _ _ _ _ => none) (fB_X6_takeDown_L7 P x1) N x2 x3 x4 T L) (fun (q : Int32 × Tr × Lo) => (iR BT (q.2.1)) ∧ ((q.2.1) 0 0 = zT_0_0)) := by
  induction N with
  | zero =>
    intro x2 x3 x4 T L dT_0_0 hT hx4 hN
    exfalso
    omega
  | succ N7 ih =>
    intro x2 x3 x4 T L dT_0_0 hT hx4 hN
    have hk7 : ∀ (x2 : Int32) (x3 : Int32) (x4 : Int32) (T : Tr) (L : Lo), T 0 0 = zT_0_0 → iR BT T → 0 ≤ x4.toInt ∧ x4.toInt ≤ 1000 → 1000 - x4.toInt < (N7 : Int) → D (lpF (fun _ _ _ _ _ => none) (fB_X6_takeDown_L7 P x1) N7 x2 x3 x4 T L) (fun (q : Int32 × Tr × Lo) => (iR BT (q.2.1)) ∧ ((q.2.1) 0 0 = zT_0_0)) := ih
    show D (fB_X6_takeDown_L7 P x1 (lpF (fun _ _ _ _ _ => none) (fB_X6_takeDown_L7 P x1) N7) x2 x3 x4 T L) _
    generalize lpF (fun _ _ _ _ _ => none) (fB_X6_takeDown_L7 P x1) N7 = k7 at hk7 ⊢
    have hN7 : 1000 - x4.toInt < (N7 : Int) + 1 := by omega
    clear ih
    unfold fB_X6_takeDown_L7
    have n2 : 0 ≤ (P 0 1).toInt ∧ (P 0 1).toInt ≤ 6 := hP 0 1
    refine D_ite (fun c1 => ?_) (fun c1 => ?_)
    · have kc1 := tq_le (x := (P 0 1)) (y := x4) rfl rfl c1
      have n3 := i_rng x2
      exact D_some (show (iR BT T) ∧ (T 0 0 = zT_0_0) from ⟨hT, dT_0_0⟩)
    · have kc1 := tq_len (x := (P 0 1)) (y := x4) rfl rfl c1
      refine D_ck (okI_of (by omega) (by omega)) ?_
      have n5 := i_rng (T 11 x4.toNatClampNeg)
      refine D_ite (fun c4 => ?_) (fun c4 => ?_)
      · have kc4 := tq_eq (x := (T 11 x4.toNatClampNeg)) (y := (1 : Int32)) rfl (b := 1) (by decide) c4
        have n7 : 0 ≤ (P 12 x4.toNatClampNeg).toInt ∧ (P 12 x4.toNatClampNeg).toInt ≤ 20 := hP 12 x4.toNatClampNeg
        have n8 : 0 ≤ (T 0 0).toInt ∧ (T 0 0).toInt ≤ 21 := hT 0 0
        refine D_ite (fun c6 => ?_) (fun c6 => ?_)
        · have kc6 := tq_le (x := (P 12 x4.toNatClampNeg)) (y := (T 0 0)) rfl rfl c6
          have n132 := i_rng x2
          have n133 := i_rng x3
          have l0 : (0 : Int32).toInt = 0 := by decide
          have n134 := i_rng x1
          exact tl_X6_takeDown_L53 zT_0_0 P x1 x4 N7 hP ⟨(by clear hN7 hN n5 kc4 n7 n8 kc6 n132 n133 n134; omega), (by clear hN7 hN n5 kc4 n7 n8 kc6 n132 n133 n134; omega)⟩ hN7 k7 hk7 2000 x2 x3 (0 : Int32) T L dT_0_0 hT ⟨(by clear hx4 hN7 hN n2 kc1 n5 kc4 n7 n8 kc6 n132 n133 n134; omega), (by clear hx4 hN7 hN n2 kc1 n5 kc4 n7 n8 kc6 n132 n133 n134; omega)⟩ (by clear hx4 hN7 hN n2 kc1 n5 kc4 n7 n8 kc6 n132 n133 n134; omega)
        · have kc6 := tq_len (x := (P 12 x4.toNatClampNeg)) (y := (T 0 0)) rfl rfl c6
          have n136 : (x4 + 1).toInt = x4.toInt + 1 := i_addK rfl (by decide) (by clear hN7 hN n5 kc4 n7 n8 kc6; omega) (by clear hN7 hN n5 kc4 n7 n8 kc6; omega)
          refine D_lt (fun y135 ey135 => ?_)
          have hy135 : y135.toInt = (x4 + 1 : Int32).toInt := by rw [ey135]
          have n137 := i_rng x2
          have n138 := i_rng x3
          exact hk7 x2 x3 y135 T L dT_0_0 hT ⟨(by clear hN7 hN n5 kc4 n7 n8 kc6 n137 n138; omega), (by clear hN7 hN n5 kc4 n7 n8 kc6 n137 n138; omega)⟩ (by clear n5 kc4 n7 n8 kc6 n137 n138; omega)
      · skip
        have n140 : (x4 + 1).toInt = x4.toInt + 1 := i_addK rfl (by decide) (by clear hN7 hN n5; omega) (by clear hN7 hN n5; omega)
        refine D_lt (fun y139 ey139 => ?_)
        have hy139 : y139.toInt = (x4 + 1 : Int32).toInt := by rw [ey139]
        have n141 := i_rng x2
        have n142 := i_rng x3
        exact hk7 x2 x3 y139 T L dT_0_0 hT ⟨(by clear hN7 hN n5 n141 n142; omega), (by clear hN7 hN n5 n141 n142; omega)⟩ (by clear n5 n141 n142; omega)
set_option maxHeartbeats 1000000 in
set_option maxRecDepth 100000 in
theorem t_X6_takeDown (T : Tr) (P : Tr) (L : Lo) (x1 : Int32) (hT : iR BT T) (hP : iR BP P) : D (f_X6_takeDown T P L x1) (fun (q : Int32 × Tr × Lo) => (iR BT (q.2.1)) ∧ ((q.2.1) 0 0 = (T 0 0))) := by
  unfold f_X6_takeDown
  have l0 : (0 : Int32).toInt = 0 := by decide
  have l1 : (1 : Int32).toInt = 1 := by decide
  have n143 := i_rng x1
  exact tl_X6_takeDown_L7 (T 0 0) P x1 hP   2000 (0 : Int32) (1 : Int32) (0 : Int32) T L rfl hT ⟨(by omega), (by omega)⟩ (by omega)
set_option maxHeartbeats 1000000 in
set_option maxRecDepth 100000 in
theorem t_X6_stealPercent (T : Tr) (P : Tr) (L : Lo) (x1 : Int32) (hT : iR BT T) (hP : iR BP P) (hx1 : 0 ≤ x1.toInt ∧ x1.toInt ≤ 9) : D (f_X6_stealPercent T P L x1) (fun (q : Int32 × Tr × Lo) => (iR BT (q.2.1)) ∧ ((q.2.1) 0 0 = (T 0 0))) := by
  unfold f_X6_stealPercent
  refine D_ck (okI_of (by omega) (by omega)) ?_
  have n1 : 0 ≤ (P 14 x1.toNatClampNeg).toInt ∧ (P 14 x1.toNatClampNeg).toInt ≤ 5 := hP 14 x1.toNatClampNeg
  refine D_ck (okI_of (by omega) (by omega)) ?_
  have l2 : (2 : Int32).toInt = 2 := by decide
  have n2 := i_rng (T 10 (P 14 x1.toNatClampNeg).toNatClampNeg)
  refine D_bd3 (t_X6_worked T P L (2 : Int32) x1 (T 10 (P 14 x1.toNatClampNeg).toNatClampNeg) hT hP ⟨(by clear hx1 n1 n2; omega), (by clear hx1 n1 n2; omega)⟩ ⟨(by omega), (by omega)⟩) (fun r3 T_4 L_5 eq7 hq6 => ?_)
  refine D_lte (y := r3) rfl ?_
  refine D_lte (y := T_4) rfl ?_
  refine D_lte (y := L_5) rfl ?_
  obtain ⟨p8, p9⟩ : (iR BT T_4) ∧ (T_4 0 0 = (T 0 0)) := hq6
  have k10 : T_4 0 0 = (T 0 0) := p9
  refine D_ite (fun c11 => ?_) (fun c11 => ?_)
  · skip
    have l10 : (10 : Int32).toInt = 10 := by decide
    exact D_some (show (iR BT T_4) ∧ (T_4 0 0 = (T 0 0)) from ⟨p8, k10⟩)
  · skip
    have l100 : (100 : Int32).toInt = 100 := by decide
    refine D_bd (t_X6_within r3 (100 : Int32) ) (fun r12 eq14 hq13 => ?_)
    have n15 := i_rng r12
    exact D_some (show (iR BT T_4) ∧ (T_4 0 0 = (T 0 0)) from ⟨p8, k10⟩)
set_option maxHeartbeats 1000000 in
set_option maxRecDepth 100000 in
theorem tl_X6_stealAway_L2 (zT_0_0 : Int32) (P : Tr) (hP : iR BP P)   (N : Nat) : ∀ (x1 : Int32) (T : Tr) (L : Lo), T 0 0 = zT_0_0 → iR BT T → 0 ≤ x1.toInt ∧ x1.toInt ≤ 1000 → 1000 - x1.toInt < (N : Int) → D (lpF (fun _ _ _ => none) (fB_X6_stealAway_L2 P) N x1 T L) (fun (q : Tr × Lo) => (iR BT (q.1)) ∧ ((q.1) 0 0 = zT_0_0)) := by
  induction N with
  | zero =>
    intro x1 T L dT_0_0 hT hx1 hN
    exfalso
    omega
  | succ N2 ih =>
    intro x1 T L dT_0_0 hT hx1 hN
    have hk2 : ∀ (x1 : Int32) (T : Tr) (L : Lo), T 0 0 = zT_0_0 → iR BT T → 0 ≤ x1.toInt ∧ x1.toInt ≤ 1000 → 1000 - x1.toInt < (N2 : Int) → D (lpF (fun _ _ _ => none) (fB_X6_stealAway_L2 P) N2 x1 T L) (fun (q : Tr × Lo) => (iR BT (q.1)) ∧ ((q.1) 0 0 = zT_0_0)) := ih
    show D (fB_X6_stealAway_L2 P (lpF (fun _ _ _ => none) (fB_X6_stealAway_L2 P) N2) x1 T L) _
    generalize lpF (fun _ _ _ => none) (fB_X6_stealAway_L2 P) N2 = k2 at hk2 ⊢
    have hN2 : 1000 - x1.toInt < (N2 : Int) + 1 := by omega
    clear ih
    unfold fB_X6_stealAway_L2
    have n2 : 0 ≤ (P 0 2).toInt ∧ (P 0 2).toInt ≤ 10 := hP 0 2
    refine D_ite (fun c1 => ?_) (fun c1 => ?_)
    · have kc1 := tq_le (x := (P 0 2)) (y := x1) rfl rfl c1
      exact D_some (show (iR BT T) ∧ (T 0 0 = zT_0_0) from ⟨hT, dT_0_0⟩)
    · have kc1 := tq_len (x := (P 0 2)) (y := x1) rfl rfl c1
      have n4 := i_rng (T 0 7)
      refine D_ite (fun c3 => ?_) (fun c3 => ?_)
      · have kc3 := tq_eq (x := (T 0 7)) (y := (0 : Int32)) rfl (b := 0) (by decide) c3
        exact D_some (show (iR BT T) ∧ (T 0 0 = zT_0_0) from ⟨hT, dT_0_0⟩)
      · skip
        refine D_ck (okI_of (by clear hN2 hN n4; omega) (by clear hN2 hN n4; omega)) ?_
        refine D_lt (fun y5 ey5 => ?_)
        have n6 : (-1) ≤ (T 15 x1.toNatClampNeg).toInt ∧ (T 15 x1.toNatClampNeg).toInt ≤ 4 := hT 15 x1.toNatClampNeg
        have hy5 : y5.toInt = (T 15 x1.toNatClampNeg).toInt := by rw [ey5]
        refine D_ite (fun c7 => ?_) (fun c7 => ?_)
        · have kc7 := tq_lt (x := y5) (y := (0 : Int32)) rfl (b := 0) (by decide) c7
          have n9 : (x1 + 1).toInt = x1.toInt + 1 := i_addK rfl (by decide) (by clear hN2 hN n4 n6 hy5 kc7; omega) (by clear hN2 hN n4 n6 hy5 kc7; omega)
          refine D_lt (fun y8 ey8 => ?_)
          have hy8 : y8.toInt = (x1 + 1 : Int32).toInt := by rw [ey8]
          exact hk2 y8 T L dT_0_0 hT ⟨(by clear hN2 hN n4 n6 hy5 kc7; omega), (by clear hN2 hN n4 n6 hy5 kc7; omega)⟩ (by clear n4 n6 hy5 kc7; omega)
        · have kc7 := tq_ltn (x := y5) (y := (0 : Int32)) rfl (b := 0) (by decide) c7
          refine D_ck (okI_of (by clear hx1 hN2 hN n2 kc1 n4; omega) (by clear hx1 hN2 hN n2 kc1 n4; omega)) ?_
          have n11 := i_rng (P 8 y5.toNatClampNeg)
          refine D_ite (fun c10 => ?_) (fun c10 => ?_)
          · have kc10 := tq_eq (x := (P 8 y5.toNatClampNeg)) (y := (4 : Int32)) rfl (b := 4) (by decide) c10
            refine D_bd3 (t_X6_stealPercent T P L x1 hT hP ⟨(by clear hN2 hN n4 n6 hy5 kc7 n11 kc10; omega), (by clear hN2 hN n4 n6 hy5 kc7 n11 kc10; omega)⟩) (fun r12 T_13 L_14 eq16 hq15 => ?_)
            refine D_lte (y := r12) rfl ?_
            refine D_lte (y := T_13) rfl ?_
            refine D_lte (y := L_14) rfl ?_
            obtain ⟨p17, p18⟩ : (iR BT T_13) ∧ (T_13 0 0 = (T 0 0)) := hq15
            have n19 := i_rng r12
            have k20 : T_13 0 0 = zT_0_0 := p18.trans dT_0_0
            refine D_bd2 (t_X6_happens T_13 r12 p17) (fun r21 T_22 eq24 hq23 => ?_)
            refine D_lte (y := r21) rfl ?_
            refine D_lte (y := T_22) rfl ?_
            obtain ⟨p25, p26, p27⟩ : (0 ≤ r21.toInt ∧ r21.toInt ≤ 1) ∧ (iR BT T_22) ∧ (T_22 0 0 = (T_13 0 0)) := hq23
            have k28 : T_22 0 0 = zT_0_0 := p27.trans k20
            refine D_ite (fun c29 => ?_) (fun c29 => ?_)
            · have kc29 := tq_eq (x := r21) (y := (0 : Int32)) rfl (b := 0) (by decide) c29
              have n31 : (x1 + 1).toInt = x1.toInt + 1 := i_addK rfl (by decide) (by clear hN2 hN n4 n6 hy5 kc7 n11 kc10 n19 p25 kc29; omega) (by clear hN2 hN n4 n6 hy5 kc7 n11 kc10 n19 p25 kc29; omega)
              refine D_lt (fun y30 ey30 => ?_)
              have hy30 : y30.toInt = (x1 + 1 : Int32).toInt := by rw [ey30]
              exact hk2 y30 T_22 L_14 k28 p26 ⟨(by clear hN2 hN n4 n6 hy5 kc7 n11 kc10 n19 p25 kc29; omega), (by clear hN2 hN n4 n6 hy5 kc7 n11 kc10 n19 p25 kc29; omega)⟩ (by clear n4 n6 hy5 kc7 n11 kc10 n19 p25 kc29; omega)
            · have kc290 := tq_eqn (x := r21) (y := (0 : Int32)) rfl (b := 0) (by decide) c29
              have kc29 : 1 ≤ r21.toInt := (by clear hx1 hN2 hN n2 kc1 n4 n6 hy5 kc7 n11 kc10 n19; omega)
              clear kc290
              have l4 : (4 : Int32).toInt = 4 := by decide
              refine D_bd (t_X6_takeAway T_22 P x1 (4 : Int32) p26 hP ⟨(by clear hN2 hN n4 n6 hy5 kc7 n11 kc10 n19 p25 kc29; omega), (by clear hN2 hN n4 n6 hy5 kc7 n11 kc10 n19 p25 kc29; omega)⟩) (fun T_32 eq34 hq33 => ?_)
              obtain ⟨p35, p36⟩ : (iR BT T_32) ∧ (T_32 0 0 = (T_22 0 0)) := hq33
              have k37 : T_32 0 0 = zT_0_0 := p36.trans k28
              have n39 : (x1 + 1).toInt = x1.toInt + 1 := i_addK rfl (by decide) (by clear hN2 hN n4 n6 hy5 kc7 n11 kc10 n19 p25 kc29; omega) (by clear hN2 hN n4 n6 hy5 kc7 n11 kc10 n19 p25 kc29; omega)
              refine D_lt (fun y38 ey38 => ?_)
              have hy38 : y38.toInt = (x1 + 1 : Int32).toInt := by rw [ey38]
              exact hk2 y38 T_32 L_14 k37 p35 ⟨(by clear hN2 hN n4 n6 hy5 kc7 n11 kc10 n19 p25 kc29; omega), (by clear hN2 hN n4 n6 hy5 kc7 n11 kc10 n19 p25 kc29; omega)⟩ (by clear n4 n6 hy5 kc7 n11 kc10 n19 p25 kc29; omega)
          · skip
            have n41 : (x1 + 1).toInt = x1.toInt + 1 := i_addK rfl (by decide) (by clear hN2 hN n4 n6 hy5 kc7 n11; omega) (by clear hN2 hN n4 n6 hy5 kc7 n11; omega)
            refine D_lt (fun y40 ey40 => ?_)
            have hy40 : y40.toInt = (x1 + 1 : Int32).toInt := by rw [ey40]
            exact hk2 y40 T L dT_0_0 hT ⟨(by clear hN2 hN n4 n6 hy5 kc7 n11; omega), (by clear hN2 hN n4 n6 hy5 kc7 n11; omega)⟩ (by clear n4 n6 hy5 kc7 n11; omega)
set_option maxHeartbeats 1000000 in
set_option maxRecDepth 100000 in
theorem t_X6_stealAway (T : Tr) (P : Tr) (L : Lo) (hT : iR BT T) (hP : iR BP P) : D (f_X6_stealAway T P L) (fun (q : Tr × Lo) => (iR BT (q.1)) ∧ ((q.1) 0 0 = (T 0 0))) := by
  unfold f_X6_stealAway
  have l0 : (0 : Int32).toInt = 0 := by decide
  exact tl_X6_stealAway_L2 (T 0 0) P hP   2000 (0 : Int32) T L rfl hT ⟨(by omega), (by omega)⟩ (by omega)
set_option maxHeartbeats 1000000 in
set_option maxRecDepth 100000 in
theorem t_X6_wayOn (T : Tr) (P : Tr) (L : Lo) (hT : iR BT T) (hP : iR BP P) (hs : (T 0 0).toInt ≤ 20) : D (f_X6_wayOn T P L) (fun (q : Tr × Lo) => (iR BT (q.1)) ∧ (((q.1) 0 0).toInt = (T 0 0).toInt + 1)) := by
  unfold f_X6_wayOn
  refine D_bd3 (t_X6_fallOff T P L hT hP) (fun r1 T_2 L_3 eq5 hq4 => ?_)
  refine D_lte (y := r1) rfl ?_
  refine D_lte (y := T_2) rfl ?_
  refine D_lte (y := L_3) rfl ?_
  obtain ⟨p6, p7⟩ : (iR BT T_2) ∧ (T_2 0 0 = (T 0 0)) := hq4
  have n8 := i_rng r1
  have k9 : T_2 0 0 = (T 0 0) := p7
  refine D_bd2 (t_X6_stealAway T_2 P L_3 p6 hP) (fun T_10 L_11 eq13 hq12 => ?_)
  refine D_lte (y := T_10) rfl ?_
  refine D_lte (y := L_11) rfl ?_
  obtain ⟨p14, p15⟩ : (iR BT T_10) ∧ (T_10 0 0 = (T_2 0 0)) := hq12
  have k16 : T_10 0 0 = (T 0 0) := p15.trans k9
  have n18 : 0 ≤ (T_10 0 0).toInt ∧ (T_10 0 0).toInt ≤ 21 := p14 0 0
  have n19 : ((T_10 0 0) + 1).toInt = (T_10 0 0).toInt + 1 := i_addK rfl (by decide) (by omega) (by omega)
  have n20 : 0 ≤ (T 0 0).toInt ∧ (T 0 0).toInt ≤ 21 := hT 0 0
  have kz21 : (T_10 0 0).toInt = (T 0 0).toInt := congrArg Int32.toInt k16
  refine D_lt (fun T_17 eT_17 => ?_)
  have hT_17 : iR BT T_17 := by rw [eT_17]; exact iR_set p14 (show (0 : Int) ≤ _ from (by omega)) (show _ ≤ (21 : Int) from (by omega))
  have n23 : (T_17 0 0).toInt = ((T_10 0 0) + 1).toInt := by rw [eT_17]; rfl
  have hz : (T_17 0 0).toInt = (T 0 0).toInt + 1 := by rw [eT_17]; show (T_10 0 0 + 1).toInt = _; omega
  exact D_some (show (iR BT T_17) ∧ ((T_17 0 0).toInt = (T 0 0).toInt + 1) from ⟨hT_17, hz⟩)
set_option maxHeartbeats 1000000 in
set_option maxRecDepth 100000 in
theorem t_X6_passStop (T : Tr) (P : Tr) (L : Lo) (hT : iR BT T) (hP : iR BP P) : D (f_X6_passStop T P L) (fun (q : Tr × Lo) => (iR BT (q.1))) := by
  unfold f_X6_passStop
  have n2 : 0 ≤ (T 0 0).toInt ∧ (T 0 0).toInt ≤ 21 := hT 0 0
  refine D_ite (fun c1 => ?_) (fun c1 => ?_)
  · have kc1 := tq_lt (x := (20 : Int32)) (y := (T 0 0)) (a := 20) (by decide) rfl c1
    exact D_some (show (iR BT T) from hT)
  · have kc1 := tq_ltn (x := (20 : Int32)) (y := (T 0 0)) (a := 20) (by decide) rfl c1
    refine D_ck (okI_of (by omega) (by omega)) ?_
    have n3 := i_rng (P 18 (T 0 0).toNatClampNeg)
    refine D_bd3 (t_X6_takeDown T P L (P 18 (T 0 0).toNatClampNeg) hT hP) (fun r4 T_5 L_6 eq8 hq7 => ?_)
    refine D_lte (y := r4) rfl ?_
    refine D_lte (y := T_5) rfl ?_
    refine D_lte (y := L_6) rfl ?_
    obtain ⟨p9, p10⟩ : (iR BT T_5) ∧ (T_5 0 0 = (T 0 0)) := hq7
    have n11 := i_rng r4
    have k12 : T_5 0 0 = (T 0 0) := p10
    refine D_bd (t_X6_getIn T_5 P p9 hP) (fun T_13 eq15 hq14 => ?_)
    obtain ⟨p16, p17⟩ : (iR BT T_13) ∧ (T_13 0 0 = (T_5 0 0)) := hq14
    have k18 : T_13 0 0 = (T 0 0) := p17.trans k12
    refine D_bd2 (t_X6_wayOn T_13 P L_6 p16 hP (by rw [k18]; omega)) (fun T_19 L_20 eq22 hq21 => ?_)
    refine D_lte (y := T_19) rfl ?_
    refine D_lte (y := L_20) rfl ?_
    obtain ⟨p23, p24⟩ : (iR BT T_19) ∧ ((T_19 0 0).toInt = (T_13 0 0).toInt + 1) := hq21
    exact D_some (show (iR BT T_19) from p23)
set_option maxHeartbeats 1000000 in
set_option maxRecDepth 100000 in
theorem tl_X6_personsAboard_L4 (T : Tr) (P : Tr) (hT : iR BT T) (hP : iR BP P)   (N : Nat) : ∀ (x1 : Int32) (x2 : Int32), 0 ≤ x2.toInt ∧ x2.toInt ≤ 1000 → 1000 - x2.toInt < (N : Int) → D (lpF (fun _ _ => none) (fB_X6_personsAboard_L4 T P) N x1 x2) (fun (q : Int32) => True) := by
  induction N with
  | zero =>
    intro x1 x2 hx2 hN
    exfalso
    omega
  | succ N4 ih =>
    intro x1 x2 hx2 hN
    have hk4 : ∀ (x1 : Int32) (x2 : Int32), 0 ≤ x2.toInt ∧ x2.toInt ≤ 1000 → 1000 - x2.toInt < (N4 : Int) → D (lpF (fun _ _ => none) (fB_X6_personsAboard_L4 T P) N4 x1 x2) (fun (q : Int32) => True) := ih
    show D (fB_X6_personsAboard_L4 T P (lpF (fun _ _ => none) (fB_X6_personsAboard_L4 T P) N4) x1 x2) _
    generalize lpF (fun _ _ => none) (fB_X6_personsAboard_L4 T P) N4 = k4 at hk4 ⊢
    have hN4 : 1000 - x2.toInt < (N4 : Int) + 1 := by omega
    clear ih
    unfold fB_X6_personsAboard_L4
    have n2 : 0 ≤ (P 0 1).toInt ∧ (P 0 1).toInt ≤ 6 := hP 0 1
    refine D_ite (fun c1 => ?_) (fun c1 => ?_)
    · have kc1 := tq_le (x := (P 0 1)) (y := x2) rfl rfl c1
      have n3 := i_rng x1
      exact D_some trivial
    · have kc1 := tq_len (x := (P 0 1)) (y := x2) rfl rfl c1
      refine D_ck (okI_of (by omega) (by omega)) ?_
      have n5 := i_rng (T 11 x2.toNatClampNeg)
      refine D_ite (fun c4 => ?_) (fun c4 => ?_)
      · have kc4 := tq_eq (x := (T 11 x2.toNatClampNeg)) (y := (1 : Int32)) rfl (b := 1) (by decide) c4
        have n7 := i_rng (x1 + 1)
        refine D_lt (fun y6 ey6 => ?_)
        have hy6 : y6.toInt = (x1 + 1 : Int32).toInt := by rw [ey6]
        have n9 : (x2 + 1).toInt = x2.toInt + 1 := i_addK rfl (by decide) (by clear hN4 hN n5 kc4 n7 hy6; omega) (by clear hN4 hN n5 kc4 n7 hy6; omega)
        refine D_lt (fun y8 ey8 => ?_)
        have hy8 : y8.toInt = (x2 + 1 : Int32).toInt := by rw [ey8]
        exact hk4 y6 y8 ⟨(by clear hN4 hN n5 kc4 n7 hy6; omega), (by clear hN4 hN n5 kc4 n7 hy6; omega)⟩ (by clear n5 kc4 n7 hy6; omega)
      · skip
        have n11 : (x2 + 1).toInt = x2.toInt + 1 := i_addK rfl (by decide) (by clear hN4 hN n5; omega) (by clear hN4 hN n5; omega)
        refine D_lt (fun y10 ey10 => ?_)
        have hy10 : y10.toInt = (x2 + 1 : Int32).toInt := by rw [ey10]
        have n12 := i_rng x1
        exact hk4 x1 y10 ⟨(by clear hN4 hN n5 n12; omega), (by clear hN4 hN n5 n12; omega)⟩ (by omega)
set_option maxHeartbeats 1000000 in
set_option maxRecDepth 100000 in
theorem t_X6_personsAboard (T : Tr) (P : Tr) (hT : iR BT T) (hP : iR BP P) : D (f_X6_personsAboard T P) (fun (q : Int32) => True) := by
  unfold f_X6_personsAboard
  have l0 : (0 : Int32).toInt = 0 := by decide
  exact tl_X6_personsAboard_L4 T P hT hP   2000 (0 : Int32) (0 : Int32) ⟨(by omega), (by omega)⟩ (by omega)
set_option maxHeartbeats 1000000 in
set_option maxRecDepth 100000 in
theorem tl_X6_piecesThatAre_L4 (T : Tr) (P : Tr) (x1 : Int32) (hT : iR BT T) (hP : iR BP P)   (N : Nat) : ∀ (x2 : Int32) (x3 : Int32), 0 ≤ x3.toInt ∧ x3.toInt ≤ 1000 → 1000 - x3.toInt < (N : Int) → D (lpF (fun _ _ => none) (fB_X6_piecesThatAre_L4 T P x1) N x2 x3) (fun (q : Int32) => True) := by
  induction N with
  | zero =>
    intro x2 x3 hx3 hN
    exfalso
    omega
  | succ N4 ih =>
    intro x2 x3 hx3 hN
    have hk4 : ∀ (x2 : Int32) (x3 : Int32), 0 ≤ x3.toInt ∧ x3.toInt ≤ 1000 → 1000 - x3.toInt < (N4 : Int) → D (lpF (fun _ _ => none) (fB_X6_piecesThatAre_L4 T P x1) N4 x2 x3) (fun (q : Int32) => True) := ih
    show D (fB_X6_piecesThatAre_L4 T P x1 (lpF (fun _ _ => none) (fB_X6_piecesThatAre_L4 T P x1) N4) x2 x3) _
    generalize lpF (fun _ _ => none) (fB_X6_piecesThatAre_L4 T P x1) N4 = k4 at hk4 ⊢
    have hN4 : 1000 - x3.toInt < (N4 : Int) + 1 := by omega
    clear ih
    unfold fB_X6_piecesThatAre_L4
    have n2 : 0 ≤ (P 0 2).toInt ∧ (P 0 2).toInt ≤ 10 := hP 0 2
    refine D_ite (fun c1 => ?_) (fun c1 => ?_)
    · have kc1 := tq_le (x := (P 0 2)) (y := x3) rfl rfl c1
      have n3 := i_rng x2
      exact D_some trivial
    · have kc1 := tq_len (x := (P 0 2)) (y := x3) rfl rfl c1
      refine D_ck (okI_of (by omega) (by omega)) ?_
      have n5 := i_rng (T 14 x3.toNatClampNeg)
      have n6 := i_rng x1
      refine D_ite (fun c4 => ?_) (fun c4 => ?_)
      · have kc4 := tq_eq (x := (T 14 x3.toNatClampNeg)) (y := x1) rfl rfl c4
        have n8 := i_rng (x2 + 1)
        refine D_lt (fun y7 ey7 => ?_)
        have hy7 : y7.toInt = (x2 + 1 : Int32).toInt := by rw [ey7]
        have n10 : (x3 + 1).toInt = x3.toInt + 1 := i_addK rfl (by decide) (by clear hN4 hN n5 n6 kc4 n8 hy7; omega) (by clear hN4 hN n5 n6 kc4 n8 hy7; omega)
        refine D_lt (fun y9 ey9 => ?_)
        have hy9 : y9.toInt = (x3 + 1 : Int32).toInt := by rw [ey9]
        exact hk4 y7 y9 ⟨(by clear hN4 hN n5 n6 kc4 n8 hy7; omega), (by clear hN4 hN n5 n6 kc4 n8 hy7; omega)⟩ (by clear n5 n6 kc4 n8 hy7; omega)
      · skip
        have n12 : (x3 + 1).toInt = x3.toInt + 1 := i_addK rfl (by decide) (by clear hN4 hN n5 n6; omega) (by clear hN4 hN n5 n6; omega)
        refine D_lt (fun y11 ey11 => ?_)
        have hy11 : y11.toInt = (x3 + 1 : Int32).toInt := by rw [ey11]
        have n13 := i_rng x2
        exact hk4 x2 y11 ⟨(by clear hN4 hN n5 n6 n13; omega), (by clear hN4 hN n5 n6 n13; omega)⟩ (by clear n5 n6 n13; omega)
set_option maxHeartbeats 1000000 in
set_option maxRecDepth 100000 in
theorem t_X6_piecesThatAre (T : Tr) (P : Tr) (x1 : Int32) (hT : iR BT T) (hP : iR BP P) : D (f_X6_piecesThatAre T P x1) (fun (q : Int32) => True) := by
  unfold f_X6_piecesThatAre
  have l0 : (0 : Int32).toInt = 0 := by decide
  have n14 := i_rng x1
  exact tl_X6_piecesThatAre_L4 T P x1 hT hP   2000 (0 : Int32) (0 : Int32) ⟨(by omega), (by omega)⟩ (by omega)
set_option maxHeartbeats 1000000 in
set_option maxRecDepth 100000 in
theorem tl_X6_runToEnd_L0 (zT_0_0 : Int32) (P : Tr) (hP : iR BP P)   (N : Nat) : ∀ (T : Tr) (L : Lo), iR BT T → 22 - (T 0 0).toInt < (N : Int) → D (lpF (fun _ _ => none) (fB_X6_runToEnd_L0 P) N T L) (fun (q : Tr × Lo) => (iR BT (q.1))) := by
  induction N with
  | zero =>
    intro T L hT hN
    exfalso
    have n46 : 0 ≤ (T 0 0).toInt ∧ (T 0 0).toInt ≤ 21 := hT 0 0
    omega
  | succ N0 ih =>
    intro T L hT hN
    have hk0 : ∀ (T : Tr) (L : Lo), iR BT T → 22 - (T 0 0).toInt < (N0 : Int) → D (lpF (fun _ _ => none) (fB_X6_runToEnd_L0 P) N0 T L) (fun (q : Tr × Lo) => (iR BT (q.1))) := ih
    show D (fB_X6_runToEnd_L0 P (lpF (fun _ _ => none) (fB_X6_runToEnd_L0 P) N0) T L) _
    generalize lpF (fun _ _ => none) (fB_X6_runToEnd_L0 P) N0 = k0 at hk0 ⊢
    have hN0 : 22 - (T 0 0).toInt < (N0 : Int) + 1 := by omega
    clear ih
    unfold fB_X6_runToEnd_L0
    have n2 : 0 ≤ (T 0 0).toInt ∧ (T 0 0).toInt ≤ 21 := hT 0 0
    refine D_ite (fun c1 => ?_) (fun c1 => ?_)
    · have kc1 := tq_lt (x := (20 : Int32)) (y := (T 0 0)) (a := 20) (by decide) rfl c1
      exact D_some (show (iR BT T) from hT)
    · have kc1 := tq_ltn (x := (20 : Int32)) (y := (T 0 0)) (a := 20) (by decide) rfl c1
      refine D_bd (t_X6_isBusy T P hT hP) (fun r3 eq5 hq4 => ?_)
      have p6 : 0 ≤ r3.toInt ∧ r3.toInt ≤ 1 := hq4
      refine D_ite (fun c7 => ?_) (fun c7 => ?_)
      · have kc7 := tq_eq (x := r3) (y := (0 : Int32)) rfl (b := 0) (by decide) c7
        exact D_some (show (iR BT T) from hT)
      · have kc70 := tq_eqn (x := r3) (y := (0 : Int32)) rfl (b := 0) (by decide) c7
        have kc7 : 1 ≤ r3.toInt := (by clear hN0 hN n2 kc1; omega)
        clear kc70
        refine D_ck (okI_of (by clear hN0 hN p6 kc7; omega) (by clear hN0 hN p6 kc7; omega)) ?_
        have n8 := i_rng (P 18 (T 0 0).toNatClampNeg)
        refine D_bd3 (t_X6_takeDown T P L (P 18 (T 0 0).toNatClampNeg) hT hP) (fun r9 T_10 L_11 eq13 hq12 => ?_)
        refine D_lte (y := r9) rfl ?_
        refine D_lte (y := T_10) rfl ?_
        refine D_lte (y := L_11) rfl ?_
        obtain ⟨p14, p15⟩ : (iR BT T_10) ∧ (T_10 0 0 = (T 0 0)) := hq12
        have n16 := i_rng r9
        have k17 : T_10 0 0 = (T 0 0) := p15
        refine D_bd (t_X6_getIn T_10 P p14 hP) (fun T_18 eq20 hq19 => ?_)
        obtain ⟨p21, p22⟩ : (iR BT T_18) ∧ (T_18 0 0 = (T_10 0 0)) := hq19
        have k23 : T_18 0 0 = (T 0 0) := p22.trans k17
        refine D_bd3 (t_X6_fallOff T_18 P L_11 p21 hP) (fun r24 T_25 L_26 eq28 hq27 => ?_)
        refine D_lte (y := r24) rfl ?_
        refine D_lte (y := T_25) rfl ?_
        refine D_lte (y := L_26) rfl ?_
        obtain ⟨p29, p30⟩ : (iR BT T_25) ∧ (T_25 0 0 = (T_18 0 0)) := hq27
        have n31 := i_rng r24
        have k32 : T_25 0 0 = (T 0 0) := p30.trans k23
        refine D_bd2 (t_X6_stealAway T_25 P L_26 p29 hP) (fun T_33 L_34 eq36 hq35 => ?_)
        refine D_lte (y := T_33) rfl ?_
        refine D_lte (y := L_34) rfl ?_
        obtain ⟨p37, p38⟩ : (iR BT T_33) ∧ (T_33 0 0 = (T_25 0 0)) := hq35
        have k39 : T_33 0 0 = (T 0 0) := p38.trans k32
        have n41 : 0 ≤ (T_33 0 0).toInt ∧ (T_33 0 0).toInt ≤ 21 := p37 0 0
        have n42 : ((T_33 0 0) + 1).toInt = (T_33 0 0).toInt + 1 := i_addK rfl (by decide) (by clear hN0 hN n2 kc1 p6 kc7 n8 n16 n31; omega) (by clear hN0 hN n2 kc1 p6 kc7 n8 n16 n31; omega)
        have kz43 : (T_33 0 0).toInt = (T 0 0).toInt := congrArg Int32.toInt k39
        refine D_lt (fun T_40 eT_40 => ?_)
        have hT_40 : iR BT T_40 := by rw [eT_40]; exact iR_set p37 (show (0 : Int) ≤ _ from (by clear hN0 hN p6 kc7 n8 n16 n31; omega)) (show _ ≤ (21 : Int) from (by clear hN0 hN p6 kc7 n8 n16 n31; omega))
        have n45 : (T_40 0 0).toInt = ((T_33 0 0) + 1).toInt := by rw [eT_40]; rfl
        have hz : (T_40 0 0).toInt = (T 0 0).toInt + 1 := by rw [eT_40]; show (T_33 0 0 + 1).toInt = _; omega
        exact hk0 T_40 L_34 hT_40 (by clear p6 kc7 n8 n16 n31; omega)
set_option maxHeartbeats 1000000 in
set_option maxRecDepth 100000 in
theorem t_X6_runToEnd (T : Tr) (P : Tr) (L : Lo) (hT : iR BT T) (hP : iR BP P) : D (f_X6_runToEnd T P L) (fun (q : Tr × Lo) => (iR BT (q.1))) := by
  unfold f_X6_runToEnd
  have n47 : 0 ≤ (T 0 0).toInt ∧ (T 0 0).toInt ≤ 21 := hT 0 0
  exact tl_X6_runToEnd_L0 (T 0 0) P hP   2000 T L hT (by omega)
set_option maxHeartbeats 1000000 in
set_option maxRecDepth 100000 in
theorem t_X6_sendAway (T : Tr) (P : Tr) (x1 : Int32) (hT : iR BT T) (hP : iR BP P) (hx1 : 0 ≤ x1.toInt ∧ x1.toInt ≤ 5) : D (f_X6_sendAway T P x1) (fun (q : Tr) => (iR BT q) ∧ (q 0 0 = (T 0 0))) := by
  unfold f_X6_sendAway
  refine D_ck (okI_of (by omega) (by omega)) ?_
  have n2 := i_rng (T 11 x1.toNatClampNeg)
  refine D_ite (fun c1 => ?_) (fun c1 => ?_)
  · have kc1 := tq_eq (x := (T 11 x1.toNatClampNeg)) (y := (1 : Int32)) rfl (b := 1) (by decide) c1
    have l2 : (2 : Int32).toInt = 2 := by decide
    refine D_bd (t_X6_setFree T P x1 (2 : Int32) hT hP) (fun T_3 eq5 hq4 => ?_)
    obtain ⟨p6, p7⟩ : (iR BT T_3) ∧ (T_3 0 0 = (T 0 0)) := hq4
    have k8 : T_3 0 0 = (T 0 0) := p7
    unfold fJ_X6_sendAway_J16
    refine D_ck (okI_of (by omega) (by omega)) ?_
    refine D_lt (fun T_9 eT_9 => ?_)
    have hT_9 : iR BT T_9 := by rw [eT_9]; exact iR_setU p6 rfl
    have kT_0_0_t10 : T_9 0 0 = (T 0 0) := by rw [eT_9]; exact k8
    exact D_some (show (iR BT T_9) ∧ (T_9 0 0 = (T 0 0)) from ⟨hT_9, kT_0_0_t10⟩)
  · skip
    unfold fJ_X6_sendAway_J16
    refine D_ck (okI_of (by omega) (by omega)) ?_
    refine D_lt (fun T_11 eT_11 => ?_)
    have hT_11 : iR BT T_11 := by rw [eT_11]; exact iR_setU hT rfl
    have kT_0_0_t12 : T_11 0 0 = (T 0 0) := by rw [eT_11]; exact rfl
    exact D_some (show (iR BT T_11) ∧ (T_11 0 0 = (T 0 0)) from ⟨hT_11, kT_0_0_t12⟩)
set_option maxHeartbeats 1000000 in
set_option maxRecDepth 100000 in
theorem tl_X6_strengthenAll_L2 (zT_0_0 : Int32)    (N : Nat) : ∀ (x1 : Int32) (T : Tr), T 0 0 = zT_0_0 → iR BT T → 0 ≤ x1.toInt ∧ x1.toInt ≤ 1000 → 1000 - x1.toInt < (N : Int) → D (lpF (fun _ _ => none) (fB_X6_strengthenAll_L2 ) N x1 T) (fun (q : Tr) => (iR BT q) ∧ (q 0 0 = zT_0_0)) := by
  induction N with
  | zero =>
    intro x1 T dT_0_0 hT hx1 hN
    exfalso
    omega
  | succ N2 ih =>
    intro x1 T dT_0_0 hT hx1 hN
    have hk2 : ∀ (x1 : Int32) (T : Tr), T 0 0 = zT_0_0 → iR BT T → 0 ≤ x1.toInt ∧ x1.toInt ≤ 1000 → 1000 - x1.toInt < (N2 : Int) → D (lpF (fun _ _ => none) (fB_X6_strengthenAll_L2 ) N2 x1 T) (fun (q : Tr) => (iR BT q) ∧ (q 0 0 = zT_0_0)) := ih
    show D (fB_X6_strengthenAll_L2  (lpF (fun _ _ => none) (fB_X6_strengthenAll_L2 ) N2) x1 T) _
    generalize lpF (fun _ _ => none) (fB_X6_strengthenAll_L2 ) N2 = k2 at hk2 ⊢
    have hN2 : 1000 - x1.toInt < (N2 : Int) + 1 := by omega
    clear ih
    unfold fB_X6_strengthenAll_L2
    refine D_ite (fun c1 => ?_) (fun c1 => ?_)
    · have kc1 := tq_le (x := (6 : Int32)) (y := x1) (a := 6) (by decide) rfl c1
      exact D_some (show (iR BT T) ∧ (T 0 0 = zT_0_0) from ⟨hT, dT_0_0⟩)
    · have kc1 := tq_len (x := (6 : Int32)) (y := x1) (a := 6) (by decide) rfl c1
      refine D_ck (okI_of (by omega) (by omega)) ?_
      refine D_lt (fun T_2 eT_2 => ?_)
      have hT_2 : iR BT T_2 := by rw [eT_2]; exact iR_setU hT rfl
      have kT_0_0_t3 : T_2 0 0 = zT_0_0 := by rw [eT_2]; exact dT_0_0
      have n5 : (x1 + 1).toInt = x1.toInt + 1 := i_addK rfl (by decide) (by omega) (by omega)
      refine D_lt (fun y4 ey4 => ?_)
      have hy4 : y4.toInt = (x1 + 1 : Int32).toInt := by rw [ey4]
      exact hk2 y4 T_2 kT_0_0_t3 hT_2 ⟨(by omega), (by omega)⟩ (by omega)
set_option maxHeartbeats 1000000 in
set_option maxRecDepth 100000 in
theorem t_X6_strengthenAll (T : Tr) (hT : iR BT T) : D (f_X6_strengthenAll T) (fun (q : Tr) => (iR BT q) ∧ (q 0 0 = (T 0 0))) := by
  unfold f_X6_strengthenAll
  have l0 : (0 : Int32).toInt = 0 := by decide
  exact tl_X6_strengthenAll_L2 (T 0 0)    2000 (0 : Int32) T rfl hT ⟨(by omega), (by omega)⟩ (by omega)
set_option maxHeartbeats 1000000 in
set_option maxRecDepth 100000 in
theorem tl_X6_turnedLevel_L5 (T : Tr) (P : Tr) (x1 : Int32) (x2 : Int32) (hT : iR BT T) (hP : iR BP P) (hx1 : 0 ≤ x1.toInt ∧ x1.toInt ≤ 4) (hx2 : 0 ≤ x2.toInt ∧ x2.toInt ≤ 9)   (N : Nat) : ∀ (x3 : Int32) (x4 : Int32), 0 ≤ x4.toInt ∧ x4.toInt ≤ 1000 → 1000 - x4.toInt < (N : Int) → D (lpF (fun _ _ => none) (fB_X6_turnedLevel_L5 T P x1 x2) N x3 x4) (fun (q : Int32) => True) := by
  induction N with
  | zero =>
    intro x3 x4 hx4 hN
    exfalso
    omega
  | succ N5 ih =>
    intro x3 x4 hx4 hN
    have hk5 : ∀ (x3 : Int32) (x4 : Int32), 0 ≤ x4.toInt ∧ x4.toInt ≤ 1000 → 1000 - x4.toInt < (N5 : Int) → D (lpF (fun _ _ => none) (fB_X6_turnedLevel_L5 T P x1 x2) N5 x3 x4) (fun (q : Int32) => True) := ih
    show D (fB_X6_turnedLevel_L5 T P x1 x2 (lpF (fun _ _ => none) (fB_X6_turnedLevel_L5 T P x1 x2) N5) x3 x4) _
    generalize lpF (fun _ _ => none) (fB_X6_turnedLevel_L5 T P x1 x2) N5 = k5 at hk5 ⊢
    have hN5 : 1000 - x4.toInt < (N5 : Int) + 1 := by omega
    clear ih
    unfold fB_X6_turnedLevel_L5
    refine D_ck (okI_of (by clear hx2 hx4 hN5 hN; omega) (by clear hx2 hx4 hN5 hN; omega)) ?_
    have n2 : 0 ≤ (T 17 x1.toNatClampNeg).toInt ∧ (T 17 x1.toNatClampNeg).toInt ≤ 10 := hT 17 x1.toNatClampNeg
    refine D_ite (fun c1 => ?_) (fun c1 => ?_)
    · have kc1 := tq_le (x := (T 17 x1.toNatClampNeg)) (y := x4) rfl rfl c1
      have n3 := i_rng x3
      exact D_some trivial
    · have kc1 := tq_len (x := (T 17 x1.toNatClampNeg)) (y := x4) rfl rfl c1
      have n4 := i_mulR (a := x1) (b := (10 : Int32)) 10 (by decide) (by clear hx2 hx4 hN5 hN n2 kc1; omega) (by clear hx2 hx4 hN5 hN n2 kc1; omega)
      have n5 : ((x1 * 10) + x4).toInt = (x1 * 10).toInt + x4.toInt := i_addK rfl rfl (by clear hx2 hN5 hN; omega) (by clear hx2 hN5 hN; omega)
      refine D_ck (okI_of (by clear hx2 hN5 hN; omega) (by clear hx2 hN5 hN; omega)) ?_
      have n6 : 0 ≤ (T 16 ((x1 * 10) + x4).toNatClampNeg).toInt ∧ (T 16 ((x1 * 10) + x4).toNatClampNeg).toInt ≤ 9 := hT 16 (((x1 * 10) + x4).toNatClampNeg)
      refine D_bd (t_X6_goesAbove P x2 (T 16 ((x1 * 10) + x4).toNatClampNeg) hP ⟨(by clear hx1 hx4 hN5 hN n2 kc1 n4 n5 n6; omega), (by clear hx1 hx4 hN5 hN n2 kc1 n4 n5 n6; omega)⟩ ⟨(by clear hx1 hx2 hx4 hN5 hN n2 kc1 n4 n5; omega), (by clear hx1 hx2 hx4 hN5 hN n2 kc1 n4 n5; omega)⟩) (fun r7 eq9 hq8 => ?_)
      have p10 : 0 ≤ r7.toInt ∧ r7.toInt ≤ 1 := hq8
      refine D_ite (fun c11 => ?_) (fun c11 => ?_)
      · have kc11 := tq_eq (x := r7) (y := (0 : Int32)) rfl (b := 0) (by decide) c11
        have n13 : (x4 + 1).toInt = x4.toInt + 1 := i_addK rfl (by decide) (by clear hx2 hN5 hN n6 p10 kc11; omega) (by clear hx2 hN5 hN n6 p10 kc11; omega)
        refine D_lt (fun y12 ey12 => ?_)
        have hy12 : y12.toInt = (x4 + 1 : Int32).toInt := by rw [ey12]
        have n14 := i_rng x3
        exact hk5 x3 y12 ⟨(by clear hx2 hN5 hN n6 p10 kc11 n14; omega), (by clear hx2 hN5 hN n6 p10 kc11 n14; omega)⟩ (by clear hx2 n6 p10 kc11 n14; omega)
      · have kc110 := tq_eqn (x := r7) (y := (0 : Int32)) rfl (b := 0) (by decide) c11
        have kc11 : 1 ≤ r7.toInt := (by clear hx1 hx2 hx4 hN5 hN n2 kc1 n4 n5 n6; omega)
        clear kc110
        have n16 := i_rng (x3 + 1)
        refine D_lt (fun y15 ey15 => ?_)
        have hy15 : y15.toInt = (x3 + 1 : Int32).toInt := by rw [ey15]
        have n18 : (x4 + 1).toInt = x4.toInt + 1 := i_addK rfl (by decide) (by clear hx2 hN5 hN n6 p10 kc11 n16 hy15; omega) (by clear hx2 hN5 hN n6 p10 kc11 n16 hy15; omega)
        refine D_lt (fun y17 ey17 => ?_)
        have hy17 : y17.toInt = (x4 + 1 : Int32).toInt := by rw [ey17]
        exact hk5 y15 y17 ⟨(by clear hx2 hN5 hN n6 p10 kc11 n16 hy15; omega), (by clear hx2 hN5 hN n6 p10 kc11 n16 hy15; omega)⟩ (by clear hx2 n6 p10 kc11 n16 hy15; omega)
set_option maxHeartbeats 1000000 in
set_option maxRecDepth 100000 in
theorem t_X6_turnedLevel (T : Tr) (P : Tr) (x1 : Int32) (x2 : Int32) (hT : iR BT T) (hP : iR BP P) (hx1 : 0 ≤ x1.toInt ∧ x1.toInt ≤ 4) (hx2 : 0 ≤ x2.toInt ∧ x2.toInt ≤ 9) : D (f_X6_turnedLevel T P x1 x2) (fun (q : Int32) => True) := by
  unfold f_X6_turnedLevel
  have l0 : (0 : Int32).toInt = 0 := by decide
  exact tl_X6_turnedLevel_L5 T P x1 x2 hT hP ⟨(by omega), (by omega)⟩ ⟨(by omega), (by omega)⟩   2000 (0 : Int32) (0 : Int32) ⟨(by omega), (by omega)⟩ (by omega)
