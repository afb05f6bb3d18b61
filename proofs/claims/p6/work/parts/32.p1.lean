theorem dX11_point_0 : decode cX11_point 0 = .ok (.iload_n 1, 1) := by decide +kernel
theorem dX11_point_1 : decode cX11_point 1 = .ok (.iconst 0, 1) := by decide +kernel
theorem dX11_point_2 : decode cX11_point 2 = .ok (.sipush 999, 3) := by decide +kernel
theorem dX11_point_5 : decode cX11_point 5 = .ok (.invokestatic 71, 3) := by decide +kernel
theorem dX11_point_8 : decode cX11_point 8 = .ok (.ifCond .eq 34, 3) := by decide +kernel
theorem dX11_point_11 : decode cX11_point 11 = .ok (.iload_n 2, 1) := by decide +kernel
theorem dX11_point_12 : decode cX11_point 12 = .ok (.iconst 0, 1) := by decide +kernel
theorem dX11_point_13 : decode cX11_point 13 = .ok (.sipush 999, 3) := by decide +kernel
theorem dX11_point_16 : decode cX11_point 16 = .ok (.invokestatic 71, 3) := by decide +kernel
theorem dX11_point_19 : decode cX11_point 19 = .ok (.ifCond .eq 23, 3) := by decide +kernel
theorem dX11_point_22 : decode cX11_point 22 = .ok (.aload_n 0, 1) := by decide +kernel
theorem dX11_point_23 : decode cX11_point 23 = .ok (.getfield 10, 3) := by decide +kernel
theorem dX11_point_26 : decode cX11_point 26 = .ok (.getfield 75, 3) := by decide +kernel
theorem dX11_point_29 : decode cX11_point 29 = .ok (.iconst 0, 1) := by decide +kernel
theorem dX11_point_30 : decode cX11_point 30 = .ok (.iload_n 1, 1) := by decide +kernel
theorem dX11_point_31 : decode cX11_point 31 = .ok (.iload_n 2, 1) := by decide +kernel
theorem dX11_point_32 : decode cX11_point 32 = .ok (.invokevirtual 81, 3) := by decide +kernel
theorem dX11_point_35 : decode cX11_point 35 = .ok (.ifCond .eq 7, 3) := by decide +kernel
theorem dX11_point_38 : decode cX11_point 38 = .ok (.iconst 1, 1) := by decide +kernel
theorem dX11_point_39 : decode cX11_point 39 = .ok (.goto 4, 3) := by decide +kernel
theorem dX11_point_42 : decode cX11_point 42 = .ok (.iconst 0, 1) := by decide +kernel
theorem dX11_point_43 : decode cX11_point 43 = .ok (.ireturn, 1) := by decide +kernel
set_option maxHeartbeats 4000000 in
set_option maxRecDepth 100000 in
theorem m_X11_point (l : Launch) {Z : pZ} (S : pSh Z) {h : pH} (I : Iv Z h) (x : Int32) (y : Int32)  : pMet l yX11_point cX11_point 3 (some .boolean) 1 0 0 24 Z h [.ref (zB Z + 0), .int x, .int y] (pQi Z (fun r Z1 h1 => Z = Z1 ∧ Iv Z h1 ∧ agrD [(2, 4), (3, 1000), (4, 1000), (5, 1000)] h h1 ∧ (r.toInt = 0 ∨ r.toInt = 1) ∧ ((h 2 4).toInt ≤ 63 → (r.toInt = 1 ↔ (0 ≤ x.toInt ∧ x.toInt ≤ 999 ∧ 0 ≤ y.toInt ∧ y.toInt ≤ 999))) ∧ ((h1 2 4).toInt ≤ (h 2 4).toInt + 1))) := by
  refine pOfW (lv := [(0, .ref (zB Z + 0)), (1, .int x), (2, .int y)]) (by decide) (Nat.le_of_ble_eq_true rfl) rfl ?_
  intro p e s m below meth c ls M hr hlk hnm V hl
  have hx := M.1.1
  have hb := M.1.2.1
  have A : agrD [] h h := agrD.rf
  refine lv_iload_n hx hb dX11_point_0 rfl (lv_at hl 1 rfl) ?_
  refine lv_iconst (v := 0) hx hb dX11_point_1 (by decide) ?_
  refine lv_sipush (v := 999) hx hb dX11_point_2 (by decide) ?_
  have k_0 : (0 : Int32).toInt = 0 := rfl
  have k_999 : (999 : Int32).toInt = 999 := rfl
  refine pk_i (pr_S M V (m_X11_isWithin l (Z := Z) (h := _) x (0 : Int32) (999 : Int32)) km_X11_isWithin lkM_X11_71 rfl hl.1 rfl (Nat.le_of_ble_eq_true rfl) ⟨Nat.le_of_ble_eq_true rfl, Nat.le_of_ble_eq_true rfl⟩ ⟨Nat.le_of_ble_eq_true rfl, Nat.le_of_ble_eq_true rfl⟩ dX11_point_5) V (fun r1 Zr1 hr1 H locs pr1 _ _ V => ?_)
  obtain ⟨rfl, rfl, fr1_0⟩ := pr1
  refine lv_if_eq (tgt := 42) hx hb dX11_point_8 (by decide) (fun c_8 => ?_) (fun c_8 => ?_)
  · skip
    have c_8 := pi_eq.mp c_8
    refine lv_iconst (v := 0) hx hb dX11_point_42 (by decide) ?_
    exact pe_i M V rfl rfl hr hlk (pn_z (pi_z (by omega))).1 ⟨rfl, I, A.wk (by decide), by omega, (fun z9 => by omega), (show (h 2 4).toInt ≤ (h 2 4).toInt + 1 by omega)⟩ ⟨Nat.le_refl _, Nat.le_refl _⟩ dX11_point_43
  · skip
    have c_8 := pi_ne c_8
    refine lv_iload_n hx hb dX11_point_11 rfl (lv_at hl 2 rfl) ?_
    refine lv_iconst (v := 0) hx hb dX11_point_12 (by decide) ?_
    refine lv_sipush (v := 999) hx hb dX11_point_13 (by decide) ?_
    refine pk_i (pr_S M V (m_X11_isWithin l (Z := Z) (h := _) y (0 : Int32) (999 : Int32)) km_X11_isWithin lkM_X11_71 rfl hl.1 rfl (Nat.le_of_ble_eq_true rfl) ⟨Nat.le_of_ble_eq_true rfl, Nat.le_of_ble_eq_true rfl⟩ ⟨Nat.le_of_ble_eq_true rfl, Nat.le_of_ble_eq_true rfl⟩ dX11_point_16) V (fun r2 Zr2 hr2 H locs pr2 _ _ V => ?_)
    obtain ⟨rfl, rfl, fr2_0⟩ := pr2
    refine lv_if_eq (tgt := 42) hx hb dX11_point_19 (by decide) (fun c_19 => ?_) (fun c_19 => ?_)
    · skip
      have c_19 := pi_eq.mp c_19
      refine lv_iconst (v := 0) hx hb dX11_point_42 (by decide) ?_
      exact pe_i M V rfl rfl hr hlk (pn_z (pi_z (by omega))).1 ⟨rfl, I, A.wk (by decide), by omega, (fun z9 => by omega), (show (h 2 4).toInt ≤ (h 2 4).toInt + 1 by omega)⟩ ⟨Nat.le_refl _, Nat.le_refl _⟩ dX11_point_43
    · skip
      have c_19 := pi_ne c_19
      refine lv_aload_n hx hb dX11_point_22 rfl (lv_at hl 0 rfl) ?_
      refine pg_r M V 11 0 (c_is_0 S) pC11 fk11_0 (c_r_0_0 S) lkF_X11_10 dX11_point_23 ?_
      refine pg_r M V 5 0 (c_is_1 S) pC5 fk5_0 (c_r_1_0 S) lkF_X11_75 dX11_point_26 ?_
      refine lv_iconst (v := 0) hx hb dX11_point_29 (by decide) ?_
      refine lv_iload_n hx hb dX11_point_30 rfl (lv_at hl 1 rfl) ?_
      refine lv_iload_n hx hb dX11_point_31 rfl (lv_at hl 2 rfl) ?_
      refine pk_i (pr_V M V (m_X4_add l S I (0 : Int32) x y ) km_X4_add (c_is_2 S) pC4 lkM_X11_81 rfl hl.1 rfl (Nat.le_of_ble_eq_true rfl) ⟨Nat.le_of_ble_eq_true rfl, Nat.le_of_ble_eq_true rfl⟩ ⟨Nat.le_of_ble_eq_true rfl, Nat.le_of_ble_eq_true rfl⟩ dX11_point_32) V (fun r3 Zr3 hr3 H locs pr3 _ _ V => ?_)
      obtain ⟨rfl, I, pA_r3, fr3_0, fr3_1, fr3_2⟩ := pr3
      have A := A.wk (l3 := [(2, 4), (3, 1000), (4, 1000), (5, 1000)]) (by decide)
      have A := A.tr pA_r3 (by decide)
      refine lv_if_eq (tgt := 42) hx hb dX11_point_35 (by decide) (fun c_35 => ?_) (fun c_35 => ?_)
      · skip
        have c_35 := pi_eq.mp c_35
        refine lv_iconst (v := 0) hx hb dX11_point_42 (by decide) ?_
        exact pe_i M V rfl rfl hr hlk (pn_z (pi_z (by omega))).1 ⟨rfl, I, A.wk (by decide), by omega, (fun z9 => by omega), (show (hr3 2 4).toInt ≤ (h 2 4).toInt + 1 by omega)⟩ ⟨Nat.le_refl _, Nat.le_refl _⟩ dX11_point_43
      · skip
        have c_35 := pi_ne c_35
        refine lv_iconst (v := 1) hx hb dX11_point_38 (by decide) ?_
        refine lv_goto (tgt := 43) hx hb dX11_point_39 (by decide) ?_
        have k_1 : (1 : Int32).toInt = 1 := rfl
        exact pe_i M V rfl rfl hr hlk (pn_z (pi_z (by omega))).1 ⟨rfl, I, A.wk (by decide), by omega, (fun z9 => by omega), (show (hr3 2 4).toInt ≤ (h 2 4).toInt + 1 by omega)⟩ ⟨Nat.le_refl _, Nat.le_refl _⟩ dX11_point_43
theorem dX11_press_0 : decode cX11_press 0 = .ok (.aload_n 0, 1) := by decide +kernel
theorem dX11_press_1 : decode cX11_press 1 = .ok (.getfield 10, 3) := by decide +kernel
theorem dX11_press_4 : decode cX11_press 4 = .ok (.getfield 75, 3) := by decide +kernel
theorem dX11_press_7 : decode cX11_press 7 = .ok (.iload_n 1, 1) := by decide +kernel
theorem dX11_press_8 : decode cX11_press 8 = .ok (.ifCond .eq 7, 3) := by decide +kernel
theorem dX11_press_11 : decode cX11_press 11 = .ok (.iconst 1, 1) := by decide +kernel
theorem dX11_press_12 : decode cX11_press 12 = .ok (.goto 4, 3) := by decide +kernel
theorem dX11_press_15 : decode cX11_press 15 = .ok (.iconst 2, 1) := by decide +kernel
theorem dX11_press_16 : decode cX11_press 16 = .ok (.iconst 0, 1) := by decide +kernel
theorem dX11_press_17 : decode cX11_press 17 = .ok (.iconst 0, 1) := by decide +kernel
theorem dX11_press_18 : decode cX11_press 18 = .ok (.invokevirtual 81, 3) := by decide +kernel
theorem dX11_press_21 : decode cX11_press 21 = .ok (.ireturn, 1) := by decide +kernel
set_option maxHeartbeats 4000000 in
set_option maxRecDepth 100000 in
theorem m_X11_press (l : Launch) {Z : pZ} (S : pSh Z) {h : pH} (I : Iv Z h) (down : Int32)  : pMet l yX11_press cX11_press 2 (some .boolean) 1 0 0 24 Z h [.ref (zB Z + 0), .int down] (pQi Z (fun r Z1 h1 => Z = Z1 ∧ Iv Z h1 ∧ agrD [(2, 4), (3, 1000), (4, 1000), (5, 1000)] h h1 ∧ (r.toInt = 0 ∨ r.toInt = 1) ∧ ((h 2 4).toInt ≤ 63 → r.toInt = 1) ∧ ((h1 2 4).toInt ≤ (h 2 4).toInt + 1))) := by
  refine pOfW (lv := [(0, .ref (zB Z + 0)), (1, .int down)]) (by decide) (Nat.le_of_ble_eq_true rfl) rfl ?_
  intro p e s m below meth c ls M hr hlk hnm V hl
  have hx := M.1.1
  have hb := M.1.2.1
  have A : agrD [] h h := agrD.rf
  refine lv_aload_n hx hb dX11_press_0 rfl (lv_at hl 0 rfl) ?_
  refine pg_r M V 11 0 (c_is_0 S) pC11 fk11_0 (c_r_0_0 S) lkF_X11_10 dX11_press_1 ?_
  refine pg_r M V 5 0 (c_is_1 S) pC5 fk5_0 (c_r_1_0 S) lkF_X11_75 dX11_press_4 ?_
  refine lv_iload_n hx hb dX11_press_7 rfl (lv_at hl 1 rfl) ?_
  refine lv_if_eq (tgt := 15) hx hb dX11_press_8 (by decide) (fun c_8 => ?_) (fun c_8 => ?_)
  · skip
    have k_0 : (0 : Int32).toInt = 0 := rfl
    have c_8 := pi_eq.mp c_8
    refine lv_iconst (v := 2) hx hb dX11_press_15 (by decide) ?_
    refine lv_iconst (v := 0) hx hb dX11_press_16 (by decide) ?_
    refine lv_iconst (v := 0) hx hb dX11_press_17 (by decide) ?_
    refine pk_i (pr_V M V (m_X4_add l S I (2 : Int32) (0 : Int32) (0 : Int32) ) km_X4_add (c_is_2 S) pC4 lkM_X11_81 rfl hl.1 rfl (Nat.le_of_ble_eq_true rfl) ⟨Nat.le_of_ble_eq_true rfl, Nat.le_of_ble_eq_true rfl⟩ ⟨Nat.le_of_ble_eq_true rfl, Nat.le_of_ble_eq_true rfl⟩ dX11_press_18) V (fun r1 Zr1 hr1 H locs pr1 _ _ V => ?_)
    obtain ⟨rfl, I, pA_r1, fr1_0, fr1_1, fr1_2⟩ := pr1
    have A := A.wk (l3 := [(2, 4), (3, 1000), (4, 1000), (5, 1000)]) (by decide)
    have A := A.tr pA_r1 (by decide)
    exact pe_i M V rfl rfl hr hlk (pn_z (pi_z (by omega))).1 ⟨rfl, I, A.wk (by decide), by omega, (fun z9 => by omega), (show (hr1 2 4).toInt ≤ (h 2 4).toInt + 1 by omega)⟩ ⟨Nat.le_refl _, Nat.le_refl _⟩ dX11_press_21
  · skip
    have k_0 : (0 : Int32).toInt = 0 := rfl
    have c_8 := pi_ne c_8
    refine lv_iconst (v := 1) hx hb dX11_press_11 (by decide) ?_
    refine lv_goto (tgt := 16) hx hb dX11_press_12 (by decide) ?_
    refine lv_iconst (v := 0) hx hb dX11_press_16 (by decide) ?_
    refine lv_iconst (v := 0) hx hb dX11_press_17 (by decide) ?_
    refine pk_i (pr_V M V (m_X4_add l S I (1 : Int32) (0 : Int32) (0 : Int32) ) km_X4_add (c_is_2 S) pC4 lkM_X11_81 rfl hl.1 rfl (Nat.le_of_ble_eq_true rfl) ⟨Nat.le_of_ble_eq_true rfl, Nat.le_of_ble_eq_true rfl⟩ ⟨Nat.le_of_ble_eq_true rfl, Nat.le_of_ble_eq_true rfl⟩ dX11_press_18) V (fun r2 Zr2 hr2 H locs pr2 _ _ V => ?_)
    obtain ⟨rfl, I, pA_r2, fr2_0, fr2_1, fr2_2⟩ := pr2
    have A := A.wk (l3 := [(2, 4), (3, 1000), (4, 1000), (5, 1000)]) (by decide)
    have A := A.tr pA_r2 (by decide)
    exact pe_i M V rfl rfl hr hlk (pn_z (pi_z (by omega))).1 ⟨rfl, I, A.wk (by decide), by omega, (fun z9 => by omega), (show (hr2 2 4).toInt ≤ (h 2 4).toInt + 1 by omega)⟩ ⟨Nat.le_refl _, Nat.le_refl _⟩ dX11_press_21
theorem dX11_wheel_0 : decode cX11_wheel 0 = .ok (.iload_n 1, 1) := by decide +kernel
theorem dX11_wheel_1 : decode cX11_wheel 1 = .ok (.bipush (-9), 2) := by decide +kernel
theorem dX11_wheel_3 : decode cX11_wheel 3 = .ok (.bipush 9, 2) := by decide +kernel
theorem dX11_wheel_5 : decode cX11_wheel 5 = .ok (.invokestatic 71, 3) := by decide +kernel
theorem dX11_wheel_8 : decode cX11_wheel 8 = .ok (.ifCond .eq 23, 3) := by decide +kernel
theorem dX11_wheel_11 : decode cX11_wheel 11 = .ok (.aload_n 0, 1) := by decide +kernel
theorem dX11_wheel_12 : decode cX11_wheel 12 = .ok (.getfield 10, 3) := by decide +kernel
theorem dX11_wheel_15 : decode cX11_wheel 15 = .ok (.getfield 75, 3) := by decide +kernel
theorem dX11_wheel_18 : decode cX11_wheel 18 = .ok (.iconst 3, 1) := by decide +kernel
theorem dX11_wheel_19 : decode cX11_wheel 19 = .ok (.iload_n 1, 1) := by decide +kernel
theorem dX11_wheel_20 : decode cX11_wheel 20 = .ok (.iconst 0, 1) := by decide +kernel
theorem dX11_wheel_21 : decode cX11_wheel 21 = .ok (.invokevirtual 81, 3) := by decide +kernel
theorem dX11_wheel_24 : decode cX11_wheel 24 = .ok (.ifCond .eq 7, 3) := by decide +kernel
theorem dX11_wheel_27 : decode cX11_wheel 27 = .ok (.iconst 1, 1) := by decide +kernel
theorem dX11_wheel_28 : decode cX11_wheel 28 = .ok (.goto 4, 3) := by decide +kernel
theorem dX11_wheel_31 : decode cX11_wheel 31 = .ok (.iconst 0, 1) := by decide +kernel
theorem dX11_wheel_32 : decode cX11_wheel 32 = .ok (.ireturn, 1) := by decide +kernel
set_option maxHeartbeats 4000000 in
set_option maxRecDepth 100000 in
theorem m_X11_wheel (l : Launch) {Z : pZ} (S : pSh Z) {h : pH} (I : Iv Z h) (n : Int32)  : pMet l yX11_wheel cX11_wheel 2 (some .boolean) 1 0 0 24 Z h [.ref (zB Z + 0), .int n] (pQi Z (fun r Z1 h1 => Z = Z1 ∧ Iv Z h1 ∧ agrD [(2, 4), (3, 1000), (4, 1000), (5, 1000)] h h1 ∧ (r.toInt = 0 ∨ r.toInt = 1) ∧ ((h 2 4).toInt ≤ 63 → (r.toInt = 1 ↔ (-9 ≤ n.toInt ∧ n.toInt ≤ 9))) ∧ ((h1 2 4).toInt ≤ (h 2 4).toInt + 1))) := by
  refine pOfW (lv := [(0, .ref (zB Z + 0)), (1, .int n)]) (by decide) (Nat.le_of_ble_eq_true rfl) rfl ?_
  intro p e s m below meth c ls M hr hlk hnm V hl
  have hx := M.1.1
  have hb := M.1.2.1
  have A : agrD [] h h := agrD.rf
  refine lv_iload_n hx hb dX11_wheel_0 rfl (lv_at hl 1 rfl) ?_
  refine lv_bipush (v := (-9)) hx hb dX11_wheel_1 (by decide) ?_
  refine lv_bipush (v := 9) hx hb dX11_wheel_3 (by decide) ?_
  have k_m9 : (-9 : Int32).toInt = -9 := rfl
  have k_9 : (9 : Int32).toInt = 9 := rfl
  refine pk_i (pr_S M V (m_X11_isWithin l (Z := Z) (h := _) n (-9 : Int32) (9 : Int32)) km_X11_isWithin lkM_X11_71 rfl hl.1 rfl (Nat.le_of_ble_eq_true rfl) ⟨Nat.le_of_ble_eq_true rfl, Nat.le_of_ble_eq_true rfl⟩ ⟨Nat.le_of_ble_eq_true rfl, Nat.le_of_ble_eq_true rfl⟩ dX11_wheel_5) V (fun r1 Zr1 hr1 H locs pr1 _ _ V => ?_)
  obtain ⟨rfl, rfl, fr1_0⟩ := pr1
  refine lv_if_eq (tgt := 31) hx hb dX11_wheel_8 (by decide) (fun c_8 => ?_) (fun c_8 => ?_)
  · skip
    have k_0 : (0 : Int32).toInt = 0 := rfl
    have c_8 := pi_eq.mp c_8
    refine lv_iconst (v := 0) hx hb dX11_wheel_31 (by decide) ?_
    exact pe_i M V rfl rfl hr hlk (pn_z (pi_z (by omega))).1 ⟨rfl, I, A.wk (by decide), by omega, (fun z9 => by omega), (show (h 2 4).toInt ≤ (h 2 4).toInt + 1 by omega)⟩ ⟨Nat.le_refl _, Nat.le_refl _⟩ dX11_wheel_32
  · skip
    have k_0 : (0 : Int32).toInt = 0 := rfl
    have c_8 := pi_ne c_8
    refine lv_aload_n hx hb dX11_wheel_11 rfl (lv_at hl 0 rfl) ?_
    refine pg_r M V 11 0 (c_is_0 S) pC11 fk11_0 (c_r_0_0 S) lkF_X11_10 dX11_wheel_12 ?_
    refine pg_r M V 5 0 (c_is_1 S) pC5 fk5_0 (c_r_1_0 S) lkF_X11_75 dX11_wheel_15 ?_
    refine lv_iconst (v := 3) hx hb dX11_wheel_18 (by decide) ?_
    refine lv_iload_n hx hb dX11_wheel_19 rfl (lv_at hl 1 rfl) ?_
    refine lv_iconst (v := 0) hx hb dX11_wheel_20 (by decide) ?_
    refine pk_i (pr_V M V (m_X4_add l S I (3 : Int32) n (0 : Int32) ) km_X4_add (c_is_2 S) pC4 lkM_X11_81 rfl hl.1 rfl (Nat.le_of_ble_eq_true rfl) ⟨Nat.le_of_ble_eq_true rfl, Nat.le_of_ble_eq_true rfl⟩ ⟨Nat.le_of_ble_eq_true rfl, Nat.le_of_ble_eq_true rfl⟩ dX11_wheel_21) V (fun r2 Zr2 hr2 H locs pr2 _ _ V => ?_)
    obtain ⟨rfl, I, pA_r2, fr2_0, fr2_1, fr2_2⟩ := pr2
    have A := A.wk (l3 := [(2, 4), (3, 1000), (4, 1000), (5, 1000)]) (by decide)
    have A := A.tr pA_r2 (by decide)
    refine lv_if_eq (tgt := 31) hx hb dX11_wheel_24 (by decide) (fun c_24 => ?_) (fun c_24 => ?_)
    · skip
      have c_24 := pi_eq.mp c_24
      refine lv_iconst (v := 0) hx hb dX11_wheel_31 (by decide) ?_
      exact pe_i M V rfl rfl hr hlk (pn_z (pi_z (by omega))).1 ⟨rfl, I, A.wk (by decide), by omega, (fun z9 => by omega), (show (hr2 2 4).toInt ≤ (h 2 4).toInt + 1 by omega)⟩ ⟨Nat.le_refl _, Nat.le_refl _⟩ dX11_wheel_32
    · skip
      have c_24 := pi_ne c_24
      refine lv_iconst (v := 1) hx hb dX11_wheel_27 (by decide) ?_
      refine lv_goto (tgt := 32) hx hb dX11_wheel_28 (by decide) ?_
      have k_1 : (1 : Int32).toInt = 1 := rfl
      exact pe_i M V rfl rfl hr hlk (pn_z (pi_z (by omega))).1 ⟨rfl, I, A.wk (by decide), by omega, (fun z9 => by omega), (show (hr2 2 4).toInt ≤ (h 2 4).toInt + 1 by omega)⟩ ⟨Nat.le_refl _, Nat.le_refl _⟩ dX11_wheel_32
theorem dX11_key_0 : decode cX11_key 0 = .ok (.iload_n 1, 1) := by decide +kernel
theorem dX11_key_1 : decode cX11_key 1 = .ok (.iconst 0, 1) := by decide +kernel
theorem dX11_key_2 : decode cX11_key 2 = .ok (.iconst 5, 1) := by decide +kernel
theorem dX11_key_3 : decode cX11_key 3 = .ok (.invokestatic 71, 3) := by decide +kernel
theorem dX11_key_6 : decode cX11_key 6 = .ok (.ifCond .eq 31, 3) := by decide +kernel
theorem dX11_key_9 : decode cX11_key 9 = .ok (.aload_n 0, 1) := by decide +kernel
theorem dX11_key_10 : decode cX11_key 10 = .ok (.getfield 10, 3) := by decide +kernel
theorem dX11_key_13 : decode cX11_key 13 = .ok (.getfield 75, 3) := by decide +kernel
theorem dX11_key_16 : decode cX11_key 16 = .ok (.iload_n 2, 1) := by decide +kernel
theorem dX11_key_17 : decode cX11_key 17 = .ok (.ifCond .eq 7, 3) := by decide +kernel
theorem dX11_key_20 : decode cX11_key 20 = .ok (.iconst 4, 1) := by decide +kernel
theorem dX11_key_21 : decode cX11_key 21 = .ok (.goto 4, 3) := by decide +kernel
theorem dX11_key_24 : decode cX11_key 24 = .ok (.iconst 5, 1) := by decide +kernel
theorem dX11_key_25 : decode cX11_key 25 = .ok (.iload_n 1, 1) := by decide +kernel
theorem dX11_key_26 : decode cX11_key 26 = .ok (.iconst 0, 1) := by decide +kernel
theorem dX11_key_27 : decode cX11_key 27 = .ok (.invokevirtual 81, 3) := by decide +kernel
theorem dX11_key_30 : decode cX11_key 30 = .ok (.ifCond .eq 7, 3) := by decide +kernel
theorem dX11_key_33 : decode cX11_key 33 = .ok (.iconst 1, 1) := by decide +kernel
theorem dX11_key_34 : decode cX11_key 34 = .ok (.goto 4, 3) := by decide +kernel
theorem dX11_key_37 : decode cX11_key 37 = .ok (.iconst 0, 1) := by decide +kernel
theorem dX11_key_38 : decode cX11_key 38 = .ok (.ireturn, 1) := by decide +kernel
set_option maxHeartbeats 4000000 in
set_option maxRecDepth 100000 in
theorem m_X11_key (l : Launch) {Z : pZ} (S : pSh Z) {h : pH} (I : Iv Z h) (key : Int32) (down : Int32)  : pMet l yX11_key cX11_key 3 (some .boolean) 1 0 0 24 Z h [.ref (zB Z + 0), .int key, .int down] (pQi Z (fun r Z1 h1 => Z = Z1 ∧ Iv Z h1 ∧ agrD [(2, 4), (3, 1000), (4, 1000), (5, 1000)] h h1 ∧ (r.toInt = 0 ∨ r.toInt = 1) ∧ ((h 2 4).toInt ≤ 63 → (r.toInt = 1 ↔ (0 ≤ key.toInt ∧ key.toInt ≤ 5))) ∧ ((h1 2 4).toInt ≤ (h 2 4).toInt + 1))) := by
  refine pOfW (lv := [(0, .ref (zB Z + 0)), (1, .int key), (2, .int down)]) (by decide) (Nat.le_of_ble_eq_true rfl) rfl ?_
  intro p e s m below meth c ls M hr hlk hnm V hl
  have hx := M.1.1
  have hb := M.1.2.1
  have A : agrD [] h h := agrD.rf
  refine lv_iload_n hx hb dX11_key_0 rfl (lv_at hl 1 rfl) ?_
  refine lv_iconst (v := 0) hx hb dX11_key_1 (by decide) ?_
  refine lv_iconst (v := 5) hx hb dX11_key_2 (by decide) ?_
  have k_0 : (0 : Int32).toInt = 0 := rfl
  have k_5 : (5 : Int32).toInt = 5 := rfl
  refine pk_i (pr_S M V (m_X11_isWithin l (Z := Z) (h := _) key (0 : Int32) (5 : Int32)) km_X11_isWithin lkM_X11_71 rfl hl.1 rfl (Nat.le_of_ble_eq_true rfl) ⟨Nat.le_of_ble_eq_true rfl, Nat.le_of_ble_eq_true rfl⟩ ⟨Nat.le_of_ble_eq_true rfl, Nat.le_of_ble_eq_true rfl⟩ dX11_key_3) V (fun r1 Zr1 hr1 H locs pr1 _ _ V => ?_)
  obtain ⟨rfl, rfl, fr1_0⟩ := pr1
  refine lv_if_eq (tgt := 37) hx hb dX11_key_6 (by decide) (fun c_6 => ?_) (fun c_6 => ?_)
  · skip
    have c_6 := pi_eq.mp c_6
    refine lv_iconst (v := 0) hx hb dX11_key_37 (by decide) ?_
    exact pe_i M V rfl rfl hr hlk (pn_z (pi_z (by omega))).1 ⟨rfl, I, A.wk (by decide), by omega, (fun z9 => by omega), (show (h 2 4).toInt ≤ (h 2 4).toInt + 1 by omega)⟩ ⟨Nat.le_refl _, Nat.le_refl _⟩ dX11_key_38
  · skip
    have c_6 := pi_ne c_6
    refine lv_aload_n hx hb dX11_key_9 rfl (lv_at hl 0 rfl) ?_
    refine pg_r M V 11 0 (c_is_0 S) pC11 fk11_0 (c_r_0_0 S) lkF_X11_10 dX11_key_10 ?_
    refine pg_r M V 5 0 (c_is_1 S) pC5 fk5_0 (c_r_1_0 S) lkF_X11_75 dX11_key_13 ?_
    refine lv_iload_n hx hb dX11_key_16 rfl (lv_at hl 2 rfl) ?_
    refine lv_if_eq (tgt := 24) hx hb dX11_key_17 (by decide) (fun c_17 => ?_) (fun c_17 => ?_)
    · skip
      have c_17 := pi_eq.mp c_17
      refine lv_iconst (v := 5) hx hb dX11_key_24 (by decide) ?_
      refine lv_iload_n hx hb dX11_key_25 rfl (lv_at hl 1 rfl) ?_
      refine lv_iconst (v := 0) hx hb dX11_key_26 (by decide) ?_
      refine pk_i (pr_V M V (m_X4_add l S I (5 : Int32) key (0 : Int32) ) km_X4_add (c_is_2 S) pC4 lkM_X11_81 rfl hl.1 rfl (Nat.le_of_ble_eq_true rfl) ⟨Nat.le_of_ble_eq_true rfl, Nat.le_of_ble_eq_true rfl⟩ ⟨Nat.le_of_ble_eq_true rfl, Nat.le_of_ble_eq_true rfl⟩ dX11_key_27) V (fun r2 Zr2 hr2 H locs pr2 _ _ V => ?_)
      obtain ⟨rfl, I, pA_r2, fr2_0, fr2_1, fr2_2⟩ := pr2
      have A := A.wk (l3 := [(2, 4), (3, 1000), (4, 1000), (5, 1000)]) (by decide)
      have A := A.tr pA_r2 (by decide)
      refine lv_if_eq (tgt := 37) hx hb dX11_key_30 (by decide) (fun c_30 => ?_) (fun c_30 => ?_)
      · skip
        have c_30 := pi_eq.mp c_30
        refine lv_iconst (v := 0) hx hb dX11_key_37 (by decide) ?_
        exact pe_i M V rfl rfl hr hlk (pn_z (pi_z (by omega))).1 ⟨rfl, I, A.wk (by decide), by omega, (fun z9 => by omega), (show (hr2 2 4).toInt ≤ (h 2 4).toInt + 1 by omega)⟩ ⟨Nat.le_refl _, Nat.le_refl _⟩ dX11_key_38
      · skip
        have c_30 := pi_ne c_30
        refine lv_iconst (v := 1) hx hb dX11_key_33 (by decide) ?_
        refine lv_goto (tgt := 38) hx hb dX11_key_34 (by decide) ?_
        have k_1 : (1 : Int32).toInt = 1 := rfl
        exact pe_i M V rfl rfl hr hlk (pn_z (pi_z (by omega))).1 ⟨rfl, I, A.wk (by decide), by omega, (fun z9 => by omega), (show (hr2 2 4).toInt ≤ (h 2 4).toInt + 1 by omega)⟩ ⟨Nat.le_refl _, Nat.le_refl _⟩ dX11_key_38
    · skip
      have c_17 := pi_ne c_17
      refine lv_iconst (v := 4) hx hb dX11_key_20 (by decide) ?_
      refine lv_goto (tgt := 25) hx hb dX11_key_21 (by decide) ?_
      refine lv_iload_n hx hb dX11_key_25 rfl (lv_at hl 1 rfl) ?_
      refine lv_iconst (v := 0) hx hb dX11_key_26 (by decide) ?_
      refine pk_i (pr_V M V (m_X4_add l S I (4 : Int32) key (0 : Int32) ) km_X4_add (c_is_2 S) pC4 lkM_X11_81 rfl hl.1 rfl (Nat.le_of_ble_eq_true rfl) ⟨Nat.le_of_ble_eq_true rfl, Nat.le_of_ble_eq_true rfl⟩ ⟨Nat.le_of_ble_eq_true rfl, Nat.le_of_ble_eq_true rfl⟩ dX11_key_27) V (fun r3 Zr3 hr3 H locs pr3 _ _ V => ?_)
      obtain ⟨rfl, I, pA_r3, fr3_0, fr3_1, fr3_2⟩ := pr3
      have A := A.wk (l3 := [(2, 4), (3, 1000), (4, 1000), (5, 1000)]) (by decide)
      have A := A.tr pA_r3 (by decide)
      refine lv_if_eq (tgt := 37) hx hb dX11_key_30 (by decide) (fun c_30 => ?_) (fun c_30 => ?_)
      · skip
        have c_30 := pi_eq.mp c_30
        refine lv_iconst (v := 0) hx hb dX11_key_37 (by decide) ?_
        exact pe_i M V rfl rfl hr hlk (pn_z (pi_z (by omega))).1 ⟨rfl, I, A.wk (by decide), by omega, (fun z9 => by omega), (show (hr3 2 4).toInt ≤ (h 2 4).toInt + 1 by omega)⟩ ⟨Nat.le_refl _, Nat.le_refl _⟩ dX11_key_38
      · skip
        have c_30 := pi_ne c_30
        refine lv_iconst (v := 1) hx hb dX11_key_33 (by decide) ?_
        refine lv_goto (tgt := 38) hx hb dX11_key_34 (by decide) ?_
        have k_1 : (1 : Int32).toInt = 1 := rfl
        exact pe_i M V rfl rfl hr hlk (pn_z (pi_z (by omega))).1 ⟨rfl, I, A.wk (by decide), by omega, (fun z9 => by omega), (show (hr3 2 4).toInt ≤ (h 2 4).toInt + 1 by omega)⟩ ⟨Nat.le_refl _, Nat.le_refl _⟩ dX11_key_38
theorem dX11_letter_0 : decode cX11_letter 0 = .ok (.iload_n 1, 1) := by decide +kernel
theorem dX11_letter_1 : decode cX11_letter 1 = .ok (.bipush 32, 2) := by decide +kernel
theorem dX11_letter_3 : decode cX11_letter 3 = .ok (.bipush 126, 2) := by decide +kernel
theorem dX11_letter_5 : decode cX11_letter 5 = .ok (.invokestatic 71, 3) := by decide +kernel
theorem dX11_letter_8 : decode cX11_letter 8 = .ok (.ifCond .eq 24, 3) := by decide +kernel
theorem dX11_letter_11 : decode cX11_letter 11 = .ok (.aload_n 0, 1) := by decide +kernel
theorem dX11_letter_12 : decode cX11_letter 12 = .ok (.getfield 10, 3) := by decide +kernel
theorem dX11_letter_15 : decode cX11_letter 15 = .ok (.getfield 75, 3) := by decide +kernel
theorem dX11_letter_18 : decode cX11_letter 18 = .ok (.bipush 6, 2) := by decide +kernel
theorem dX11_letter_20 : decode cX11_letter 20 = .ok (.iload_n 1, 1) := by decide +kernel
theorem dX11_letter_21 : decode cX11_letter 21 = .ok (.iconst 0, 1) := by decide +kernel
theorem dX11_letter_22 : decode cX11_letter 22 = .ok (.invokevirtual 81, 3) := by decide +kernel
theorem dX11_letter_25 : decode cX11_letter 25 = .ok (.ifCond .eq 7, 3) := by decide +kernel
theorem dX11_letter_28 : decode cX11_letter 28 = .ok (.iconst 1, 1) := by decide +kernel
theorem dX11_letter_29 : decode cX11_letter 29 = .ok (.goto 4, 3) := by decide +kernel
theorem dX11_letter_32 : decode cX11_letter 32 = .ok (.iconst 0, 1) := by decide +kernel
theorem dX11_letter_33 : decode cX11_letter 33 = .ok (.ireturn, 1) := by decide +kernel
set_option maxHeartbeats 4000000 in
set_option maxRecDepth 100000 in
theorem m_X11_letter (l : Launch) {Z : pZ} (S : pSh Z) {h : pH} (I : Iv Z h) (ch : Int32)  : pMet l yX11_letter cX11_letter 2 (some .boolean) 1 0 0 24 Z h [.ref (zB Z + 0), .int ch] (pQi Z (fun r Z1 h1 => Z = Z1 ∧ Iv Z h1 ∧ agrD [(2, 4), (3, 1000), (4, 1000), (5, 1000)] h h1 ∧ (r.toInt = 0 ∨ r.toInt = 1) ∧ ((h 2 4).toInt ≤ 63 → (r.toInt = 1 ↔ (32 ≤ ch.toInt ∧ ch.toInt ≤ 126))) ∧ ((h1 2 4).toInt ≤ (h 2 4).toInt + 1))) := by
  refine pOfW (lv := [(0, .ref (zB Z + 0)), (1, .int ch)]) (by decide) (Nat.le_of_ble_eq_true rfl) rfl ?_
  intro p e s m below meth c ls M hr hlk hnm V hl
  have hx := M.1.1
  have hb := M.1.2.1
  have A : agrD [] h h := agrD.rf
  refine lv_iload_n hx hb dX11_letter_0 rfl (lv_at hl 1 rfl) ?_
  refine lv_bipush (v := 32) hx hb dX11_letter_1 (by decide) ?_
  refine lv_bipush (v := 126) hx hb dX11_letter_3 (by decide) ?_
  have k_32 : (32 : Int32).toInt = 32 := rfl
  have k_126 : (126 : Int32).toInt = 126 := rfl
  refine pk_i (pr_S M V (m_X11_isWithin l (Z := Z) (h := _) ch (32 : Int32) (126 : Int32)) km_X11_isWithin lkM_X11_71 rfl hl.1 rfl (Nat.le_of_ble_eq_true rfl) ⟨Nat.le_of_ble_eq_true rfl, Nat.le_of_ble_eq_true rfl⟩ ⟨Nat.le_of_ble_eq_true rfl, Nat.le_of_ble_eq_true rfl⟩ dX11_letter_5) V (fun r1 Zr1 hr1 H locs pr1 _ _ V => ?_)
  obtain ⟨rfl, rfl, fr1_0⟩ := pr1
  refine lv_if_eq (tgt := 32) hx hb dX11_letter_8 (by decide) (fun c_8 => ?_) (fun c_8 => ?_)
  · skip
    have k_0 : (0 : Int32).toInt = 0 := rfl
    have c_8 := pi_eq.mp c_8
    refine lv_iconst (v := 0) hx hb dX11_letter_32 (by decide) ?_
    exact pe_i M V rfl rfl hr hlk (pn_z (pi_z (by omega))).1 ⟨rfl, I, A.wk (by decide), by omega, (fun z9 => by omega), (show (h 2 4).toInt ≤ (h 2 4).toInt + 1 by omega)⟩ ⟨Nat.le_refl _, Nat.le_refl _⟩ dX11_letter_33
  · skip
    have k_0 : (0 : Int32).toInt = 0 := rfl
    have c_8 := pi_ne c_8
    refine lv_aload_n hx hb dX11_letter_11 rfl (lv_at hl 0 rfl) ?_
    refine pg_r M V 11 0 (c_is_0 S) pC11 fk11_0 (c_r_0_0 S) lkF_X11_10 dX11_letter_12 ?_
    refine pg_r M V 5 0 (c_is_1 S) pC5 fk5_0 (c_r_1_0 S) lkF_X11_75 dX11_letter_15 ?_
    refine lv_bipush (v := 6) hx hb dX11_letter_18 (by decide) ?_
    refine lv_iload_n hx hb dX11_letter_20 rfl (lv_at hl 1 rfl) ?_
    refine lv_iconst (v := 0) hx hb dX11_letter_21 (by decide) ?_
    refine pk_i (pr_V M V (m_X4_add l S I (6 : Int32) ch (0 : Int32) ) km_X4_add (c_is_2 S) pC4 lkM_X11_81 rfl hl.1 rfl (Nat.le_of_ble_eq_true rfl) ⟨Nat.le_of_ble_eq_true rfl, Nat.le_of_ble_eq_true rfl⟩ ⟨Nat.le_of_ble_eq_true rfl, Nat.le_of_ble_eq_true rfl⟩ dX11_letter_22) V (fun r2 Zr2 hr2 H locs pr2 _ _ V => ?_)
    obtain ⟨rfl, I, pA_r2, fr2_0, fr2_1, fr2_2⟩ := pr2
    have A := A.wk (l3 := [(2, 4), (3, 1000), (4, 1000), (5, 1000)]) (by decide)
    have A := A.tr pA_r2 (by decide)
    refine lv_if_eq (tgt := 32) hx hb dX11_letter_25 (by decide) (fun c_25 => ?_) (fun c_25 => ?_)
    · skip
      have c_25 := pi_eq.mp c_25
      refine lv_iconst (v := 0) hx hb dX11_letter_32 (by decide) ?_
      exact pe_i M V rfl rfl hr hlk (pn_z (pi_z (by omega))).1 ⟨rfl, I, A.wk (by decide), by omega, (fun z9 => by omega), (show (hr2 2 4).toInt ≤ (h 2 4).toInt + 1 by omega)⟩ ⟨Nat.le_refl _, Nat.le_refl _⟩ dX11_letter_33
    · skip
      have c_25 := pi_ne c_25
      refine lv_iconst (v := 1) hx hb dX11_letter_28 (by decide) ?_
      refine lv_goto (tgt := 33) hx hb dX11_letter_29 (by decide) ?_
      have k_1 : (1 : Int32).toInt = 1 := rfl
      exact pe_i M V rfl rfl hr hlk (pn_z (pi_z (by omega))).1 ⟨rfl, I, A.wk (by decide), by omega, (fun z9 => by omega), (show (hr2 2 4).toInt ≤ (h 2 4).toInt + 1 by omega)⟩ ⟨Nat.le_refl _, Nat.le_refl _⟩ dX11_letter_33
theorem dX11_dismiss_0 : decode cX11_dismiss 0 = .ok (.aload_n 0, 1) := by decide +kernel
theorem dX11_dismiss_1 : decode cX11_dismiss 1 = .ok (.getfield 19, 3) := by decide +kernel
theorem dX11_dismiss_4 : decode cX11_dismiss 4 = .ok (.getfield 179, 3) := by decide +kernel
theorem dX11_dismiss_7 : decode cX11_dismiss 7 = .ok (.iconst (-1), 1) := by decide +kernel
theorem dX11_dismiss_8 : decode cX11_dismiss 8 = .ok (.if_icmp .eq 7, 3) := by decide +kernel
theorem dX11_dismiss_11 : decode cX11_dismiss 11 = .ok (.iconst 1, 1) := by decide +kernel
theorem dX11_dismiss_12 : decode cX11_dismiss 12 = .ok (.goto 4, 3) := by decide +kernel
theorem dX11_dismiss_15 : decode cX11_dismiss 15 = .ok (.iconst 0, 1) := by decide +kernel
theorem dX11_dismiss_16 : decode cX11_dismiss 16 = .ok (.istore_n 1, 1) := by decide +kernel
theorem dX11_dismiss_17 : decode cX11_dismiss 17 = .ok (.aload_n 0, 1) := by decide +kernel
theorem dX11_dismiss_18 : decode cX11_dismiss 18 = .ok (.getfield 19, 3) := by decide +kernel
theorem dX11_dismiss_21 : decode cX11_dismiss 21 = .ok (.iconst (-1), 1) := by decide +kernel
theorem dX11_dismiss_22 : decode cX11_dismiss 22 = .ok (.putfield 179, 3) := by decide +kernel
theorem dX11_dismiss_25 : decode cX11_dismiss 25 = .ok (.iload_n 1, 1) := by decide +kernel
theorem dX11_dismiss_26 : decode cX11_dismiss 26 = .ok (.ireturn, 1) := by decide +kernel
set_option maxHeartbeats 4000000 in
set_option maxRecDepth 100000 in
theorem m_X11_dismiss (l : Launch) {Z : pZ} (S : pSh Z) {h : pH} (I : Iv Z h)  : pMet l yX11_dismiss cX11_dismiss 2 (some .boolean) 0 0 0 0 Z h [.ref (zB Z + 0)] (pQi Z (fun r Z1 h1 => Z = Z1 ∧ Iv Z h1 ∧ agrD [(10, 5)] h h1 ∧ (r.toInt = 0 ∨ r.toInt = 1))) := by
  refine pOfW (lv := [(0, .ref (zB Z + 0))]) (by decide) (Nat.le_of_ble_eq_true rfl) rfl ?_
  intro p e s m below meth c ls M hr hlk hnm V hl
  have hx := M.1.1
  have hb := M.1.2.1
  have A : agrD [] h h := agrD.rf
  have J_16 : ∀ (y16_0 : Int32) (hJ : pH) (H : Heap) (locs : List Loc) (ls : Array Slot), pV Z hJ s.heap H locs → Iv Z hJ → agrD [] h hJ → lv_has ls 2 [(0, .ref (zB Z + 0))] → (0 ≤ y16_0.toInt ∧ y16_0.toInt ≤ 1) → W p l e (pRm 0 0 0 0) s m ([.ref (zB Z + 0)] : List Value).toArray below meth c H locs 0 0 (MQ below (pQi Z (fun r Z1 h1 => Z = Z1 ∧ Iv Z h1 ∧ agrD [(10, 5)] h h1 ∧ (r.toInt = 0 ∨ r.toInt = 1))) ([.ref (zB Z + 0)] : List Value).toArray s 0 0 (pA (zB Z))) (F0 m 16 ls [.int y16_0]) := by
    intro y16_0 hJ H locs ls V I A hl gs_16_0
    refine lv_istore_n (lv' := [(1, .int y16_0), (0, .ref (zB Z + 0))]) hx hb dX11_dismiss_16 rfl hl (by decide) rfl (fun ls hl => ?_)
    refine lv_aload_n hx hb dX11_dismiss_17 rfl (lv_at hl 1 rfl) ?_
    refine pg_r M V 11 1 (c_is_0 S) pC11 fk11_1 (c_r_0_1 S) lkF_X11_19 dX11_dismiss_18 ?_
    refine lv_iconst (v := (-1)) hx hb dX11_dismiss_21 (by decide) ?_
    refine pp_i M V 3 5 (c_is_10 S) pC3 fk3_5 rfl lkF_X11_179 ⟨rfl, rfl⟩ dX11_dismiss_22 (fun H locs V => ?_)
    have A := A.wk (l3 := [(10, 5)]) (by decide)
    have A := A.up (o := 10) (k := 5) (v := (-1 : Int32)) (by decide)
    have I := I.up (k := 5) (v := (-1 : Int32)) (c_is_10 S) (pi_full _)
    refine lv_iload_n hx hb dX11_dismiss_25 rfl (lv_at hl 0 rfl) ?_
    exact pe_i M V rfl rfl hr hlk (pn_z (pi_z (by omega))).1 ⟨rfl, I, A.wk (by decide), by omega⟩ ⟨Nat.le_refl _, Nat.le_refl _⟩ dX11_dismiss_26
  refine lv_aload_n hx hb dX11_dismiss_0 rfl (lv_at hl 0 rfl) ?_
  refine pg_r M V 11 1 (c_is_0 S) pC11 fk11_1 (c_r_0_1 S) lkF_X11_19 dX11_dismiss_1 ?_
  refine pg_i M V 3 5 (c_is_10 S) pC3 fk3_5 lkF_X11_179 dX11_dismiss_4 ?_
  refine lv_topi (fun v1 ev1 => ?_)
  refine lv_iconst (v := (-1)) hx hb dX11_dismiss_7 (by decide) ?_
  refine lv_icmp_eq (tgt := 15) hx hb dX11_dismiss_8 (by decide) (fun c_8 => ?_) (fun c_8 => ?_)
  · skip
    have k_m1 : (-1 : Int32).toInt = -1 := rfl
    have c_8 := pi_eq.mp c_8
    refine lv_iconst (v := 0) hx hb dX11_dismiss_15 (by decide) ?_
    have k_0 : (0 : Int32).toInt = 0 := rfl
    exact J_16 (0 : Int32) _ _ _ _ V I (A.wk (by decide)) (lv_sub hl [0] rfl) (by omega) 
  · skip
    have k_m1 : (-1 : Int32).toInt = -1 := rfl
    have c_8 := pi_ne c_8
    refine lv_iconst (v := 1) hx hb dX11_dismiss_11 (by decide) ?_
    refine lv_goto (tgt := 16) hx hb dX11_dismiss_12 (by decide) ?_
    have k_1 : (1 : Int32).toInt = 1 := rfl
    exact J_16 (1 : Int32) _ _ _ _ V I (A.wk (by decide)) (lv_sub hl [0] rfl) (by omega) 
theorem dX11_look_0 : decode cX11_look 0 = .ok (.iload_n 1, 1) := by decide +kernel
theorem dX11_look_1 : decode cX11_look 1 = .ok (.tableswitch 201 0 14 #[75, 83, 91, 99, 107, 115, 123, 131, 139, 147, 155, 166, 177, 185, 193], 75) := by decide +kernel
theorem dX11_look_76 : decode cX11_look 76 = .ok (.aload_n 0, 1) := by decide +kernel
theorem dX11_look_77 : decode cX11_look 77 = .ok (.getfield 40, 3) := by decide +kernel
theorem dX11_look_80 : decode cX11_look 80 = .ok (.getfield 341, 3) := by decide +kernel
theorem dX11_look_83 : decode cX11_look 83 = .ok (.ireturn, 1) := by decide +kernel
theorem dX11_look_84 : decode cX11_look 84 = .ok (.aload_n 0, 1) := by decide +kernel
theorem dX11_look_85 : decode cX11_look 85 = .ok (.getfield 40, 3) := by decide +kernel
theorem dX11_look_88 : decode cX11_look 88 = .ok (.getfield 344, 3) := by decide +kernel
theorem dX11_look_91 : decode cX11_look 91 = .ok (.ireturn, 1) := by decide +kernel
theorem dX11_look_92 : decode cX11_look 92 = .ok (.aload_n 0, 1) := by decide +kernel
theorem dX11_look_93 : decode cX11_look 93 = .ok (.getfield 40, 3) := by decide +kernel
theorem dX11_look_96 : decode cX11_look 96 = .ok (.getfield 260, 3) := by decide +kernel
theorem dX11_look_99 : decode cX11_look 99 = .ok (.ireturn, 1) := by decide +kernel
theorem dX11_look_100 : decode cX11_look 100 = .ok (.aload_n 0, 1) := by decide +kernel
theorem dX11_look_101 : decode cX11_look 101 = .ok (.getfield 40, 3) := by decide +kernel
theorem dX11_look_104 : decode cX11_look 104 = .ok (.getfield 347, 3) := by decide +kernel
theorem dX11_look_107 : decode cX11_look 107 = .ok (.ireturn, 1) := by decide +kernel
theorem dX11_look_108 : decode cX11_look 108 = .ok (.aload_n 0, 1) := by decide +kernel
theorem dX11_look_109 : decode cX11_look 109 = .ok (.getfield 19, 3) := by decide +kernel
theorem dX11_look_112 : decode cX11_look 112 = .ok (.getfield 103, 3) := by decide +kernel
theorem dX11_look_115 : decode cX11_look 115 = .ok (.ireturn, 1) := by decide +kernel
theorem dX11_look_116 : decode cX11_look 116 = .ok (.aload_n 0, 1) := by decide +kernel
theorem dX11_look_117 : decode cX11_look 117 = .ok (.getfield 64, 3) := by decide +kernel
theorem dX11_look_120 : decode cX11_look 120 = .ok (.getfield 299, 3) := by decide +kernel
theorem dX11_look_123 : decode cX11_look 123 = .ok (.ireturn, 1) := by decide +kernel
theorem dX11_look_124 : decode cX11_look 124 = .ok (.aload_n 0, 1) := by decide +kernel
theorem dX11_look_125 : decode cX11_look 125 = .ok (.getfield 64, 3) := by decide +kernel
theorem dX11_look_128 : decode cX11_look 128 = .ok (.getfield 302, 3) := by decide +kernel
theorem dX11_look_131 : decode cX11_look 131 = .ok (.ireturn, 1) := by decide +kernel
theorem dX11_look_132 : decode cX11_look 132 = .ok (.aload_n 0, 1) := by decide +kernel
theorem dX11_look_133 : decode cX11_look 133 = .ok (.getfield 64, 3) := by decide +kernel
theorem dX11_look_136 : decode cX11_look 136 = .ok (.getfield 350, 3) := by decide +kernel
theorem dX11_look_139 : decode cX11_look 139 = .ok (.ireturn, 1) := by decide +kernel
theorem dX11_look_140 : decode cX11_look 140 = .ok (.aload_n 0, 1) := by decide +kernel
theorem dX11_look_141 : decode cX11_look 141 = .ok (.getfield 64, 3) := by decide +kernel
theorem dX11_look_144 : decode cX11_look 144 = .ok (.getfield 353, 3) := by decide +kernel
theorem dX11_look_147 : decode cX11_look 147 = .ok (.ireturn, 1) := by decide +kernel
theorem dX11_look_148 : decode cX11_look 148 = .ok (.aload_n 0, 1) := by decide +kernel
theorem dX11_look_149 : decode cX11_look 149 = .ok (.getfield 19, 3) := by decide +kernel
theorem dX11_look_152 : decode cX11_look 152 = .ok (.getfield 179, 3) := by decide +kernel
theorem dX11_look_155 : decode cX11_look 155 = .ok (.ireturn, 1) := by decide +kernel
theorem dX11_look_156 : decode cX11_look 156 = .ok (.aload_n 0, 1) := by decide +kernel
theorem dX11_look_157 : decode cX11_look 157 = .ok (.getfield 10, 3) := by decide +kernel
theorem dX11_look_160 : decode cX11_look 160 = .ok (.getfield 356, 3) := by decide +kernel
theorem dX11_look_163 : decode cX11_look 163 = .ok (.invokestatic 359, 3) := by decide +kernel
theorem dX11_look_166 : decode cX11_look 166 = .ok (.ireturn, 1) := by decide +kernel
theorem dX11_look_167 : decode cX11_look 167 = .ok (.aload_n 0, 1) := by decide +kernel
theorem dX11_look_168 : decode cX11_look 168 = .ok (.getfield 10, 3) := by decide +kernel
theorem dX11_look_171 : decode cX11_look 171 = .ok (.getfield 75, 3) := by decide +kernel
theorem dX11_look_174 : decode cX11_look 174 = .ok (.getfield 363, 3) := by decide +kernel
theorem dX11_look_177 : decode cX11_look 177 = .ok (.ireturn, 1) := by decide +kernel
theorem dX11_look_178 : decode cX11_look 178 = .ok (.aload_n 0, 1) := by decide +kernel
theorem dX11_look_179 : decode cX11_look 179 = .ok (.getfield 47, 3) := by decide +kernel
theorem dX11_look_182 : decode cX11_look 182 = .ok (.getfield 364, 3) := by decide +kernel
theorem dX11_look_185 : decode cX11_look 185 = .ok (.ireturn, 1) := by decide +kernel
theorem dX11_look_186 : decode cX11_look 186 = .ok (.aload_n 0, 1) := by decide +kernel
theorem dX11_look_187 : decode cX11_look 187 = .ok (.getfield 33, 3) := by decide +kernel
theorem dX11_look_190 : decode cX11_look 190 = .ok (.getfield 127, 3) := by decide +kernel
theorem dX11_look_193 : decode cX11_look 193 = .ok (.ireturn, 1) := by decide +kernel
theorem dX11_look_194 : decode cX11_look 194 = .ok (.aload_n 0, 1) := by decide +kernel
theorem dX11_look_195 : decode cX11_look 195 = .ok (.getfield 84, 3) := by decide +kernel
theorem dX11_look_198 : decode cX11_look 198 = .ok (.invokestatic 359, 3) := by decide +kernel
theorem dX11_look_201 : decode cX11_look 201 = .ok (.ireturn, 1) := by decide +kernel
theorem dX11_look_202 : decode cX11_look 202 = .ok (.iconst (-1), 1) := by decide +kernel
theorem dX11_look_203 : decode cX11_look 203 = .ok (.ireturn, 1) := by decide +kernel
set_option maxHeartbeats 4000000 in
set_option maxRecDepth 100000 in
theorem m_X11_look (l : Launch) {Z : pZ} (S : pSh Z) {h : pH} (I : Iv Z h) (what : Int32)  : pMet l yX11_look cX11_look 2 (some .int) 1 0 0 20 Z h [.ref (zB Z + 0), .int what] (pQi Z (fun r Z1 h1 => Z = Z1 ∧ Iv Z h1 ∧ agrD [] h h1)) := by
  refine pOfW (lv := [(0, .ref (zB Z + 0)), (1, .int what)]) (by decide) (Nat.le_of_ble_eq_true rfl) rfl ?_
  intro p e s m below meth c ls M hr hlk hnm V hl
  have hx := M.1.1
  have hb := M.1.2.1
  have A : agrD [] h h := agrD.rf
  refine lv_iload_n hx hb dX11_look_0 rfl (lv_at hl 1 rfl) ?_
  by_cases w_1 : what.toInt < 0 ∨ 14 < what.toInt
  · refine lv_tableOut (tgt := 202) hx hb dX11_look_1 w_1 (by decide) ?_
    refine lv_iconst (v := (-1)) hx hb dX11_look_202 (by decide) ?_
    have k_m1 : (-1 : Int32).toInt = -1 := rfl
    exact pe_i M V rfl rfl hr hlk rfl ⟨rfl, I, A.wk (by decide)⟩ ⟨Nat.le_refl _, Nat.le_refl _⟩ dX11_look_203
  · obtain w_1 | w_1 | w_1 | w_1 | w_1 | w_1 | w_1 | w_1 | w_1 | w_1 | w_1 | w_1 | w_1 | w_1 | w_1 : what.toInt = 0 ∨ what.toInt = 1 ∨ what.toInt = 2 ∨ what.toInt = 3 ∨ what.toInt = 4 ∨ what.toInt = 5 ∨ what.toInt = 6 ∨ what.toInt = 7 ∨ what.toInt = 8 ∨ what.toInt = 9 ∨ what.toInt = 10 ∨ what.toInt = 11 ∨ what.toInt = 12 ∨ what.toInt = 13 ∨ what.toInt = 14 := by omega
    · refine lv_tableIn (tgt := 76) (off := 75) hx hb dX11_look_1 (by omega) (by omega) (by rw [w_1]; rfl) (by decide) ?_
      refine lv_aload_n hx hb dX11_look_76 rfl (lv_at hl 0 rfl) ?_
      refine pg_r M V 11 4 (c_is_0 S) pC11 fk11_4 (c_r_0_4 S) lkF_X11_40 dX11_look_77 ?_
      refine pg_i M V 1 0 (c_is_122 S) pC1 fk1_0 lkF_X11_341 dX11_look_80 ?_
      refine lv_topi (fun v1 ev1 => ?_)
      exact pe_i M V rfl rfl hr hlk rfl ⟨rfl, I, A.wk (by decide)⟩ ⟨Nat.le_refl _, Nat.le_refl _⟩ dX11_look_83
    · refine lv_tableIn (tgt := 84) (off := 83) hx hb dX11_look_1 (by omega) (by omega) (by rw [w_1]; rfl) (by decide) ?_
      refine lv_aload_n hx hb dX11_look_84 rfl (lv_at hl 0 rfl) ?_
      refine pg_r M V 11 4 (c_is_0 S) pC11 fk11_4 (c_r_0_4 S) lkF_X11_40 dX11_look_85 ?_
      refine pg_i M V 1 1 (c_is_122 S) pC1 fk1_1 lkF_X11_344 dX11_look_88 ?_
      refine lv_topi (fun v2 ev2 => ?_)
      exact pe_i M V rfl rfl hr hlk rfl ⟨rfl, I, A.wk (by decide)⟩ ⟨Nat.le_refl _, Nat.le_refl _⟩ dX11_look_91
    · refine lv_tableIn (tgt := 92) (off := 91) hx hb dX11_look_1 (by omega) (by omega) (by rw [w_1]; rfl) (by decide) ?_
      refine lv_aload_n hx hb dX11_look_92 rfl (lv_at hl 0 rfl) ?_
      refine pg_r M V 11 4 (c_is_0 S) pC11 fk11_4 (c_r_0_4 S) lkF_X11_40 dX11_look_93 ?_
      refine pg_i M V 1 2 (c_is_122 S) pC1 fk1_2 lkF_X11_260 dX11_look_96 ?_
      refine lv_topi (fun v3 ev3 => ?_)
      exact pe_i M V rfl rfl hr hlk rfl ⟨rfl, I, A.wk (by decide)⟩ ⟨Nat.le_refl _, Nat.le_refl _⟩ dX11_look_99
    · refine lv_tableIn (tgt := 100) (off := 99) hx hb dX11_look_1 (by omega) (by omega) (by rw [w_1]; rfl) (by decide) ?_
      refine lv_aload_n hx hb dX11_look_100 rfl (lv_at hl 0 rfl) ?_
      refine pg_r M V 11 4 (c_is_0 S) pC11 fk11_4 (c_r_0_4 S) lkF_X11_40 dX11_look_101 ?_
      refine pg_i M V 1 3 (c_is_122 S) pC1 fk1_3 lkF_X11_347 dX11_look_104 ?_
      refine lv_topi (fun v4 ev4 => ?_)
      exact pe_i M V rfl rfl hr hlk rfl ⟨rfl, I, A.wk (by decide)⟩ ⟨Nat.le_refl _, Nat.le_refl _⟩ dX11_look_107
    · refine lv_tableIn (tgt := 108) (off := 107) hx hb dX11_look_1 (by omega) (by omega) (by rw [w_1]; rfl) (by decide) ?_
      refine lv_aload_n hx hb dX11_look_108 rfl (lv_at hl 0 rfl) ?_
      refine pg_r M V 11 1 (c_is_0 S) pC11 fk11_1 (c_r_0_1 S) lkF_X11_19 dX11_look_109 ?_
      refine pg_i M V 3 3 (c_is_10 S) pC3 fk3_3 lkF_X11_103 dX11_look_112 ?_
      refine lv_topi (fun v5 ev5 => ?_)
      exact pe_i M V rfl rfl hr hlk rfl ⟨rfl, I, A.wk (by decide)⟩ ⟨Nat.le_refl _, Nat.le_refl _⟩ dX11_look_115
    · refine lv_tableIn (tgt := 116) (off := 115) hx hb dX11_look_1 (by omega) (by omega) (by rw [w_1]; rfl) (by decide) ?_
      refine lv_aload_n hx hb dX11_look_116 rfl (lv_at hl 0 rfl) ?_
      refine pg_r M V 11 8 (c_is_0 S) pC11 fk11_8 (c_r_0_8 S) lkF_X11_64 dX11_look_117 ?_
      refine pg_i M V 2 0 (c_is_135 S) pC2 fk2_0 lkF_X11_299 dX11_look_120 ?_
      refine lv_topi (fun v6 ev6 => ?_)
      exact pe_i M V rfl rfl hr hlk rfl ⟨rfl, I, A.wk (by decide)⟩ ⟨Nat.le_refl _, Nat.le_refl _⟩ dX11_look_123
    · refine lv_tableIn (tgt := 124) (off := 123) hx hb dX11_look_1 (by omega) (by omega) (by rw [w_1]; rfl) (by decide) ?_
      refine lv_aload_n hx hb dX11_look_124 rfl (lv_at hl 0 rfl) ?_
      refine pg_r M V 11 8 (c_is_0 S) pC11 fk11_8 (c_r_0_8 S) lkF_X11_64 dX11_look_125 ?_
      refine pg_i M V 2 1 (c_is_135 S) pC2 fk2_1 lkF_X11_302 dX11_look_128 ?_
      refine lv_topi (fun v7 ev7 => ?_)
      exact pe_i M V rfl rfl hr hlk rfl ⟨rfl, I, A.wk (by decide)⟩ ⟨Nat.le_refl _, Nat.le_refl _⟩ dX11_look_131
    · refine lv_tableIn (tgt := 132) (off := 131) hx hb dX11_look_1 (by omega) (by omega) (by rw [w_1]; rfl) (by decide) ?_
      refine lv_aload_n hx hb dX11_look_132 rfl (lv_at hl 0 rfl) ?_
      refine pg_r M V 11 8 (c_is_0 S) pC11 fk11_8 (c_r_0_8 S) lkF_X11_64 dX11_look_133 ?_
      refine pg_i M V 2 2 (c_is_135 S) pC2 fk2_2 lkF_X11_350 dX11_look_136 ?_
      refine lv_topi (fun v8 ev8 => ?_)
      exact pe_i M V rfl rfl hr hlk rfl ⟨rfl, I, A.wk (by decide)⟩ ⟨Nat.le_refl _, Nat.le_refl _⟩ dX11_look_139
    · refine lv_tableIn (tgt := 140) (off := 139) hx hb dX11_look_1 (by omega) (by omega) (by rw [w_1]; rfl) (by decide) ?_
      refine lv_aload_n hx hb dX11_look_140 rfl (lv_at hl 0 rfl) ?_
      refine pg_r M V 11 8 (c_is_0 S) pC11 fk11_8 (c_r_0_8 S) lkF_X11_64 dX11_look_141 ?_
      refine pg_i M V 2 3 (c_is_135 S) pC2 fk2_3 lkF_X11_353 dX11_look_144 ?_
      refine lv_topi (fun v9 ev9 => ?_)
      exact pe_i M V rfl rfl hr hlk rfl ⟨rfl, I, A.wk (by decide)⟩ ⟨Nat.le_refl _, Nat.le_refl _⟩ dX11_look_147
    · refine lv_tableIn (tgt := 148) (off := 147) hx hb dX11_look_1 (by omega) (by omega) (by rw [w_1]; rfl) (by decide) ?_
      refine lv_aload_n hx hb dX11_look_148 rfl (lv_at hl 0 rfl) ?_
      refine pg_r M V 11 1 (c_is_0 S) pC11 fk11_1 (c_r_0_1 S) lkF_X11_19 dX11_look_149 ?_
      refine pg_i M V 3 5 (c_is_10 S) pC3 fk3_5 lkF_X11_179 dX11_look_152 ?_
      refine lv_topi (fun v10 ev10 => ?_)
      exact pe_i M V rfl rfl hr hlk rfl ⟨rfl, I, A.wk (by decide)⟩ ⟨Nat.le_refl _, Nat.le_refl _⟩ dX11_look_155
    · refine lv_tableIn (tgt := 156) (off := 155) hx hb dX11_look_1 (by omega) (by omega) (by rw [w_1]; rfl) (by decide) ?_
      refine lv_aload_n hx hb dX11_look_156 rfl (lv_at hl 0 rfl) ?_
      refine pg_r M V 11 0 (c_is_0 S) pC11 fk11_0 (c_r_0_0 S) lkF_X11_10 dX11_look_157 ?_
      refine pg_i M V 5 13 (c_is_1 S) pC5 fk5_13 lkF_X11_356 dX11_look_160 ?_
      refine lv_topi (fun v11 ev11 => ?_)
      have tv11 : 0 ≤ v11.toInt ∧ v11.toInt ≤ 1 := by rw [ev11]; exact I.get (c_is_1 S) 13
      refine pk_i (pr_S M V (m_X11_oneIf l (Z := Z) (h := _) v11) km_X11_oneIf lkM_X11_359 rfl hl.1 rfl (Nat.le_of_ble_eq_true rfl) ⟨Nat.le_of_ble_eq_true rfl, Nat.le_of_ble_eq_true rfl⟩ ⟨Nat.le_of_ble_eq_true rfl, Nat.le_of_ble_eq_true rfl⟩ dX11_look_163) V (fun r12 Zr12 hr12 H locs pr12 _ _ V => ?_)
      obtain ⟨rfl, rfl, fr12_0⟩ := pr12
      exact pe_i M V rfl rfl hr hlk rfl ⟨rfl, I, A.wk (by decide)⟩ ⟨Nat.le_refl _, Nat.le_refl _⟩ dX11_look_166
    · refine lv_tableIn (tgt := 167) (off := 166) hx hb dX11_look_1 (by omega) (by omega) (by rw [w_1]; rfl) (by decide) ?_
      refine lv_aload_n hx hb dX11_look_167 rfl (lv_at hl 0 rfl) ?_
      refine pg_r M V 11 0 (c_is_0 S) pC11 fk11_0 (c_r_0_0 S) lkF_X11_10 dX11_look_168 ?_
      refine pg_r M V 5 0 (c_is_1 S) pC5 fk5_0 (c_r_1_0 S) lkF_X11_75 dX11_look_171 ?_
      refine pg_i M V 4 4 (c_is_2 S) pC4 fk4_4 lkF_X11_363 dX11_look_174 ?_
      refine lv_topi (fun v13 ev13 => ?_)
      have tv13 : 0 ≤ v13.toInt ∧ v13.toInt ≤ 64 := by rw [ev13]; exact I.get (c_is_2 S) 4
      exact pe_i M V rfl rfl hr hlk rfl ⟨rfl, I, A.wk (by decide)⟩ ⟨Nat.le_refl _, Nat.le_refl _⟩ dX11_look_177
    · refine lv_tableIn (tgt := 178) (off := 177) hx hb dX11_look_1 (by omega) (by omega) (by rw [w_1]; rfl) (by decide) ?_
      refine lv_aload_n hx hb dX11_look_178 rfl (lv_at hl 0 rfl) ?_
      refine pg_r M V 11 5 (c_is_0 S) pC11 fk11_5 (c_r_0_5 S) lkF_X11_47 dX11_look_179 ?_
      refine pg_i M V 10 5 (c_is_123 S) pC10 fk10_5 lkF_X11_364 dX11_look_182 ?_
      refine lv_topi (fun v14 ev14 => ?_)
      have tv14 : 0 ≤ v14.toInt ∧ v14.toInt ≤ 40 := by rw [ev14]; exact I.get (c_is_123 S) 5
      exact pe_i M V rfl rfl hr hlk rfl ⟨rfl, I, A.wk (by decide)⟩ ⟨Nat.le_refl _, Nat.le_refl _⟩ dX11_look_185
    · refine lv_tableIn (tgt := 186) (off := 185) hx hb dX11_look_1 (by omega) (by omega) (by rw [w_1]; rfl) (by decide) ?_
      refine lv_aload_n hx hb dX11_look_186 rfl (lv_at hl 0 rfl) ?_
      refine pg_r M V 11 3 (c_is_0 S) pC11 fk11_3 (c_r_0_3 S) lkF_X11_33 dX11_look_187 ?_
      refine pg_i M V 8 4 (c_is_36 S) pC8 fk8_4 lkF_X11_127 dX11_look_190 ?_
      refine lv_topi (fun v15 ev15 => ?_)
      have tv15 : 0 ≤ v15.toInt ∧ v15.toInt ≤ 40 := by rw [ev15]; exact I.get (c_is_36 S) 4
      exact pe_i M V rfl rfl hr hlk rfl ⟨rfl, I, A.wk (by decide)⟩ ⟨Nat.le_refl _, Nat.le_refl _⟩ dX11_look_193
    · refine lv_tableIn (tgt := 194) (off := 193) hx hb dX11_look_1 (by omega) (by omega) (by rw [w_1]; rfl) (by decide) ?_
      refine lv_aload_n hx hb dX11_look_194 rfl (lv_at hl 0 rfl) ?_
      refine pg_i M V 11 10 (c_is_0 S) pC11 fk11_10 lkF_X11_84 dX11_look_195 ?_
      refine lv_topi (fun v16 ev16 => ?_)
      have tv16 : 0 ≤ v16.toInt ∧ v16.toInt ≤ 1 := by rw [ev16]; exact I.get (c_is_0 S) 10
      refine pk_i (pr_S M V (m_X11_oneIf l (Z := Z) (h := _) v16) km_X11_oneIf lkM_X11_359 rfl hl.1 rfl (Nat.le_of_ble_eq_true rfl) ⟨Nat.le_of_ble_eq_true rfl, Nat.le_of_ble_eq_true rfl⟩ ⟨Nat.le_of_ble_eq_true rfl, Nat.le_of_ble_eq_true rfl⟩ dX11_look_198) V (fun r17 Zr17 hr17 H locs pr17 _ _ V => ?_)
      obtain ⟨rfl, rfl, fr17_0⟩ := pr17
      exact pe_i M V rfl rfl hr hlk rfl ⟨rfl, I, A.wk (by decide)⟩ ⟨Nat.le_refl _, Nat.le_refl _⟩ dX11_look_201
theorem dX11_place_0 : decode cX11_place 0 = .ok (.iload_n 1, 1) := by decide +kernel
theorem dX11_place_1 : decode cX11_place 1 = .ok (.iconst 0, 1) := by decide +kernel
theorem dX11_place_2 : decode cX11_place 2 = .ok (.bipush 8, 2) := by decide +kernel
theorem dX11_place_4 : decode cX11_place 4 = .ok (.invokestatic 71, 3) := by decide +kernel
theorem dX11_place_7 : decode cX11_place 7 = .ok (.ifCond .eq 13, 3) := by decide +kernel
theorem dX11_place_10 : decode cX11_place 10 = .ok (.iload_n 2, 1) := by decide +kernel
theorem dX11_place_11 : decode cX11_place 11 = .ok (.iconst 0, 1) := by decide +kernel
theorem dX11_place_12 : decode cX11_place 12 = .ok (.bipush 8, 2) := by decide +kernel
theorem dX11_place_14 : decode cX11_place 14 = .ok (.invokestatic 71, 3) := by decide +kernel
theorem dX11_place_17 : decode cX11_place 17 = .ok (.ifCond .ne 5, 3) := by decide +kernel
theorem dX11_place_20 : decode cX11_place 20 = .ok (.iconst (-1), 1) := by decide +kernel
theorem dX11_place_21 : decode cX11_place 21 = .ok (.ireturn, 1) := by decide +kernel
theorem dX11_place_22 : decode cX11_place 22 = .ok (.iload_n 2, 1) := by decide +kernel
theorem dX11_place_23 : decode cX11_place 23 = .ok (.bipush 7, 2) := by decide +kernel
theorem dX11_place_25 : decode cX11_place 25 = .ok (.if_icmp .ne 12, 3) := by decide +kernel
theorem dX11_place_28 : decode cX11_place 28 = .ok (.aload_n 0, 1) := by decide +kernel
theorem dX11_place_29 : decode cX11_place 29 = .ok (.getfield 19, 3) := by decide +kernel
theorem dX11_place_32 : decode cX11_place 32 = .ok (.iload_n 1, 1) := by decide +kernel
theorem dX11_place_33 : decode cX11_place 33 = .ok (.invokevirtual 365, 3) := by decide +kernel
theorem dX11_place_36 : decode cX11_place 36 = .ok (.ireturn, 1) := by decide +kernel
theorem dX11_place_37 : decode cX11_place 37 = .ok (.aload_n 0, 1) := by decide +kernel
theorem dX11_place_38 : decode cX11_place 38 = .ok (.getfield 19, 3) := by decide +kernel
theorem dX11_place_41 : decode cX11_place 41 = .ok (.iload_n 1, 1) := by decide +kernel
theorem dX11_place_42 : decode cX11_place 42 = .ok (.invokevirtual 149, 3) := by decide +kernel
theorem dX11_place_45 : decode cX11_place 45 = .ok (.astore_n 3, 1) := by decide +kernel
theorem dX11_place_46 : decode cX11_place 46 = .ok (.aload_n 3, 1) := by decide +kernel
theorem dX11_place_47 : decode cX11_place 47 = .ok (.getfield 157, 3) := by decide +kernel
theorem dX11_place_50 : decode cX11_place 50 = .ok (.ifCond .eq 11, 3) := by decide +kernel
theorem dX11_place_53 : decode cX11_place 53 = .ok (.aload_n 3, 1) := by decide +kernel
theorem dX11_place_54 : decode cX11_place 54 = .ok (.iload_n 2, 1) := by decide +kernel
theorem dX11_place_55 : decode cX11_place 55 = .ok (.invokevirtual 368, 3) := by decide +kernel
theorem dX11_place_58 : decode cX11_place 58 = .ok (.goto 4, 3) := by decide +kernel
theorem dX11_place_61 : decode cX11_place 61 = .ok (.iconst 0, 1) := by decide +kernel
theorem dX11_place_62 : decode cX11_place 62 = .ok (.ireturn, 1) := by decide +kernel
set_option maxHeartbeats 4000000 in
set_option maxRecDepth 100000 in
theorem m_X11_place (l : Launch) {Z : pZ} (S : pSh Z) {h : pH} (I : Iv Z h) (window : Int32) (what : Int32)  : pMet l yX11_place cX11_place 4 (some .int) 2 0 0 44 Z h [.ref (zB Z + 0), .int window, .int what] (pQi Z (fun r Z1 h1 => Z = Z1 ∧ Iv Z h1 ∧ agrD [] h h1)) := by
  refine pOfW (lv := [(0, .ref (zB Z + 0)), (1, .int window), (2, .int what)]) (by decide) (Nat.le_of_ble_eq_true rfl) rfl ?_
  intro p e s m below meth c ls M hr hlk hnm V hl
  have hx := M.1.1
  have hb := M.1.2.1
  have A : agrD [] h h := agrD.rf
  have J_62 : ∀ (y62_0 : Int32) (hJ : pH) (H : Heap) (locs : List Loc) (ls : Array Slot), pV Z hJ s.heap H locs → Iv Z hJ → agrD [] h hJ → lv_has ls 4 [(0, .ref (zB Z + 0)), (1, .int window), (2, .int what)] → W p l e (pRm 2 0 0 44) s m ([.ref (zB Z + 0), .int window, .int what] : List Value).toArray below meth c H locs 0 0 (MQ below (pQi Z (fun r Z1 h1 => Z = Z1 ∧ Iv Z h1 ∧ agrD [] h h1)) ([.ref (zB Z + 0), .int window, .int what] : List Value).toArray s 0 0 (pA (zB Z))) (F0 m 62 ls [.int y62_0]) := by
    intro y62_0 hJ H locs ls V I A hl
    exact pe_i M V rfl rfl hr hlk rfl ⟨rfl, I, A.wk (by decide)⟩ ⟨Nat.le_refl _, Nat.le_refl _⟩ dX11_place_62
  have J_20 : ∀ (hJ : pH) (H : Heap) (locs : List Loc) (ls : Array Slot), pV Z hJ s.heap H locs → Iv Z hJ → agrD [] h hJ → lv_has ls 4 [(0, .ref (zB Z + 0)), (1, .int window), (2, .int what)] → W p l e (pRm 2 0 0 44) s m ([.ref (zB Z + 0), .int window, .int what] : List Value).toArray below meth c H locs 0 0 (MQ below (pQi Z (fun r Z1 h1 => Z = Z1 ∧ Iv Z h1 ∧ agrD [] h h1)) ([.ref (zB Z + 0), .int window, .int what] : List Value).toArray s 0 0 (pA (zB Z))) (F0 m 20 ls []) := by
    intro hJ H locs ls V I A hl
    refine lv_iconst (v := (-1)) hx hb dX11_place_20 (by decide) ?_
    have k_m1 : (-1 : Int32).toInt = -1 := rfl
    exact pe_i M V rfl rfl hr hlk rfl ⟨rfl, I, A.wk (by decide)⟩ ⟨Nat.le_refl _, Nat.le_refl _⟩ dX11_place_21
  refine lv_iload_n hx hb dX11_place_0 rfl (lv_at hl 1 rfl) ?_
  refine lv_iconst (v := 0) hx hb dX11_place_1 (by decide) ?_
  refine lv_bipush (v := 8) hx hb dX11_place_2 (by decide) ?_
  have k_0 : (0 : Int32).toInt = 0 := rfl
  have k_8 : (8 : Int32).toInt = 8 := rfl
  refine pk_i (pr_S M V (m_X11_isWithin l (Z := Z) (h := _) window (0 : Int32) (8 : Int32)) km_X11_isWithin lkM_X11_71 rfl hl.1 rfl (Nat.le_of_ble_eq_true rfl) ⟨Nat.le_of_ble_eq_true rfl, Nat.le_of_ble_eq_true rfl⟩ ⟨Nat.le_of_ble_eq_true rfl, Nat.le_of_ble_eq_true rfl⟩ dX11_place_4) V (fun r1 Zr1 hr1 H locs pr1 _ _ V => ?_)
  obtain ⟨rfl, rfl, fr1_0⟩ := pr1
  refine lv_if_eq (tgt := 20) hx hb dX11_place_7 (by decide) (fun c_7 => ?_) (fun c_7 => ?_)
  · skip
    have c_7 := pi_eq.mp c_7
    exact J_20 _ _ _ _ V I (A.wk (by decide)) (lv_sub hl [0, 1, 2] rfl) 
  · skip
    have c_7 := pi_ne c_7
    refine lv_iload_n hx hb dX11_place_10 rfl (lv_at hl 2 rfl) ?_
    refine lv_iconst (v := 0) hx hb dX11_place_11 (by decide) ?_
    refine lv_bipush (v := 8) hx hb dX11_place_12 (by decide) ?_
    refine pk_i (pr_S M V (m_X11_isWithin l (Z := Z) (h := _) what (0 : Int32) (8 : Int32)) km_X11_isWithin lkM_X11_71 rfl hl.1 rfl (Nat.le_of_ble_eq_true rfl) ⟨Nat.le_of_ble_eq_true rfl, Nat.le_of_ble_eq_true rfl⟩ ⟨Nat.le_of_ble_eq_true rfl, Nat.le_of_ble_eq_true rfl⟩ dX11_place_14) V (fun r2 Zr2 hr2 H locs pr2 _ _ V => ?_)
    obtain ⟨rfl, rfl, fr2_0⟩ := pr2
    refine lv_if_ne (tgt := 22) hx hb dX11_place_17 (by decide) (fun c_17 => ?_) (fun c_17 => ?_)
    · skip
      have c_17 := pi_ne c_17
      refine lv_iload_n hx hb dX11_place_22 rfl (lv_at hl 2 rfl) ?_
      refine lv_bipush (v := 7) hx hb dX11_place_23 (by decide) ?_
      refine lv_icmp_ne (tgt := 37) hx hb dX11_place_25 (by decide) (fun c_25 => ?_) (fun c_25 => ?_)
      · skip
        have k_7 : (7 : Int32).toInt = 7 := rfl
        have c_25 := pi_ne c_25
        refine lv_aload_n hx hb dX11_place_37 rfl (lv_at hl 0 rfl) ?_
        refine pg_r M V 11 1 (c_is_0 S) pC11 fk11_1 (c_r_0_1 S) lkF_X11_19 dX11_place_38 ?_
        refine lv_iload_n hx hb dX11_place_41 rfl (lv_at hl 1 rfl) ?_
        refine pk_r (pr_V M V (m_X3_paneOf l S I window) km_X3_paneOf (c_is_10 S) pC3 lkM_X11_149 rfl hl.1 rfl (Nat.le_of_ble_eq_true rfl) ⟨Nat.le_of_ble_eq_true rfl, Nat.le_of_ble_eq_true rfl⟩ ⟨Nat.le_of_ble_eq_true rfl, Nat.le_of_ble_eq_true rfl⟩ dX11_place_42) V (fun r3 Zr3 hr3 H locs pr3 _ _ V => ?_)
        obtain ⟨rfl, rfl, fr3_0⟩ := pr3
        refine lv_astore_n (lv' := [(3, .ref (zB Z + r3)), (0, .ref (zB Z + 0)), (1, .int window), (2, .int what)]) hx hb dX11_place_45 rfl hl (by decide) rfl (fun ls hl => ?_)
        refine lv_aload_n hx hb dX11_place_46 rfl (lv_at hl 0 rfl) ?_
        refine pg_i M V 7 8 fr3_0 pC7 fk7_8 lkF_X11_157 dX11_place_47 ?_
        refine lv_topi (fun v4 ev4 => ?_)
        have tv4 : 0 ≤ v4.toInt ∧ v4.toInt ≤ 1 := by rw [ev4]; exact I.get fr3_0 8
        refine lv_if_eq (tgt := 61) hx hb dX11_place_50 (by decide) (fun c_50 => ?_) (fun c_50 => ?_)
        · skip
          have c_50 := pi_eq.mp c_50
          refine lv_iconst (v := 0) hx hb dX11_place_61 (by decide) ?_
          exact J_62 (0 : Int32) _ _ _ _ V I (A.wk (by decide)) (lv_sub hl [1, 2, 3] rfl) 
        · skip
          have c_50 := pi_ne c_50
          refine lv_aload_n hx hb dX11_place_53 rfl (lv_at hl 0 rfl) ?_
          refine lv_iload_n hx hb dX11_place_54 rfl (lv_at hl 3 rfl) ?_
          refine pk_i (pr_V M V (m_X7_answer l S I r3 fr3_0 what ) km_X7_answer fr3_0 pC7 lkM_X11_368 rfl hl.1 rfl (Nat.le_of_ble_eq_true rfl) ⟨Nat.le_of_ble_eq_true rfl, Nat.le_of_ble_eq_true rfl⟩ ⟨Nat.le_of_ble_eq_true rfl, Nat.le_of_ble_eq_true rfl⟩ dX11_place_55) V (fun r5 Zr5 hr5 H locs pr5 _ _ V => ?_)
          obtain ⟨rfl, I, pA_r5⟩ := pr5
          have A := A.tr pA_r5 (by decide)
          refine lv_goto (tgt := 62) hx hb dX11_place_58 (by decide) ?_
          exact J_62 r5 _ _ _ _ V I (A.wk (by decide)) (lv_sub hl [1, 2, 3] rfl) 
      · skip
        have k_7 : (7 : Int32).toInt = 7 := rfl
        have c_25 := pi_eq.mp c_25
        refine lv_aload_n hx hb dX11_place_28 rfl (lv_at hl 0 rfl) ?_
        refine pg_r M V 11 1 (c_is_0 S) pC11 fk11_1 (c_r_0_1 S) lkF_X11_19 dX11_place_29 ?_
        refine lv_iload_n hx hb dX11_place_32 rfl (lv_at hl 1 rfl) ?_
        refine pk_i (pr_V M V (m_X3_placeInOrder l S I window ) km_X3_placeInOrder (c_is_10 S) pC3 lkM_X11_365 rfl hl.1 rfl (Nat.le_of_ble_eq_true rfl) ⟨Nat.le_of_ble_eq_true rfl, Nat.le_of_ble_eq_true rfl⟩ ⟨Nat.le_of_ble_eq_true rfl, Nat.le_of_ble_eq_true rfl⟩ dX11_place_33) V (fun r6 Zr6 hr6 H locs pr6 _ _ V => ?_)
        obtain ⟨rfl, I, pA_r6, fr6_0⟩ := pr6
        have A := A.tr pA_r6 (by decide)
        exact pe_i M V rfl rfl hr hlk rfl ⟨rfl, I, A.wk (by decide)⟩ ⟨Nat.le_refl _, Nat.le_refl _⟩ dX11_place_36
    · skip
      have c_17 := pi_eq.mp c_17
      exact J_20 _ _ _ _ V I (A.wk (by decide)) (lv_sub hl [0, 1, 2] rfl) 
theorem dX11_kept_0 : decode cX11_kept 0 = .ok (.aload_n 0, 1) := by decide +kernel
theorem dX11_kept_1 : decode cX11_kept 1 = .ok (.getfield 47, 3) := by decide +kernel
theorem dX11_kept_4 : decode cX11_kept 4 = .ok (.iload_n 1, 1) := by decide +kernel
theorem dX11_kept_5 : decode cX11_kept 5 = .ok (.invokevirtual 250, 3) := by decide +kernel
theorem dX11_kept_8 : decode cX11_kept 8 = .ok (.ireturn, 1) := by decide +kernel
set_option maxHeartbeats 4000000 in
set_option maxRecDepth 100000 in
theorem m_X11_kept (l : Launch) {Z : pZ} (S : pSh Z) {h : pH} (I : Iv Z h) (id : Int32)  : pMet l yX11_kept cX11_kept 2 (some .int) 3 0 0 64 Z h [.ref (zB Z + 0), .int id] (pQi Z (fun r Z1 h1 => Z = Z1 ∧ Iv Z h1 ∧ agrD [] h h1)) := by
  refine pOfW (lv := [(0, .ref (zB Z + 0)), (1, .int id)]) (by decide) (Nat.le_of_ble_eq_true rfl) rfl ?_
  intro p e s m below meth c ls M hr hlk hnm V hl
  have hx := M.1.1
  have hb := M.1.2.1
  have A : agrD [] h h := agrD.rf
  refine lv_aload_n hx hb dX11_kept_0 rfl (lv_at hl 0 rfl) ?_
  refine pg_r M V 11 5 (c_is_0 S) pC11 fk11_5 (c_r_0_5 S) lkF_X11_47 dX11_kept_1 ?_
  refine lv_iload_n hx hb dX11_kept_4 rfl (lv_at hl 1 rfl) ?_
  refine pk_i (pr_V M V (m_X10_numberOf l S I id ) km_X10_numberOf (c_is_123 S) pC10 lkM_X11_250 rfl hl.1 rfl (Nat.le_of_ble_eq_true rfl) ⟨Nat.le_of_ble_eq_true rfl, Nat.le_of_ble_eq_true rfl⟩ ⟨Nat.le_of_ble_eq_true rfl, Nat.le_of_ble_eq_true rfl⟩ dX11_kept_5) V (fun r1 Zr1 hr1 H locs pr1 _ _ V => ?_)
  obtain ⟨rfl, I, pA_r1⟩ := pr1
  have A := A.tr pA_r1 (by decide)
  exact pe_i M V rfl rfl hr hlk rfl ⟨rfl, I, A.wk (by decide)⟩ ⟨Nat.le_refl _, Nat.le_refl _⟩ dX11_kept_8
theorem dX11_text_0 : decode cX11_text 0 = .ok (.iload_n 2, 1) := by decide +kernel
theorem dX11_text_1 : decode cX11_text 1 = .ok (.bipush 12, 2) := by decide +kernel
theorem dX11_text_3 : decode cX11_text 3 = .ok (.if_icmp .ne 14, 3) := by decide +kernel
theorem dX11_text_6 : decode cX11_text 6 = .ok (.aload_n 0, 1) := by decide +kernel
theorem dX11_text_7 : decode cX11_text 7 = .ok (.getfield 47, 3) := by decide +kernel
theorem dX11_text_10 : decode cX11_text 10 = .ok (.iload_n 1, 1) := by decide +kernel
theorem dX11_text_11 : decode cX11_text 11 = .ok (.invokevirtual 371, 3) := by decide +kernel
theorem dX11_text_14 : decode cX11_text 14 = .ok (.goto 12, 3) := by decide +kernel
theorem dX11_text_17 : decode cX11_text 17 = .ok (.aload_n 0, 1) := by decide +kernel
theorem dX11_text_18 : decode cX11_text 18 = .ok (.getfield 47, 3) := by decide +kernel
theorem dX11_text_21 : decode cX11_text 21 = .ok (.iload_n 1, 1) := by decide +kernel
theorem dX11_text_22 : decode cX11_text 22 = .ok (.iload_n 2, 1) := by decide +kernel
theorem dX11_text_23 : decode cX11_text 23 = .ok (.invokevirtual 269, 3) := by decide +kernel
theorem dX11_text_26 : decode cX11_text 26 = .ok (.ireturn, 1) := by decide +kernel
set_option maxHeartbeats 4000000 in
set_option maxRecDepth 100000 in
theorem m_X11_text (l : Launch) {Z : pZ} (S : pSh Z) {h : pH} (I : Iv Z h) (id : Int32) (k : Int32)  : pMet l yX11_text cX11_text 3 (some .int) 3 0 0 65 Z h [.ref (zB Z + 0), .int id, .int k] (pQi Z (fun r Z1 h1 => Z = Z1 ∧ Iv Z h1 ∧ agrD [] h h1)) := by
  refine pOfW (lv := [(0, .ref (zB Z + 0)), (1, .int id), (2, .int k)]) (by decide) (Nat.le_of_ble_eq_true rfl) rfl ?_
  intro p e s m below meth c ls M hr hlk hnm V hl
  have hx := M.1.1
  have hb := M.1.2.1
  have A : agrD [] h h := agrD.rf
  have J_26 : ∀ (y26_0 : Int32) (hJ : pH) (H : Heap) (locs : List Loc) (ls : Array Slot), pV Z hJ s.heap H locs → Iv Z hJ → agrD [] h hJ → lv_has ls 3 [(0, .ref (zB Z + 0)), (1, .int id), (2, .int k)] → W p l e (pRm 3 0 0 65) s m ([.ref (zB Z + 0), .int id, .int k] : List Value).toArray below meth c H locs 0 0 (MQ below (pQi Z (fun r Z1 h1 => Z = Z1 ∧ Iv Z h1 ∧ agrD [] h h1)) ([.ref (zB Z + 0), .int id, .int k] : List Value).toArray s 0 0 (pA (zB Z))) (F0 m 26 ls [.int y26_0]) := by
    intro y26_0 hJ H locs ls V I A hl
    exact pe_i M V rfl rfl hr hlk rfl ⟨rfl, I, A.wk (by decide)⟩ ⟨Nat.le_refl _, Nat.le_refl _⟩ dX11_text_26
  refine lv_iload_n hx hb dX11_text_0 rfl (lv_at hl 2 rfl) ?_
  refine lv_bipush (v := 12) hx hb dX11_text_1 (by decide) ?_
  refine lv_icmp_ne (tgt := 17) hx hb dX11_text_3 (by decide) (fun c_3 => ?_) (fun c_3 => ?_)
  · skip
    have k_12 : (12 : Int32).toInt = 12 := rfl
    have c_3 := pi_ne c_3
    refine lv_aload_n hx hb dX11_text_17 rfl (lv_at hl 0 rfl) ?_
    refine pg_r M V 11 5 (c_is_0 S) pC11 fk11_5 (c_r_0_5 S) lkF_X11_47 dX11_text_18 ?_
    refine lv_iload_n hx hb dX11_text_21 rfl (lv_at hl 1 rfl) ?_
    refine lv_iload_n hx hb dX11_text_22 rfl (lv_at hl 2 rfl) ?_
    refine pk_i (pr_V M V (m_X10_letterOf l S I id k ) km_X10_letterOf (c_is_123 S) pC10 lkM_X11_269 rfl hl.1 rfl (Nat.le_of_ble_eq_true rfl) ⟨Nat.le_of_ble_eq_true rfl, Nat.le_of_ble_eq_true rfl⟩ ⟨Nat.le_of_ble_eq_true rfl, Nat.le_of_ble_eq_true rfl⟩ dX11_text_23) V (fun r1 Zr1 hr1 H locs pr1 _ _ V => ?_)
    obtain ⟨rfl, I, pA_r1⟩ := pr1
    have A := A.tr pA_r1 (by decide)
    exact J_26 r1 _ _ _ _ V I (A.wk (by decide)) (lv_sub hl [0, 1, 2] rfl) 
  · skip
    have k_12 : (12 : Int32).toInt = 12 := rfl
    have c_3 := pi_eq.mp c_3
    refine lv_aload_n hx hb dX11_text_6 rfl (lv_at hl 0 rfl) ?_
    refine pg_r M V 11 5 (c_is_0 S) pC11 fk11_5 (c_r_0_5 S) lkF_X11_47 dX11_text_7 ?_
    refine lv_iload_n hx hb dX11_text_10 rfl (lv_at hl 1 rfl) ?_
    refine pk_i (pr_V M V (m_X10_caretOf l S I id ) km_X10_caretOf (c_is_123 S) pC10 lkM_X11_371 rfl hl.1 rfl (Nat.le_of_ble_eq_true rfl) ⟨Nat.le_of_ble_eq_true rfl, Nat.le_of_ble_eq_true rfl⟩ ⟨Nat.le_of_ble_eq_true rfl, Nat.le_of_ble_eq_true rfl⟩ dX11_text_11) V (fun r2 Zr2 hr2 H locs pr2 _ _ V => ?_)
    obtain ⟨rfl, I, pA_r2⟩ := pr2
    have A := A.tr pA_r2 (by decide)
    refine lv_goto (tgt := 26) hx hb dX11_text_14 (by decide) ?_
    exact J_26 r2 _ _ _ _ V I (A.wk (by decide)) (lv_sub hl [0, 1, 2] rfl) 
theorem dX11_drawn_0 : decode cX11_drawn 0 = .ok (.iload_n 1, 1) := by decide +kernel
theorem dX11_drawn_1 : decode cX11_drawn 1 = .ok (.tableswitch 56 0 2 #[27, 35, 46], 27) := by decide +kernel
theorem dX11_drawn_28 : decode cX11_drawn 28 = .ok (.aload_n 0, 1) := by decide +kernel
theorem dX11_drawn_29 : decode cX11_drawn 29 = .ok (.getfield 58, 3) := by decide +kernel
theorem dX11_drawn_32 : decode cX11_drawn 32 = .ok (.getfield 139, 3) := by decide +kernel
theorem dX11_drawn_35 : decode cX11_drawn 35 = .ok (.ireturn, 1) := by decide +kernel
theorem dX11_drawn_36 : decode cX11_drawn 36 = .ok (.aload_n 0, 1) := by decide +kernel
theorem dX11_drawn_37 : decode cX11_drawn 37 = .ok (.getfield 58, 3) := by decide +kernel
theorem dX11_drawn_40 : decode cX11_drawn 40 = .ok (.getfield 374, 3) := by decide +kernel
theorem dX11_drawn_43 : decode cX11_drawn 43 = .ok (.bipush 6, 2) := by decide +kernel
theorem dX11_drawn_45 : decode cX11_drawn 45 = .ok (.imul, 1) := by decide +kernel
theorem dX11_drawn_46 : decode cX11_drawn 46 = .ok (.ireturn, 1) := by decide +kernel
theorem dX11_drawn_47 : decode cX11_drawn 47 = .ok (.aload_n 0, 1) := by decide +kernel
theorem dX11_drawn_48 : decode cX11_drawn 48 = .ok (.getfield 58, 3) := by decide +kernel
theorem dX11_drawn_51 : decode cX11_drawn 51 = .ok (.getfield 374, 3) := by decide +kernel
theorem dX11_drawn_54 : decode cX11_drawn 54 = .ok (.iconst 4, 1) := by decide +kernel
theorem dX11_drawn_55 : decode cX11_drawn 55 = .ok (.imul, 1) := by decide +kernel
theorem dX11_drawn_56 : decode cX11_drawn 56 = .ok (.ireturn, 1) := by decide +kernel
theorem dX11_drawn_57 : decode cX11_drawn 57 = .ok (.iconst (-1), 1) := by decide +kernel
theorem dX11_drawn_58 : decode cX11_drawn 58 = .ok (.ireturn, 1) := by decide +kernel
set_option maxHeartbeats 4000000 in
set_option maxRecDepth 100000 in
theorem m_X11_drawn (l : Launch) {Z : pZ} (S : pSh Z) {h : pH} (I : Iv Z h) (what : Int32)  : pMet l yX11_drawn cX11_drawn 2 (some .int) 0 0 0 0 Z h [.ref (zB Z + 0), .int what] (pQi Z (fun r Z1 h1 => Z = Z1 ∧ Iv Z h1 ∧ agrD [] h h1)) := by
  refine pOfW (lv := [(0, .ref (zB Z + 0)), (1, .int what)]) (by decide) (Nat.le_of_ble_eq_true rfl) rfl ?_
  intro p e s m below meth c ls M hr hlk hnm V hl
  have hx := M.1.1
  have hb := M.1.2.1
  have A : agrD [] h h := agrD.rf
  refine lv_iload_n hx hb dX11_drawn_0 rfl (lv_at hl 1 rfl) ?_
  by_cases w_1 : what.toInt < 0 ∨ 2 < what.toInt
  · refine lv_tableOut (tgt := 57) hx hb dX11_drawn_1 w_1 (by decide) ?_
    refine lv_iconst (v := (-1)) hx hb dX11_drawn_57 (by decide) ?_
    have k_m1 : (-1 : Int32).toInt = -1 := rfl
    exact pe_i M V rfl rfl hr hlk rfl ⟨rfl, I, A.wk (by decide)⟩ ⟨Nat.le_refl _, Nat.le_refl _⟩ dX11_drawn_58
  · obtain w_1 | w_1 | w_1 : what.toInt = 0 ∨ what.toInt = 1 ∨ what.toInt = 2 := by omega
    · refine lv_tableIn (tgt := 28) (off := 27) hx hb dX11_drawn_1 (by omega) (by omega) (by rw [w_1]; rfl) (by decide) ?_
      refine lv_aload_n hx hb dX11_drawn_28 rfl (lv_at hl 0 rfl) ?_
      refine pg_r M V 11 7 (c_is_0 S) pC11 fk11_7 (c_r_0_7 S) lkF_X11_58 dX11_drawn_29 ?_
      refine pg_i M V 9 3 (c_is_132 S) pC9 fk9_3 lkF_X11_139 dX11_drawn_32 ?_
      refine lv_topi (fun v1 ev1 => ?_)
      have tv1 : 0 ≤ v1.toInt ∧ v1.toInt ≤ 9000 := by rw [ev1]; exact I.get (c_is_132 S) 3
      exact pe_i M V rfl rfl hr hlk rfl ⟨rfl, I, A.wk (by decide)⟩ ⟨Nat.le_refl _, Nat.le_refl _⟩ dX11_drawn_35
    · refine lv_tableIn (tgt := 36) (off := 35) hx hb dX11_drawn_1 (by omega) (by omega) (by rw [w_1]; rfl) (by decide) ?_
      refine lv_aload_n hx hb dX11_drawn_36 rfl (lv_at hl 0 rfl) ?_
      refine pg_r M V 11 7 (c_is_0 S) pC11 fk11_7 (c_r_0_7 S) lkF_X11_58 dX11_drawn_37 ?_
      refine pg_i M V 9 2 (c_is_132 S) pC9 fk9_2 lkF_X11_374 dX11_drawn_40 ?_
      refine lv_topi (fun v2 ev2 => ?_)
      have tv2 : 0 ≤ v2.toInt ∧ v2.toInt ≤ 9000 := by rw [ev2]; exact I.get (c_is_132 S) 2
      refine lv_bipush (v := 6) hx hb dX11_drawn_43 (by decide) ?_
      refine lv_imul hx hb dX11_drawn_45 ?_
      refine lv_topi (fun v3 ev3 => ?_)
      exact pe_i M V rfl rfl hr hlk rfl ⟨rfl, I, A.wk (by decide)⟩ ⟨Nat.le_refl _, Nat.le_refl _⟩ dX11_drawn_46
    · refine lv_tableIn (tgt := 47) (off := 46) hx hb dX11_drawn_1 (by omega) (by omega) (by rw [w_1]; rfl) (by decide) ?_
      refine lv_aload_n hx hb dX11_drawn_47 rfl (lv_at hl 0 rfl) ?_
      refine pg_r M V 11 7 (c_is_0 S) pC11 fk11_7 (c_r_0_7 S) lkF_X11_58 dX11_drawn_48 ?_
      refine pg_i M V 9 2 (c_is_132 S) pC9 fk9_2 lkF_X11_374 dX11_drawn_51 ?_
      refine lv_topi (fun v4 ev4 => ?_)
      have tv4 : 0 ≤ v4.toInt ∧ v4.toInt ≤ 9000 := by rw [ev4]; exact I.get (c_is_132 S) 2
      refine lv_iconst (v := 4) hx hb dX11_drawn_54 (by decide) ?_
      refine lv_imul hx hb dX11_drawn_55 ?_
      refine lv_topi (fun v5 ev5 => ?_)
      exact pe_i M V rfl rfl hr hlk rfl ⟨rfl, I, A.wk (by decide)⟩ ⟨Nat.le_refl _, Nat.le_refl _⟩ dX11_drawn_56
theorem dX11_command_0 : decode cX11_command 0 = .ok (.aload_n 0, 1) := by decide +kernel
theorem dX11_command_1 : decode cX11_command 1 = .ok (.getfield 58, 3) := by decide +kernel
theorem dX11_command_4 : decode cX11_command 4 = .ok (.iload_n 1, 1) := by decide +kernel
theorem dX11_command_5 : decode cX11_command 5 = .ok (.iload_n 2, 1) := by decide +kernel
theorem dX11_command_6 : decode cX11_command 6 = .ok (.invokevirtual 377, 3) := by decide +kernel
theorem dX11_command_9 : decode cX11_command 9 = .ok (.ireturn, 1) := by decide +kernel
set_option maxHeartbeats 4000000 in
set_option maxRecDepth 100000 in
theorem m_X11_command (l : Launch) {Z : pZ} (S : pSh Z) {h : pH} (I : Iv Z h) (k : Int32) (what : Int32) (K : pSk Z) : pMet l yX11_command cX11_command 3 (some .int) 3 0 0 65 Z h [.ref (zB Z + 0), .int k, .int what] (pQi Z (fun r Z1 h1 => Z = Z1 ∧ Iv Z h1 ∧ agrD [] h h1)) := by
  refine pOfW (lv := [(0, .ref (zB Z + 0)), (1, .int k), (2, .int what)]) (by decide) (Nat.le_of_ble_eq_true rfl) rfl ?_
  intro p e s m below meth c ls M hr hlk hnm V hl
  have hx := M.1.1
  have hb := M.1.2.1
  have A : agrD [] h h := agrD.rf
  refine lv_aload_n hx hb dX11_command_0 rfl (lv_at hl 0 rfl) ?_
  refine pg_r M V 11 7 (c_is_0 S) pC11 fk11_7 (c_r_0_7 S) lkF_X11_58 dX11_command_1 ?_
  refine lv_iload_n hx hb dX11_command_4 rfl (lv_at hl 1 rfl) ?_
  refine lv_iload_n hx hb dX11_command_5 rfl (lv_at hl 2 rfl) ?_
  refine pk_i (pr_V M V (m_X9_commandPart l S I k what K) km_X9_commandPart (c_is_132 S) pC9 lkM_X11_377 rfl hl.1 rfl (Nat.le_of_ble_eq_true rfl) ⟨Nat.le_of_ble_eq_true rfl, Nat.le_of_ble_eq_true rfl⟩ ⟨Nat.le_of_ble_eq_true rfl, Nat.le_of_ble_eq_true rfl⟩ dX11_command_6) V (fun r1 Zr1 hr1 H locs pr1 _ _ V => ?_)
  obtain ⟨rfl, I, pA_r1⟩ := pr1
  have A := A.tr pA_r1 (by decide)
  exact pe_i M V rfl rfl hr hlk rfl ⟨rfl, I, A.wk (by decide)⟩ ⟨Nat.le_refl _, Nat.le_refl _⟩ dX11_command_9
theorem dX11_vertex_0 : decode cX11_vertex 0 = .ok (.iload_n 1, 1) := by decide +kernel
theorem dX11_vertex_1 : decode cX11_vertex 1 = .ok (.ifCond .ge 9, 3) := by decide +kernel
theorem dX11_vertex_4 : decode cX11_vertex 4 = .ok (.sipush (-10000), 3) := by decide +kernel
theorem dX11_vertex_7 : decode cX11_vertex 7 = .ok (.goto 17, 3) := by decide +kernel
theorem dX11_vertex_10 : decode cX11_vertex 10 = .ok (.aload_n 0, 1) := by decide +kernel
theorem dX11_vertex_11 : decode cX11_vertex 11 = .ok (.getfield 58, 3) := by decide +kernel
theorem dX11_vertex_14 : decode cX11_vertex 14 = .ok (.iload_n 1, 1) := by decide +kernel
theorem dX11_vertex_15 : decode cX11_vertex 15 = .ok (.iconst 4, 1) := by decide +kernel
theorem dX11_vertex_16 : decode cX11_vertex 16 = .ok (.idiv, 1) := by decide +kernel
theorem dX11_vertex_17 : decode cX11_vertex 17 = .ok (.iload_n 1, 1) := by decide +kernel
theorem dX11_vertex_18 : decode cX11_vertex 18 = .ok (.iconst 4, 1) := by decide +kernel
theorem dX11_vertex_19 : decode cX11_vertex 19 = .ok (.irem, 1) := by decide +kernel
theorem dX11_vertex_20 : decode cX11_vertex 20 = .ok (.iload_n 2, 1) := by decide +kernel
theorem dX11_vertex_21 : decode cX11_vertex 21 = .ok (.invokevirtual 383, 3) := by decide +kernel
theorem dX11_vertex_24 : decode cX11_vertex 24 = .ok (.ireturn, 1) := by decide +kernel
set_option maxHeartbeats 4000000 in
set_option maxRecDepth 100000 in
theorem m_X11_vertex (l : Launch) {Z : pZ} (S : pSh Z) {h : pH} (I : Iv Z h) (k : Int32) (what : Int32) (K : pSk Z) : pMet l yX11_vertex cX11_vertex 3 (some .int) 3 0 0 70 Z h [.ref (zB Z + 0), .int k, .int what] (pQi Z (fun r Z1 h1 => Z = Z1 ∧ Iv Z h1 ∧ agrD [] h h1)) := by
  refine pOfW (lv := [(0, .ref (zB Z + 0)), (1, .int k), (2, .int what)]) (by decide) (Nat.le_of_ble_eq_true rfl) rfl ?_
  intro p e s m below meth c ls M hr hlk hnm V hl
  have hx := M.1.1
  have hb := M.1.2.1
  have A : agrD [] h h := agrD.rf
  have J_24 : ∀ (y24_0 : Int32) (hJ : pH) (H : Heap) (locs : List Loc) (ls : Array Slot), pV Z hJ s.heap H locs → Iv Z hJ → agrD [] h hJ → lv_has ls 3 [(0, .ref (zB Z + 0)), (1, .int k), (2, .int what)] → W p l e (pRm 3 0 0 70) s m ([.ref (zB Z + 0), .int k, .int what] : List Value).toArray below meth c H locs 0 0 (MQ below (pQi Z (fun r Z1 h1 => Z = Z1 ∧ Iv Z h1 ∧ agrD [] h h1)) ([.ref (zB Z + 0), .int k, .int what] : List Value).toArray s 0 0 (pA (zB Z))) (F0 m 24 ls [.int y24_0]) := by
    intro y24_0 hJ H locs ls V I A hl
    exact pe_i M V rfl rfl hr hlk rfl ⟨rfl, I, A.wk (by decide)⟩ ⟨Nat.le_refl _, Nat.le_refl _⟩ dX11_vertex_24
  refine lv_iload_n hx hb dX11_vertex_0 rfl (lv_at hl 1 rfl) ?_
  refine lv_if_ge (tgt := 10) hx hb dX11_vertex_1 (by decide) (fun c_1 => ?_) (fun c_1 => ?_)
  · skip
    have k_0 : (0 : Int32).toInt = 0 := rfl
    have c_1 := pi_le.mp c_1
    refine lv_aload_n hx hb dX11_vertex_10 rfl (lv_at hl 0 rfl) ?_
    refine pg_r M V 11 7 (c_is_0 S) pC11 fk11_7 (c_r_0_7 S) lkF_X11_58 dX11_vertex_11 ?_
    refine lv_iload_n hx hb dX11_vertex_14 rfl (lv_at hl 1 rfl) ?_
    refine lv_iconst (v := 4) hx hb dX11_vertex_15 (by decide) ?_
    refine lv_idiv hx hb dX11_vertex_16 (by decide) ?_
    refine lv_topi (fun v1 ev1 => ?_)
    refine lv_iload_n hx hb dX11_vertex_17 rfl (lv_at hl 1 rfl) ?_
    refine lv_iconst (v := 4) hx hb dX11_vertex_18 (by decide) ?_
    refine lv_irem hx hb dX11_vertex_19 (by decide) ?_
    refine lv_topi (fun v2 ev2 => ?_)
    refine lv_iload_n hx hb dX11_vertex_20 rfl (lv_at hl 2 rfl) ?_
    refine pk_i (pr_V M V (m_X9_vertexPart l S I v1 v2 what K) km_X9_vertexPart (c_is_132 S) pC9 lkM_X11_383 rfl hl.1 rfl (Nat.le_of_ble_eq_true rfl) ⟨Nat.le_of_ble_eq_true rfl, Nat.le_of_ble_eq_true rfl⟩ ⟨Nat.le_of_ble_eq_true rfl, Nat.le_of_ble_eq_true rfl⟩ dX11_vertex_21) V (fun r3 Zr3 hr3 H locs pr3 _ _ V => ?_)
    obtain ⟨rfl, I, pA_r3⟩ := pr3
    have A := A.tr pA_r3 (by decide)
    exact J_24 r3 _ _ _ _ V I (A.wk (by decide)) (lv_sub hl [0, 1, 2] rfl) 
  · skip
    have k_0 : (0 : Int32).toInt = 0 := rfl
    have c_1 := pi_le' c_1
    refine lv_sipush (v := (-10000)) hx hb dX11_vertex_4 (by decide) ?_
    refine lv_goto (tgt := 24) hx hb dX11_vertex_7 (by decide) ?_
    exact J_24 (-10000 : Int32) _ _ _ _ V I (A.wk (by decide)) (lv_sub hl [0, 1, 2] rfl) 
theorem dX11_isWindowOpen_0 : decode cX11_isWindowOpen 0 = .ok (.aload_n 0, 1) := by decide +kernel
theorem dX11_isWindowOpen_1 : decode cX11_isWindowOpen 1 = .ok (.getfield 84, 3) := by decide +kernel
theorem dX11_isWindowOpen_4 : decode cX11_isWindowOpen 4 = .ok (.ifCond .eq 17, 3) := by decide +kernel
theorem dX11_isWindowOpen_7 : decode cX11_isWindowOpen 7 = .ok (.aload_n 0, 1) := by decide +kernel
theorem dX11_isWindowOpen_8 : decode cX11_isWindowOpen 8 = .ok (.getfield 33, 3) := by decide +kernel
theorem dX11_isWindowOpen_11 : decode cX11_isWindowOpen 11 = .ok (.getfield 127, 3) := by decide +kernel
theorem dX11_isWindowOpen_14 : decode cX11_isWindowOpen 14 = .ok (.ifCond .le 7, 3) := by decide +kernel
theorem dX11_isWindowOpen_17 : decode cX11_isWindowOpen 17 = .ok (.iconst 1, 1) := by decide +kernel
theorem dX11_isWindowOpen_18 : decode cX11_isWindowOpen 18 = .ok (.goto 4, 3) := by decide +kernel
theorem dX11_isWindowOpen_21 : decode cX11_isWindowOpen 21 = .ok (.iconst 0, 1) := by decide +kernel
theorem dX11_isWindowOpen_22 : decode cX11_isWindowOpen 22 = .ok (.ireturn, 1) := by decide +kernel
set_option maxHeartbeats 4000000 in
set_option maxRecDepth 100000 in
theorem m_X11_isWindowOpen (l : Launch) {Z : pZ} (S : pSh Z) {h : pH} (I : Iv Z h)  : pMet l yX11_isWindowOpen cX11_isWindowOpen 1 (some .boolean) 0 0 0 0 Z h [.ref (zB Z + 0)] (pQi Z (fun r Z1 h1 => Z = Z1 ∧ h = h1 ∧ (r.toInt = 0 ∨ r.toInt = 1))) := by
  refine pOfW (lv := [(0, .ref (zB Z + 0))]) (by decide) (Nat.le_of_ble_eq_true rfl) rfl ?_
  intro p e s m below meth c ls M hr hlk hnm V hl
  have hx := M.1.1
  have hb := M.1.2.1
  refine lv_aload_n hx hb dX11_isWindowOpen_0 rfl (lv_at hl 0 rfl) ?_
  refine pg_i M V 11 10 (c_is_0 S) pC11 fk11_10 lkF_X11_84 dX11_isWindowOpen_1 ?_
  refine lv_topi (fun v1 ev1 => ?_)
  have tv1 : 0 ≤ v1.toInt ∧ v1.toInt ≤ 1 := by rw [ev1]; exact I.get (c_is_0 S) 10
  refine lv_if_eq (tgt := 21) hx hb dX11_isWindowOpen_4 (by decide) (fun c_4 => ?_) (fun c_4 => ?_)
  · skip
    have k_0 : (0 : Int32).toInt = 0 := rfl
    have c_4 := pi_eq.mp c_4
    refine lv_iconst (v := 0) hx hb dX11_isWindowOpen_21 (by decide) ?_
    exact pe_i M V rfl rfl hr hlk (pn_z (pi_z (by omega))).1 ⟨rfl, rfl, by omega⟩ ⟨Nat.le_refl _, Nat.le_refl _⟩ dX11_isWindowOpen_22
  · skip
    have k_0 : (0 : Int32).toInt = 0 := rfl
    have c_4 := pi_ne c_4
    refine lv_aload_n hx hb dX11_isWindowOpen_7 rfl (lv_at hl 0 rfl) ?_
    refine pg_r M V 11 3 (c_is_0 S) pC11 fk11_3 (c_r_0_3 S) lkF_X11_33 dX11_isWindowOpen_8 ?_
    refine pg_i M V 8 4 (c_is_36 S) pC8 fk8_4 lkF_X11_127 dX11_isWindowOpen_11 ?_
    refine lv_topi (fun v2 ev2 => ?_)
    have tv2 : 0 ≤ v2.toInt ∧ v2.toInt ≤ 40 := by rw [ev2]; exact I.get (c_is_36 S) 4
    refine lv_if_le (tgt := 21) hx hb dX11_isWindowOpen_14 (by decide) (fun c_14 => ?_) (fun c_14 => ?_)
    · skip
      have c_14 := pi_le.mp c_14
      refine lv_iconst (v := 0) hx hb dX11_isWindowOpen_21 (by decide) ?_
      exact pe_i M V rfl rfl hr hlk (pn_z (pi_z (by omega))).1 ⟨rfl, rfl, by omega⟩ ⟨Nat.le_refl _, Nat.le_refl _⟩ dX11_isWindowOpen_22
    · skip
      have c_14 := pi_le' c_14
      refine lv_iconst (v := 1) hx hb dX11_isWindowOpen_17 (by decide) ?_
      refine lv_goto (tgt := 22) hx hb dX11_isWindowOpen_18 (by decide) ?_
      have k_1 : (1 : Int32).toInt = 1 := rfl
      exact pe_i M V rfl rfl hr hlk (pn_z (pi_z (by omega))).1 ⟨rfl, rfl, by omega⟩ ⟨Nat.le_refl _, Nat.le_refl _⟩ dX11_isWindowOpen_22
theorem dX11_breakFrame_0 : decode cX11_breakFrame 0 = .ok (.aload_n 0, 1) := by decide +kernel
theorem dX11_breakFrame_1 : decode cX11_breakFrame 1 = .ok (.getfield 84, 3) := by decide +kernel
theorem dX11_breakFrame_4 : decode cX11_breakFrame 4 = .ok (.ifCond .ne 4, 3) := by decide +kernel
theorem dX11_breakFrame_7 : decode cX11_breakFrame 7 = .ok (.return_, 1) := by decide +kernel
theorem dX11_breakFrame_8 : decode cX11_breakFrame 8 = .ok (.aload_n 0, 1) := by decide +kernel
theorem dX11_breakFrame_9 : decode cX11_breakFrame 9 = .ok (.iconst 0, 1) := by decide +kernel
theorem dX11_breakFrame_10 : decode cX11_breakFrame 10 = .ok (.putfield 84, 3) := by decide +kernel
theorem dX11_breakFrame_13 : decode cX11_breakFrame 13 = .ok (.aload_n 0, 1) := by decide +kernel
theorem dX11_breakFrame_14 : decode cX11_breakFrame 14 = .ok (.getfield 40, 3) := by decide +kernel
theorem dX11_breakFrame_17 : decode cX11_breakFrame 17 = .ok (.invokevirtual 409, 3) := by decide +kernel
theorem dX11_breakFrame_20 : decode cX11_breakFrame 20 = .ok (.aload_n 0, 1) := by decide +kernel
theorem dX11_breakFrame_21 : decode cX11_breakFrame 21 = .ok (.getfield 19, 3) := by decide +kernel
theorem dX11_breakFrame_24 : decode cX11_breakFrame 24 = .ok (.invokevirtual 412, 3) := by decide +kernel
theorem dX11_breakFrame_27 : decode cX11_breakFrame 27 = .ok (.aload_n 0, 1) := by decide +kernel
theorem dX11_breakFrame_28 : decode cX11_breakFrame 28 = .ok (.getfield 26, 3) := by decide +kernel
theorem dX11_breakFrame_31 : decode cX11_breakFrame 31 = .ok (.iconst 0, 1) := by decide +kernel
theorem dX11_breakFrame_32 : decode cX11_breakFrame 32 = .ok (.putfield 114, 3) := by decide +kernel
theorem dX11_breakFrame_35 : decode cX11_breakFrame 35 = .ok (.aload_n 0, 1) := by decide +kernel
theorem dX11_breakFrame_36 : decode cX11_breakFrame 36 = .ok (.getfield 33, 3) := by decide +kernel
theorem dX11_breakFrame_39 : decode cX11_breakFrame 39 = .ok (.invokevirtual 117, 3) := by decide +kernel
theorem dX11_breakFrame_42 : decode cX11_breakFrame 42 = .ok (.return_, 1) := by decide +kernel
set_option maxHeartbeats 4000000 in
set_option maxRecDepth 100000 in
theorem m_X11_breakFrame (l : Launch) {Z : pZ} (S : pSh Z) {h : pH} (I : Iv Z h)  : pMet l yX11_breakFrame cX11_breakFrame 1 none 4 0 0 85 Z h [.ref (zB Z + 0)] (pQv Z (fun Z1 h1 => Z = Z1 ∧ Iv Z h1 ∧ agrD [(0, 10), (22, 5), (36, 4), (36, 5), (122, 1000), (10, 3), (10, 4), (10, 5), (10, 6)] h h1)) := by
  refine pOfW (lv := [(0, .ref (zB Z + 0))]) (by decide) (Nat.le_of_ble_eq_true rfl) rfl ?_
  intro p e s m below meth c ls M hr hlk hnm V hl
  have hx := M.1.1
  have hb := M.1.2.1
  have A : agrD [] h h := agrD.rf
  refine lv_aload_n hx hb dX11_breakFrame_0 rfl (lv_at hl 0 rfl) ?_
  refine pg_i M V 11 10 (c_is_0 S) pC11 fk11_10 lkF_X11_84 dX11_breakFrame_1 ?_
  refine lv_topi (fun v1 ev1 => ?_)
  have tv1 : 0 ≤ v1.toInt ∧ v1.toInt ≤ 1 := by rw [ev1]; exact I.get (c_is_0 S) 10
  refine lv_if_ne (tgt := 8) hx hb dX11_breakFrame_4 (by decide) (fun c_4 => ?_) (fun c_4 => ?_)
  · skip
    have k_0 : (0 : Int32).toInt = 0 := rfl
    have c_4 := pi_ne c_4
    refine lv_aload_n hx hb dX11_breakFrame_8 rfl (lv_at hl 0 rfl) ?_
    refine lv_iconst (v := 0) hx hb dX11_breakFrame_9 (by decide) ?_
    have z_10 : (0 : Int32) = 0 ∨ (0 : Int32) = 1 := pi_z (by omega)
    refine pp_i M V 11 10 (c_is_0 S) pC11 fk11_10 rfl lkF_X11_84 ⟨(pn_z z_10).1, (pn_z z_10).2.1⟩ dX11_breakFrame_10 (fun H locs V => ?_)
    have A := A.wk (l3 := [(0, 10)]) (by decide)
    have A := A.up (o := 0) (k := 10) (v := (0 : Int32)) (by decide)
    have I := I.up (k := 10) (v := (0 : Int32)) (c_is_0 S) (show (0 : Int) ≤ (0 : Int32).toInt ∧ (0 : Int32).toInt ≤ (1 : Int) by omega)
    refine lv_aload_n hx hb dX11_breakFrame_13 rfl (lv_at hl 0 rfl) ?_
    refine pg_r M V 11 4 (c_is_0 S) pC11 fk11_4 (c_r_0_4 S) lkF_X11_40 dX11_breakFrame_14 ?_
    refine pk_v (pr_V M V (m_X1_forgetAll l S I  ) km_X1_forgetAll (c_is_122 S) pC1 lkM_X11_409 rfl hl.1 rfl (Nat.le_of_ble_eq_true rfl) ⟨Nat.le_of_ble_eq_true rfl, Nat.le_of_ble_eq_true rfl⟩ ⟨Nat.le_of_ble_eq_true rfl, Nat.le_of_ble_eq_true rfl⟩ dX11_breakFrame_17) V (fun Zr2 hr2 H locs pr2 _ _ V => ?_)
    obtain ⟨rfl, I, pA_r2⟩ := pr2
    have A := A.wk (l3 := [(0, 10), (122, 1000)]) (by decide)
    have A := A.tr pA_r2 (by decide)
    refine lv_aload_n hx hb dX11_breakFrame_20 rfl (lv_at hl 0 rfl) ?_
    refine pg_r M V 11 1 (c_is_0 S) pC11 fk11_1 (c_r_0_1 S) lkF_X11_19 dX11_breakFrame_21 ?_
    refine pk_v (pr_V M V (m_X3_forgetAll l S I  ) km_X3_forgetAll (c_is_10 S) pC3 lkM_X11_412 rfl hl.1 rfl (Nat.le_of_ble_eq_true rfl) ⟨Nat.le_of_ble_eq_true rfl, Nat.le_of_ble_eq_true rfl⟩ ⟨Nat.le_of_ble_eq_true rfl, Nat.le_of_ble_eq_true rfl⟩ dX11_breakFrame_24) V (fun Zr3 hr3 H locs pr3 _ _ V => ?_)
    obtain ⟨rfl, I, pA_r3⟩ := pr3
    have A := A.wk (l3 := [(0, 10), (122, 1000), (10, 3), (10, 4), (10, 5), (10, 6)]) (by decide)
    have A := A.tr pA_r3 (by decide)
    refine lv_aload_n hx hb dX11_breakFrame_27 rfl (lv_at hl 0 rfl) ?_
    refine pg_r M V 11 2 (c_is_0 S) pC11 fk11_2 (c_r_0_2 S) lkF_X11_26 dX11_breakFrame_28 ?_
    refine lv_iconst (v := 0) hx hb dX11_breakFrame_31 (by decide) ?_
    refine pp_i M V 6 5 (c_is_22 S) pC6 fk6_5 rfl lkF_X11_114 ⟨rfl, rfl⟩ dX11_breakFrame_32 (fun H locs V => ?_)
    have A := A.wk (l3 := [(0, 10), (122, 1000), (10, 3), (10, 4), (10, 5), (10, 6), (22, 5)]) (by decide)
    have A := A.up (o := 22) (k := 5) (v := (0 : Int32)) (by decide)
    have I := I.up (k := 5) (v := (0 : Int32)) (c_is_22 S) (pi_full _)
    refine lv_aload_n hx hb dX11_breakFrame_35 rfl (lv_at hl 0 rfl) ?_
    refine pg_r M V 11 3 (c_is_0 S) pC11 fk11_3 (c_r_0_3 S) lkF_X11_33 dX11_breakFrame_36 ?_
    refine pk_v (pr_V M V (m_X8_clear l S I  ) km_X8_clear (c_is_36 S) pC8 lkM_X11_117 rfl hl.1 rfl (Nat.le_of_ble_eq_true rfl) ⟨Nat.le_of_ble_eq_true rfl, Nat.le_of_ble_eq_true rfl⟩ ⟨Nat.le_of_ble_eq_true rfl, Nat.le_of_ble_eq_true rfl⟩ dX11_breakFrame_39) V (fun Zr4 hr4 H locs pr4 _ _ V => ?_)
    obtain ⟨rfl, I, pA_r4⟩ := pr4
    have A := A.wk (l3 := [(0, 10), (122, 1000), (10, 3), (10, 4), (10, 5), (10, 6), (22, 5), (36, 4), (36, 5)]) (by decide)
    have A := A.tr pA_r4 (by decide)
    exact pe_v M V rfl rfl hr hlk ⟨rfl, I, A.wk (by decide)⟩ ⟨Nat.le_refl _, Nat.le_refl _⟩ dX11_breakFrame_42
  · skip
    have k_0 : (0 : Int32).toInt = 0 := rfl
    have c_4 := pi_eq.mp c_4
    exact pe_v M V rfl rfl hr hlk ⟨rfl, I, A.wk (by decide)⟩ ⟨Nat.le_refl _, Nat.le_refl _⟩ dX11_breakFrame_7
theorem dX11_moveActiveWindow_0 : decode cX11_moveActiveWindow 0 = .ok (.aload_n 0, 1) := by decide +kernel
theorem dX11_moveActiveWindow_1 : decode cX11_moveActiveWindow 1 = .ok (.getfield 40, 3) := by decide +kernel
theorem dX11_moveActiveWindow_4 : decode cX11_moveActiveWindow 4 = .ok (.getfield 341, 3) := by decide +kernel
theorem dX11_moveActiveWindow_7 : decode cX11_moveActiveWindow 7 = .ok (.sipush 1000, 3) := by decide +kernel
theorem dX11_moveActiveWindow_10 : decode cX11_moveActiveWindow 10 = .ok (.isub, 1) := by decide +kernel
theorem dX11_moveActiveWindow_11 : decode cX11_moveActiveWindow 11 = .ok (.istore_n 1, 1) := by decide +kernel
theorem dX11_moveActiveWindow_12 : decode cX11_moveActiveWindow 12 = .ok (.iload_n 1, 1) := by decide +kernel
theorem dX11_moveActiveWindow_13 : decode cX11_moveActiveWindow 13 = .ok (.iconst 0, 1) := by decide +kernel
theorem dX11_moveActiveWindow_14 : decode cX11_moveActiveWindow 14 = .ok (.bipush 8, 2) := by decide +kernel
theorem dX11_moveActiveWindow_16 : decode cX11_moveActiveWindow 16 = .ok (.invokestatic 71, 3) := by decide +kernel
theorem dX11_moveActiveWindow_19 : decode cX11_moveActiveWindow 19 = .ok (.ifCond .eq 60, 3) := by decide +kernel
theorem dX11_moveActiveWindow_22 : decode cX11_moveActiveWindow 22 = .ok (.aload_n 0, 1) := by decide +kernel
theorem dX11_moveActiveWindow_23 : decode cX11_moveActiveWindow 23 = .ok (.getfield 10, 3) := by decide +kernel
theorem dX11_moveActiveWindow_26 : decode cX11_moveActiveWindow 26 = .ok (.getfield 356, 3) := by decide +kernel
theorem dX11_moveActiveWindow_29 : decode cX11_moveActiveWindow 29 = .ok (.ifCond .eq 50, 3) := by decide +kernel
theorem dX11_moveActiveWindow_32 : decode cX11_moveActiveWindow 32 = .ok (.aload_n 0, 1) := by decide +kernel
theorem dX11_moveActiveWindow_33 : decode cX11_moveActiveWindow 33 = .ok (.getfield 10, 3) := by decide +kernel
theorem dX11_moveActiveWindow_36 : decode cX11_moveActiveWindow 36 = .ok (.getfield 413, 3) := by decide +kernel
theorem dX11_moveActiveWindow_39 : decode cX11_moveActiveWindow 39 = .ok (.ifCond .ne 40, 3) := by decide +kernel
theorem dX11_moveActiveWindow_42 : decode cX11_moveActiveWindow 42 = .ok (.aload_n 0, 1) := by decide +kernel
theorem dX11_moveActiveWindow_43 : decode cX11_moveActiveWindow 43 = .ok (.getfield 19, 3) := by decide +kernel
theorem dX11_moveActiveWindow_46 : decode cX11_moveActiveWindow 46 = .ok (.iload_n 1, 1) := by decide +kernel
theorem dX11_moveActiveWindow_47 : decode cX11_moveActiveWindow 47 = .ok (.invokevirtual 149, 3) := by decide +kernel
theorem dX11_moveActiveWindow_50 : decode cX11_moveActiveWindow 50 = .ok (.astore_n 2, 1) := by decide +kernel
theorem dX11_moveActiveWindow_51 : decode cX11_moveActiveWindow 51 = .ok (.aload_n 2, 1) := by decide +kernel
theorem dX11_moveActiveWindow_52 : decode cX11_moveActiveWindow 52 = .ok (.aload_n 2, 1) := by decide +kernel
theorem dX11_moveActiveWindow_53 : decode cX11_moveActiveWindow 53 = .ok (.getfield 416, 3) := by decide +kernel
theorem dX11_moveActiveWindow_56 : decode cX11_moveActiveWindow 56 = .ok (.aload_n 0, 1) := by decide +kernel
theorem dX11_moveActiveWindow_57 : decode cX11_moveActiveWindow 57 = .ok (.getfield 10, 3) := by decide +kernel
theorem dX11_moveActiveWindow_60 : decode cX11_moveActiveWindow 60 = .ok (.getfield 417, 3) := by decide +kernel
theorem dX11_moveActiveWindow_63 : decode cX11_moveActiveWindow 63 = .ok (.iadd, 1) := by decide +kernel
theorem dX11_moveActiveWindow_64 : decode cX11_moveActiveWindow 64 = .ok (.aload_n 2, 1) := by decide +kernel
theorem dX11_moveActiveWindow_65 : decode cX11_moveActiveWindow 65 = .ok (.getfield 420, 3) := by decide +kernel
theorem dX11_moveActiveWindow_68 : decode cX11_moveActiveWindow 68 = .ok (.aload_n 0, 1) := by decide +kernel
theorem dX11_moveActiveWindow_69 : decode cX11_moveActiveWindow 69 = .ok (.getfield 10, 3) := by decide +kernel
theorem dX11_moveActiveWindow_72 : decode cX11_moveActiveWindow 72 = .ok (.getfield 421, 3) := by decide +kernel
theorem dX11_moveActiveWindow_75 : decode cX11_moveActiveWindow 75 = .ok (.iadd, 1) := by decide +kernel
theorem dX11_moveActiveWindow_76 : decode cX11_moveActiveWindow 76 = .ok (.invokevirtual 160, 3) := by decide +kernel
theorem dX11_moveActiveWindow_79 : decode cX11_moveActiveWindow 79 = .ok (.return_, 1) := by decide +kernel
set_option maxHeartbeats 4000000 in
set_option maxRecDepth 100000 in
theorem m_X11_moveActiveWindow (l : Launch) {Z : pZ} (S : pSh Z) {h : pH} (I : Iv Z h)  : pMet l yX11_moveActiveWindow cX11_moveActiveWindow 3 none 2 0 0 44 Z h [.ref (zB Z + 0)] (pQv Z (fun Z1 h1 => Z = Z1 ∧ Iv Z h1 ∧ agrD [] h h1)) := by
  refine pOfW (lv := [(0, .ref (zB Z + 0))]) (by decide) (Nat.le_of_ble_eq_true rfl) rfl ?_
  intro p e s m below meth c ls M hr hlk hnm V hl
  have hx := M.1.1
  have hb := M.1.2.1
  have A : agrD [] h h := agrD.rf
  refine lv_aload_n hx hb dX11_moveActiveWindow_0 rfl (lv_at hl 0 rfl) ?_
  refine pg_r M V 11 4 (c_is_0 S) pC11 fk11_4 (c_r_0_4 S) lkF_X11_40 dX11_moveActiveWindow_1 ?_
  refine pg_i M V 1 0 (c_is_122 S) pC1 fk1_0 lkF_X11_341 dX11_moveActiveWindow_4 ?_
  refine lv_topi (fun v1 ev1 => ?_)
  refine lv_sipush (v := 1000) hx hb dX11_moveActiveWindow_7 (by decide) ?_
  refine lv_isub hx hb dX11_moveActiveWindow_10 ?_
  refine lv_topi (fun v2 ev2 => ?_)
  refine lv_istore_n (lv' := [(1, .int v2), (0, .ref (zB Z + 0))]) hx hb dX11_moveActiveWindow_11 rfl hl (by decide) rfl (fun ls hl => ?_)
  refine lv_iload_n hx hb dX11_moveActiveWindow_12 rfl (lv_at hl 0 rfl) ?_
  refine lv_iconst (v := 0) hx hb dX11_moveActiveWindow_13 (by decide) ?_
  refine lv_bipush (v := 8) hx hb dX11_moveActiveWindow_14 (by decide) ?_
  have k_0 : (0 : Int32).toInt = 0 := rfl
  have k_8 : (8 : Int32).toInt = 8 := rfl
  refine pk_i (pr_S M V (m_X11_isWithin l (Z := Z) (h := _) v2 (0 : Int32) (8 : Int32)) km_X11_isWithin lkM_X11_71 rfl hl.1 rfl (Nat.le_of_ble_eq_true rfl) ⟨Nat.le_of_ble_eq_true rfl, Nat.le_of_ble_eq_true rfl⟩ ⟨Nat.le_of_ble_eq_true rfl, Nat.le_of_ble_eq_true rfl⟩ dX11_moveActiveWindow_16) V (fun r3 Zr3 hr3 H locs pr3 _ _ V => ?_)
  obtain ⟨rfl, rfl, fr3_0⟩ := pr3
  refine lv_if_eq (tgt := 79) hx hb dX11_moveActiveWindow_19 (by decide) (fun c_19 => ?_) (fun c_19 => ?_)
  · skip
    have c_19 := pi_eq.mp c_19
    exact pe_v M V rfl rfl hr hlk ⟨rfl, I, A.wk (by decide)⟩ ⟨Nat.le_refl _, Nat.le_refl _⟩ dX11_moveActiveWindow_79
  · skip
    have c_19 := pi_ne c_19
    refine lv_aload_n hx hb dX11_moveActiveWindow_22 rfl (lv_at hl 1 rfl) ?_
    refine pg_r M V 11 0 (c_is_0 S) pC11 fk11_0 (c_r_0_0 S) lkF_X11_10 dX11_moveActiveWindow_23 ?_
    refine pg_i M V 5 13 (c_is_1 S) pC5 fk5_13 lkF_X11_356 dX11_moveActiveWindow_26 ?_
    refine lv_topi (fun v4 ev4 => ?_)
    have tv4 : 0 ≤ v4.toInt ∧ v4.toInt ≤ 1 := by rw [ev4]; exact I.get (c_is_1 S) 13
    refine lv_if_eq (tgt := 79) hx hb dX11_moveActiveWindow_29 (by decide) (fun c_29 => ?_) (fun c_29 => ?_)
    · skip
      have c_29 := pi_eq.mp c_29
      exact pe_v M V rfl rfl hr hlk ⟨rfl, I, A.wk (by decide)⟩ ⟨Nat.le_refl _, Nat.le_refl _⟩ dX11_moveActiveWindow_79
    · skip
      have c_29 := pi_ne c_29
      refine lv_aload_n hx hb dX11_moveActiveWindow_32 rfl (lv_at hl 1 rfl) ?_
      refine pg_r M V 11 0 (c_is_0 S) pC11 fk11_0 (c_r_0_0 S) lkF_X11_10 dX11_moveActiveWindow_33 ?_
      refine pg_i M V 5 14 (c_is_1 S) pC5 fk5_14 lkF_X11_413 dX11_moveActiveWindow_36 ?_
      refine lv_topi (fun v5 ev5 => ?_)
      have tv5 : 0 ≤ v5.toInt ∧ v5.toInt ≤ 1 := by rw [ev5]; exact I.get (c_is_1 S) 14
      refine lv_if_ne (tgt := 79) hx hb dX11_moveActiveWindow_39 (by decide) (fun c_39 => ?_) (fun c_39 => ?_)
      · skip
        have c_39 := pi_ne c_39
        exact pe_v M V rfl rfl hr hlk ⟨rfl, I, A.wk (by decide)⟩ ⟨Nat.le_refl _, Nat.le_refl _⟩ dX11_moveActiveWindow_79
      · skip
        have c_39 := pi_eq.mp c_39
        refine lv_aload_n hx hb dX11_moveActiveWindow_42 rfl (lv_at hl 1 rfl) ?_
        refine pg_r M V 11 1 (c_is_0 S) pC11 fk11_1 (c_r_0_1 S) lkF_X11_19 dX11_moveActiveWindow_43 ?_
        refine lv_iload_n hx hb dX11_moveActiveWindow_46 rfl (lv_at hl 0 rfl) ?_
        refine pk_r (pr_V M V (m_X3_paneOf l S I v2) km_X3_paneOf (c_is_10 S) pC3 lkM_X11_149 rfl hl.1 rfl (Nat.le_of_ble_eq_true rfl) ⟨Nat.le_of_ble_eq_true rfl, Nat.le_of_ble_eq_true rfl⟩ ⟨Nat.le_of_ble_eq_true rfl, Nat.le_of_ble_eq_true rfl⟩ dX11_moveActiveWindow_47) V (fun r6 Zr6 hr6 H locs pr6 _ _ V => ?_)
        obtain ⟨rfl, rfl, fr6_0⟩ := pr6
        refine lv_astore_n (lv' := [(2, .ref (zB Z + r6)), (1, .int v2), (0, .ref (zB Z + 0))]) hx hb dX11_moveActiveWindow_50 rfl hl (by decide) rfl (fun ls hl => ?_)
        refine lv_aload_n hx hb dX11_moveActiveWindow_51 rfl (lv_at hl 0 rfl) ?_
        refine lv_aload_n hx hb dX11_moveActiveWindow_52 rfl (lv_at hl 0 rfl) ?_
        refine pg_i M V 7 1 fr6_0 pC7 fk7_1 lkF_X11_416 dX11_moveActiveWindow_53 ?_
        refine lv_topi (fun v7 ev7 => ?_)
        refine lv_aload_n hx hb dX11_moveActiveWindow_56 rfl (lv_at hl 2 rfl) ?_
        refine pg_r M V 11 0 (c_is_0 S) pC11 fk11_0 (c_r_0_0 S) lkF_X11_10 dX11_moveActiveWindow_57 ?_
        refine pg_i M V 5 9 (c_is_1 S) pC5 fk5_9 lkF_X11_417 dX11_moveActiveWindow_60 ?_
        refine lv_topi (fun v8 ev8 => ?_)
        refine lv_iadd hx hb dX11_moveActiveWindow_63 ?_
        refine lv_topi (fun v9 ev9 => ?_)
        refine lv_aload_n hx hb dX11_moveActiveWindow_64 rfl (lv_at hl 0 rfl) ?_
        refine pg_i M V 7 2 fr6_0 pC7 fk7_2 lkF_X11_420 dX11_moveActiveWindow_65 ?_
        refine lv_topi (fun v10 ev10 => ?_)
        refine lv_aload_n hx hb dX11_moveActiveWindow_68 rfl (lv_at hl 2 rfl) ?_
        refine pg_r M V 11 0 (c_is_0 S) pC11 fk11_0 (c_r_0_0 S) lkF_X11_10 dX11_moveActiveWindow_69 ?_
        refine pg_i M V 5 10 (c_is_1 S) pC5 fk5_10 lkF_X11_421 dX11_moveActiveWindow_72 ?_
        refine lv_topi (fun v11 ev11 => ?_)
        refine lv_iadd hx hb dX11_moveActiveWindow_75 ?_
        refine lv_topi (fun v12 ev12 => ?_)
        refine pk_v (pr_V M V (m_X7_moveTo l S I r6 fr6_0 v9 v12 ) km_X7_moveTo fr6_0 pC7 lkM_X11_160 rfl hl.1 rfl (Nat.le_of_ble_eq_true rfl) ⟨Nat.le_of_ble_eq_true rfl, Nat.le_of_ble_eq_true rfl⟩ ⟨Nat.le_of_ble_eq_true rfl, Nat.le_of_ble_eq_true rfl⟩ dX11_moveActiveWindow_76) V (fun Zr13 hr13 H locs pr13 _ _ V => ?_)
        obtain ⟨rfl, I, pA_r13⟩ := pr13
        have A := A.tr pA_r13 (by decide)
        exact pe_v M V rfl rfl hr hlk ⟨rfl, I, A.wk (by decide)⟩ ⟨Nat.le_refl _, Nat.le_refl _⟩ dX11_moveActiveWindow_79
theorem dX11_layItem_0 : decode cX11_layItem 0 = .ok (.aload_n 0, 1) := by decide +kernel
theorem dX11_layItem_1 : decode cX11_layItem 1 = .ok (.getfield 33, 3) := by decide +kernel
theorem dX11_layItem_4 : decode cX11_layItem 4 = .ok (.invokevirtual 185, 3) := by decide +kernel
theorem dX11_layItem_7 : decode cX11_layItem 7 = .ok (.astore_n 3, 1) := by decide +kernel
theorem dX11_layItem_8 : decode cX11_layItem 8 = .ok (.aload_n 3, 1) := by decide +kernel
theorem dX11_layItem_9 : decode cX11_layItem 9 = .ok (.aload_n 0, 1) := by decide +kernel
theorem dX11_layItem_10 : decode cX11_layItem 10 = .ok (.getfield 124, 3) := by decide +kernel
theorem dX11_layItem_13 : decode cX11_layItem 13 = .ok (.invokevirtual 329, 3) := by decide +kernel
theorem dX11_layItem_16 : decode cX11_layItem 16 = .ok (.aload_n 0, 1) := by decide +kernel
theorem dX11_layItem_17 : decode cX11_layItem 17 = .ok (.iconst 0, 1) := by decide +kernel
theorem dX11_layItem_18 : decode cX11_layItem 18 = .ok (.putfield 124, 3) := by decide +kernel
theorem dX11_layItem_21 : decode cX11_layItem 21 = .ok (.aload_n 0, 1) := by decide +kernel
theorem dX11_layItem_22 : decode cX11_layItem 22 = .ok (.getfield 64, 3) := by decide +kernel
theorem dX11_layItem_25 : decode cX11_layItem 25 = .ok (.aload_n 3, 1) := by decide +kernel
theorem dX11_layItem_26 : decode cX11_layItem 26 = .ok (.getfield 335, 3) := by decide +kernel
theorem dX11_layItem_29 : decode cX11_layItem 29 = .ok (.aload_n 3, 1) := by decide +kernel
theorem dX11_layItem_30 : decode cX11_layItem 30 = .ok (.getfield 338, 3) := by decide +kernel
theorem dX11_layItem_33 : decode cX11_layItem 33 = .ok (.aload_n 3, 1) := by decide +kernel
theorem dX11_layItem_34 : decode cX11_layItem 34 = .ok (.getfield 335, 3) := by decide +kernel
theorem dX11_layItem_37 : decode cX11_layItem 37 = .ok (.iload_n 1, 1) := by decide +kernel
theorem dX11_layItem_38 : decode cX11_layItem 38 = .ok (.iadd, 1) := by decide +kernel
theorem dX11_layItem_39 : decode cX11_layItem 39 = .ok (.aload_n 3, 1) := by decide +kernel
theorem dX11_layItem_40 : decode cX11_layItem 40 = .ok (.getfield 338, 3) := by decide +kernel
theorem dX11_layItem_43 : decode cX11_layItem 43 = .ok (.iload_n 2, 1) := by decide +kernel
theorem dX11_layItem_44 : decode cX11_layItem 44 = .ok (.iadd, 1) := by decide +kernel
theorem dX11_layItem_45 : decode cX11_layItem 45 = .ok (.invokevirtual 223, 3) := by decide +kernel
theorem dX11_layItem_48 : decode cX11_layItem 48 = .ok (.aload_n 3, 1) := by decide +kernel
theorem dX11_layItem_49 : decode cX11_layItem 49 = .ok (.aload_n 0, 1) := by decide +kernel
theorem dX11_layItem_50 : decode cX11_layItem 50 = .ok (.getfield 64, 3) := by decide +kernel
theorem dX11_layItem_53 : decode cX11_layItem 53 = .ok (.invokevirtual 227, 3) := by decide +kernel
theorem dX11_layItem_56 : decode cX11_layItem 56 = .ok (.return_, 1) := by decide +kernel
set_option maxHeartbeats 4000000 in
set_option maxRecDepth 100000 in
theorem m_X11_layItem (l : Launch) {Z : pZ} (S : pSh Z) {h : pH} (I : Iv Z h) (width : Int32) (height : Int32)  : pMet l yX11_layItem cX11_layItem 4 none 2 0 0 43 Z h [.ref (zB Z + 0), .int width, .int height] (pQv Z (fun Z1 h1 => Z = Z1 ∧ Iv Z h1 ∧ agrD [(0, 11)] h h1)) := by
  refine pOfW (lv := [(0, .ref (zB Z + 0)), (1, .int width), (2, .int height)]) (by decide) (Nat.le_of_ble_eq_true rfl) rfl ?_
  intro p e s m below meth c ls M hr hlk hnm V hl
  have hx := M.1.1
  have hb := M.1.2.1
  have A : agrD [] h h := agrD.rf
  refine lv_aload_n hx hb dX11_layItem_0 rfl (lv_at hl 0 rfl) ?_
  refine pg_r M V 11 3 (c_is_0 S) pC11 fk11_3 (c_r_0_3 S) lkF_X11_33 dX11_layItem_1 ?_
  refine pk_r (pr_V M V (m_X8_area l S I ) km_X8_area (c_is_36 S) pC8 lkM_X11_185 rfl hl.1 rfl (Nat.le_of_ble_eq_true rfl) ⟨Nat.le_of_ble_eq_true rfl, Nat.le_of_ble_eq_true rfl⟩ ⟨Nat.le_of_ble_eq_true rfl, Nat.le_of_ble_eq_true rfl⟩ dX11_layItem_4) V (fun r1 Zr1 hr1 H locs pr1 _ _ V => ?_)
  obtain ⟨rfl, rfl, fr1_0⟩ := pr1
  refine lv_astore_n (lv' := [(3, .ref (zB Z + r1)), (0, .ref (zB Z + 0)), (1, .int width), (2, .int height)]) hx hb dX11_layItem_7 rfl hl (by decide) rfl (fun ls hl => ?_)
  refine lv_aload_n hx hb dX11_layItem_8 rfl (lv_at hl 0 rfl) ?_
  refine lv_aload_n hx hb dX11_layItem_9 rfl (lv_at hl 1 rfl) ?_
  refine pg_i M V 11 11 (c_is_0 S) pC11 fk11_11 lkF_X11_124 dX11_layItem_10 ?_
  refine lv_topi (fun v2 ev2 => ?_)
  have tv2 : 0 ≤ v2.toInt ∧ v2.toInt ≤ 1 := by rw [ev2]; exact I.get (c_is_0 S) 11
  refine pk_v (pr_V M V (m_X0_placeCursor l S I r1 fr1_0.1 v2 (by omega)) km_X0_placeCursor fr1_0.1 pC0 lkM_X11_329 rfl hl.1 rfl (Nat.le_of_ble_eq_true rfl) ⟨Nat.le_of_ble_eq_true rfl, Nat.le_of_ble_eq_true rfl⟩ ⟨Nat.le_of_ble_eq_true rfl, Nat.le_of_ble_eq_true rfl⟩ dX11_layItem_13) V (fun Zr3 hr3 H locs pr3 _ _ V => ?_)
  obtain ⟨rfl, I, pA_r3⟩ := pr3
  have A := A.tr pA_r3 (by decide)
  refine lv_aload_n hx hb dX11_layItem_16 rfl (lv_at hl 1 rfl) ?_
  refine lv_iconst (v := 0) hx hb dX11_layItem_17 (by decide) ?_
  have k_0 : (0 : Int32).toInt = 0 := rfl
  have z_18 : (0 : Int32) = 0 ∨ (0 : Int32) = 1 := pi_z (by omega)
  refine pp_i M V 11 11 (c_is_0 S) pC11 fk11_11 rfl lkF_X11_124 ⟨(pn_z z_18).1, (pn_z z_18).2.1⟩ dX11_layItem_18 (fun H locs V => ?_)
  have A := A.wk (l3 := [(0, 11)]) (by decide)
  have A := A.up (o := 0) (k := 11) (v := (0 : Int32)) (by decide)
  have I := I.up (k := 11) (v := (0 : Int32)) (c_is_0 S) (show (0 : Int) ≤ (0 : Int32).toInt ∧ (0 : Int32).toInt ≤ (1 : Int) by omega)
  refine lv_aload_n hx hb dX11_layItem_21 rfl (lv_at hl 1 rfl) ?_
  refine pg_r M V 11 8 (c_is_0 S) pC11 fk11_8 (c_r_0_8 S) lkF_X11_64 dX11_layItem_22 ?_
  refine lv_aload_n hx hb dX11_layItem_25 rfl (lv_at hl 0 rfl) ?_
  refine pg_i M V 0 4 fr1_0.1 pC0 fk0_4 lkF_X11_335 dX11_layItem_26 ?_
  refine lv_topi (fun v4 ev4 => ?_)
  refine lv_aload_n hx hb dX11_layItem_29 rfl (lv_at hl 0 rfl) ?_
  refine pg_i M V 0 5 fr1_0.1 pC0 fk0_5 lkF_X11_338 dX11_layItem_30 ?_
  refine lv_topi (fun v5 ev5 => ?_)
  refine lv_aload_n hx hb dX11_layItem_33 rfl (lv_at hl 0 rfl) ?_
  refine pg_i M V 0 4 fr1_0.1 pC0 fk0_4 lkF_X11_335 dX11_layItem_34 ?_
  refine lv_topi (fun v6 ev6 => ?_)
  refine lv_iload_n hx hb dX11_layItem_37 rfl (lv_at hl 2 rfl) ?_
  refine lv_iadd hx hb dX11_layItem_38 ?_
  refine lv_topi (fun v7 ev7 => ?_)
  refine lv_aload_n hx hb dX11_layItem_39 rfl (lv_at hl 0 rfl) ?_
  refine pg_i M V 0 5 fr1_0.1 pC0 fk0_5 lkF_X11_338 dX11_layItem_40 ?_
  refine lv_topi (fun v8 ev8 => ?_)
  refine lv_iload_n hx hb dX11_layItem_43 rfl (lv_at hl 3 rfl) ?_
  refine lv_iadd hx hb dX11_layItem_44 ?_
  refine lv_topi (fun v9 ev9 => ?_)
  refine pk_v (pr_V M V (m_X2_set l S I 135 (c_is_135 S) v4 v5 v7 v9 ) km_X2_set (c_is_135 S) pC2 lkM_X11_223 rfl hl.1 rfl (Nat.le_of_ble_eq_true rfl) ⟨Nat.le_of_ble_eq_true rfl, Nat.le_of_ble_eq_true rfl⟩ ⟨Nat.le_of_ble_eq_true rfl, Nat.le_of_ble_eq_true rfl⟩ dX11_layItem_45) V (fun Zr10 hr10 H locs pr10 _ _ V => ?_)
  obtain ⟨rfl, I, pA_r10⟩ := pr10
  have A := A.tr pA_r10 (by decide)
  refine lv_aload_n hx hb dX11_layItem_48 rfl (lv_at hl 0 rfl) ?_
  refine lv_aload_n hx hb dX11_layItem_49 rfl (lv_at hl 1 rfl) ?_
  refine pg_r M V 11 8 (c_is_0 S) pC11 fk11_8 (c_r_0_8 S) lkF_X11_64 dX11_layItem_50 ?_
  refine pk_v (pr_V M V (m_X0_addItem l S I r1 fr1_0.1 135 (c_is_135 S) ) km_X0_addItem fr1_0.1 pC0 lkM_X11_227 rfl hl.1 rfl (Nat.le_of_ble_eq_true rfl) ⟨Nat.le_of_ble_eq_true rfl, Nat.le_of_ble_eq_true rfl⟩ ⟨Nat.le_of_ble_eq_true rfl, Nat.le_of_ble_eq_true rfl⟩ dX11_layItem_53) V (fun Zr11 hr11 H locs pr11 _ _ V => ?_)
  obtain ⟨rfl, I, pA_r11⟩ := pr11
  have A := A.tr pA_r11 (by decide)
  exact pe_v M V rfl rfl hr hlk ⟨rfl, I, A.wk (by decide)⟩ ⟨Nat.le_refl _, Nat.le_refl _⟩ dX11_layItem_56
theorem dX11_tellBehaving_0 : decode cX11_tellBehaving 0 = .ok (.aload_n 0, 1) := by decide +kernel
theorem dX11_tellBehaving_1 : decode cX11_tellBehaving 1 = .ok (.iload_n 2, 1) := by decide +kernel
theorem dX11_tellBehaving_2 : decode cX11_tellBehaving 2 = .ok (.bipush 12, 2) := by decide +kernel
theorem dX11_tellBehaving_4 : decode cX11_tellBehaving 4 = .ok (.invokevirtual 284, 3) := by decide +kernel
theorem dX11_tellBehaving_7 : decode cX11_tellBehaving 7 = .ok (.aload_n 0, 1) := by decide +kernel
theorem dX11_tellBehaving_8 : decode cX11_tellBehaving 8 = .ok (.getfield 19, 3) := by decide +kernel
theorem dX11_tellBehaving_11 : decode cX11_tellBehaving 11 = .ok (.getfield 290, 3) := by decide +kernel
theorem dX11_tellBehaving_14 : decode cX11_tellBehaving 14 = .ok (.aload_n 0, 1) := by decide +kernel
theorem dX11_tellBehaving_15 : decode cX11_tellBehaving 15 = .ok (.getfield 19, 3) := by decide +kernel
theorem dX11_tellBehaving_18 : decode cX11_tellBehaving 18 = .ok (.getfield 103, 3) := by decide +kernel
theorem dX11_tellBehaving_21 : decode cX11_tellBehaving 21 = .ok (.if_icmp .ne 61, 3) := by decide +kernel
theorem dX11_tellBehaving_24 : decode cX11_tellBehaving 24 = .ok (.aload_n 0, 1) := by decide +kernel
theorem dX11_tellBehaving_25 : decode cX11_tellBehaving 25 = .ok (.getfield 64, 3) := by decide +kernel
theorem dX11_tellBehaving_28 : decode cX11_tellBehaving 28 = .ok (.aload_n 0, 1) := by decide +kernel
theorem dX11_tellBehaving_29 : decode cX11_tellBehaving 29 = .ok (.getfield 10, 3) := by decide +kernel
theorem dX11_tellBehaving_32 : decode cX11_tellBehaving 32 = .ok (.getfield 493, 3) := by decide +kernel
theorem dX11_tellBehaving_35 : decode cX11_tellBehaving 35 = .ok (.aload_n 0, 1) := by decide +kernel
theorem dX11_tellBehaving_36 : decode cX11_tellBehaving 36 = .ok (.getfield 10, 3) := by decide +kernel
theorem dX11_tellBehaving_39 : decode cX11_tellBehaving 39 = .ok (.getfield 496, 3) := by decide +kernel
theorem dX11_tellBehaving_42 : decode cX11_tellBehaving 42 = .ok (.invokevirtual 499, 3) := by decide +kernel
theorem dX11_tellBehaving_45 : decode cX11_tellBehaving 45 = .ok (.ifCond .eq 37, 3) := by decide +kernel
theorem dX11_tellBehaving_48 : decode cX11_tellBehaving 48 = .ok (.aload_n 0, 1) := by decide +kernel
theorem dX11_tellBehaving_49 : decode cX11_tellBehaving 49 = .ok (.getfield 33, 3) := by decide +kernel
theorem dX11_tellBehaving_52 : decode cX11_tellBehaving 52 = .ok (.invokevirtual 185, 3) := by decide +kernel
theorem dX11_tellBehaving_55 : decode cX11_tellBehaving 55 = .ok (.getfield 312, 3) := by decide +kernel
theorem dX11_tellBehaving_58 : decode cX11_tellBehaving 58 = .ok (.aload_n 0, 1) := by decide +kernel
theorem dX11_tellBehaving_59 : decode cX11_tellBehaving 59 = .ok (.getfield 10, 3) := by decide +kernel
theorem dX11_tellBehaving_62 : decode cX11_tellBehaving 62 = .ok (.getfield 493, 3) := by decide +kernel
theorem dX11_tellBehaving_65 : decode cX11_tellBehaving 65 = .ok (.aload_n 0, 1) := by decide +kernel
theorem dX11_tellBehaving_66 : decode cX11_tellBehaving 66 = .ok (.getfield 10, 3) := by decide +kernel
theorem dX11_tellBehaving_69 : decode cX11_tellBehaving 69 = .ok (.getfield 496, 3) := by decide +kernel
theorem dX11_tellBehaving_72 : decode cX11_tellBehaving 72 = .ok (.invokevirtual 499, 3) := by decide +kernel
theorem dX11_tellBehaving_75 : decode cX11_tellBehaving 75 = .ok (.ifCond .eq 7, 3) := by decide +kernel
theorem dX11_tellBehaving_78 : decode cX11_tellBehaving 78 = .ok (.iconst 1, 1) := by decide +kernel
theorem dX11_tellBehaving_79 : decode cX11_tellBehaving 79 = .ok (.goto 4, 3) := by decide +kernel
theorem dX11_tellBehaving_82 : decode cX11_tellBehaving 82 = .ok (.iconst 0, 1) := by decide +kernel
theorem dX11_tellBehaving_83 : decode cX11_tellBehaving 83 = .ok (.istore_n 3, 1) := by decide +kernel
theorem dX11_tellBehaving_84 : decode cX11_tellBehaving 84 = .ok (.aload_n 0, 1) := by decide +kernel
theorem dX11_tellBehaving_85 : decode cX11_tellBehaving 85 = .ok (.getfield 40, 3) := by decide +kernel
theorem dX11_tellBehaving_88 : decode cX11_tellBehaving 88 = .ok (.iload_n 1, 1) := by decide +kernel
theorem dX11_tellBehaving_89 : decode cX11_tellBehaving 89 = .ok (.iload_n 3, 1) := by decide +kernel
theorem dX11_tellBehaving_90 : decode cX11_tellBehaving 90 = .ok (.aload_n 0, 1) := by decide +kernel
theorem dX11_tellBehaving_91 : decode cX11_tellBehaving 91 = .ok (.getfield 10, 3) := by decide +kernel
theorem dX11_tellBehaving_94 : decode cX11_tellBehaving 94 = .ok (.invokevirtual 502, 3) := by decide +kernel
theorem dX11_tellBehaving_97 : decode cX11_tellBehaving 97 = .ok (.ireturn, 1) := by decide +kernel
set_option maxHeartbeats 4000000 in
set_option maxRecDepth 100000 in
theorem m_X11_tellBehaving (l : Launch) {Z : pZ} (S : pSh Z) {h : pH} (I : Iv Z h) (id : Int32) (width : Int32)  : pMet l yX11_tellBehaving cX11_tellBehaving 4 (some .boolean) 4 0 0 90 Z h [.ref (zB Z + 0), .int id, .int width] (pQi Z (fun r Z1 h1 => Z = Z1 ∧ Iv Z h1 ∧ agrD [(0, 11), (122, 1000)] h h1 ∧ (r.toInt = 0 ∨ r.toInt = 1))) := by
  refine pOfW (lv := [(0, .ref (zB Z + 0)), (1, .int id), (2, .int width)]) (by decide) (Nat.le_of_ble_eq_true rfl) rfl ?_
  intro p e s m below meth c ls M hr hlk hnm V hl
  have hx := M.1.1
  have hb := M.1.2.1
  have A : agrD [] h h := agrD.rf
  have J_83 : ∀ (y83_0 : Int32) (hJ : pH) (H : Heap) (locs : List Loc) (ls : Array Slot), pV Z hJ s.heap H locs → Iv Z hJ → agrD [(0, 11)] h hJ → lv_has ls 4 [(0, .ref (zB Z + 0)), (1, .int id), (2, .int width)] → (0 ≤ y83_0.toInt ∧ y83_0.toInt ≤ 1) → W p l e (pRm 4 0 0 90) s m ([.ref (zB Z + 0), .int id, .int width] : List Value).toArray below meth c H locs 0 0 (MQ below (pQi Z (fun r Z1 h1 => Z = Z1 ∧ Iv Z h1 ∧ agrD [(0, 11), (122, 1000)] h h1 ∧ (r.toInt = 0 ∨ r.toInt = 1))) ([.ref (zB Z + 0), .int id, .int width] : List Value).toArray s 0 0 (pA (zB Z))) (F0 m 83 ls [.int y83_0]) := by
    intro y83_0 hJ H locs ls V I A hl gs_83_0
    refine lv_istore_n (lv' := [(3, .int y83_0), (0, .ref (zB Z + 0)), (1, .int id), (2, .int width)]) hx hb dX11_tellBehaving_83 rfl hl (by decide) rfl (fun ls hl => ?_)
    refine lv_aload_n hx hb dX11_tellBehaving_84 rfl (lv_at hl 1 rfl) ?_
    refine pg_r M V 11 4 (c_is_0 S) pC11 fk11_4 (c_r_0_4 S) lkF_X11_40 dX11_tellBehaving_85 ?_
    refine lv_iload_n hx hb dX11_tellBehaving_88 rfl (lv_at hl 2 rfl) ?_
    refine lv_iload_n hx hb dX11_tellBehaving_89 rfl (lv_at hl 0 rfl) ?_
    refine lv_aload_n hx hb dX11_tellBehaving_90 rfl (lv_at hl 1 rfl) ?_
    refine pg_r M V 11 0 (c_is_0 S) pC11 fk11_0 (c_r_0_0 S) lkF_X11_10 dX11_tellBehaving_91 ?_
    refine pk_i (pr_V M V (m_X1_behave l S I id y83_0  (by omega)) km_X1_behave (c_is_122 S) pC1 lkM_X11_502 rfl hl.1 rfl (Nat.le_of_ble_eq_true rfl) ⟨Nat.le_of_ble_eq_true rfl, Nat.le_of_ble_eq_true rfl⟩ ⟨Nat.le_of_ble_eq_true rfl, Nat.le_of_ble_eq_true rfl⟩ dX11_tellBehaving_94) V (fun r1 Zr1 hr1 H locs pr1 _ _ V => ?_)
    obtain ⟨rfl, I, pA_r1, fr1_0⟩ := pr1
    have A := A.wk (l3 := [(0, 11), (122, 1000)]) (by decide)
    have A := A.tr pA_r1 (by decide)
    exact pe_i M V rfl rfl hr hlk (pn_z (pi_z (by omega))).1 ⟨rfl, I, A.wk (by decide), by omega⟩ ⟨Nat.le_refl _, Nat.le_refl _⟩ dX11_tellBehaving_97
  have J_82 : ∀ (hJ : pH) (H : Heap) (locs : List Loc) (ls : Array Slot), pV Z hJ s.heap H locs → Iv Z hJ → agrD [(0, 11)] h hJ → lv_has ls 4 [(0, .ref (zB Z + 0)), (1, .int id), (2, .int width)] → W p l e (pRm 4 0 0 90) s m ([.ref (zB Z + 0), .int id, .int width] : List Value).toArray below meth c H locs 0 0 (MQ below (pQi Z (fun r Z1 h1 => Z = Z1 ∧ Iv Z h1 ∧ agrD [(0, 11), (122, 1000)] h h1 ∧ (r.toInt = 0 ∨ r.toInt = 1))) ([.ref (zB Z + 0), .int id, .int width] : List Value).toArray s 0 0 (pA (zB Z))) (F0 m 82 ls []) := by
    intro hJ H locs ls V I A hl
    refine lv_iconst (v := 0) hx hb dX11_tellBehaving_82 (by decide) ?_
    have k_0 : (0 : Int32).toInt = 0 := rfl
    exact J_83 (0 : Int32) _ _ _ _ V I (A.wk (by decide)) (lv_sub hl [0, 1, 2] rfl) (by omega) 
  refine lv_aload_n hx hb dX11_tellBehaving_0 rfl (lv_at hl 0 rfl) ?_
  refine lv_iload_n hx hb dX11_tellBehaving_1 rfl (lv_at hl 2 rfl) ?_
  refine lv_bipush (v := 12) hx hb dX11_tellBehaving_2 (by decide) ?_
  refine pk_v (pr_V M V (m_X11_layItem l S I width (12 : Int32) ) km_X11_layItem (c_is_0 S) pC11 lkM_X11_284 rfl hl.1 rfl (Nat.le_of_ble_eq_true rfl) ⟨Nat.le_of_ble_eq_true rfl, Nat.le_of_ble_eq_true rfl⟩ ⟨Nat.le_of_ble_eq_true rfl, Nat.le_of_ble_eq_true rfl⟩ dX11_tellBehaving_4) V (fun Zr2 hr2 H locs pr2 _ _ V => ?_)
  obtain ⟨rfl, I, pA_r2⟩ := pr2
  have A := A.wk (l3 := [(0, 11)]) (by decide)
  have A := A.tr pA_r2 (by decide)
  refine lv_aload_n hx hb dX11_tellBehaving_7 rfl (lv_at hl 0 rfl) ?_
  refine pg_r M V 11 1 (c_is_0 S) pC11 fk11_1 (c_r_0_1 S) lkF_X11_19 dX11_tellBehaving_8 ?_
  refine pg_i M V 3 4 (c_is_10 S) pC3 fk3_4 lkF_X11_290 dX11_tellBehaving_11 ?_
  refine lv_topi (fun v3 ev3 => ?_)
  refine lv_aload_n hx hb dX11_tellBehaving_14 rfl (lv_at hl 0 rfl) ?_
  refine pg_r M V 11 1 (c_is_0 S) pC11 fk11_1 (c_r_0_1 S) lkF_X11_19 dX11_tellBehaving_15 ?_
  refine pg_i M V 3 3 (c_is_10 S) pC3 fk3_3 lkF_X11_103 dX11_tellBehaving_18 ?_
  refine lv_topi (fun v4 ev4 => ?_)
  refine lv_icmp_ne (tgt := 82) hx hb dX11_tellBehaving_21 (by decide) (fun c_21 => ?_) (fun c_21 => ?_)
  · skip
    have c_21 := pi_ne c_21
    exact J_82 _ _ _ _ V I (A.wk (by decide)) (lv_sub hl [0, 1, 2] rfl) 
  · skip
    have c_21 := pi_eq.mp c_21
    refine lv_aload_n hx hb dX11_tellBehaving_24 rfl (lv_at hl 0 rfl) ?_
    refine pg_r M V 11 8 (c_is_0 S) pC11 fk11_8 (c_r_0_8 S) lkF_X11_64 dX11_tellBehaving_25 ?_
    refine lv_aload_n hx hb dX11_tellBehaving_28 rfl (lv_at hl 0 rfl) ?_
    refine pg_r M V 11 0 (c_is_0 S) pC11 fk11_0 (c_r_0_0 S) lkF_X11_10 dX11_tellBehaving_29 ?_
    refine pg_i M V 5 7 (c_is_1 S) pC5 fk5_7 lkF_X11_493 dX11_tellBehaving_32 ?_
    refine lv_topi (fun v5 ev5 => ?_)
    refine lv_aload_n hx hb dX11_tellBehaving_35 rfl (lv_at hl 0 rfl) ?_
    refine pg_r M V 11 0 (c_is_0 S) pC11 fk11_0 (c_r_0_0 S) lkF_X11_10 dX11_tellBehaving_36 ?_
    refine pg_i M V 5 8 (c_is_1 S) pC5 fk5_8 lkF_X11_496 dX11_tellBehaving_39 ?_
    refine lv_topi (fun v6 ev6 => ?_)
    refine pk_i (pr_V M V (m_X2_has l S I 135 (c_is_135 S) v5 v6 ) km_X2_has (c_is_135 S) pC2 lkM_X11_499 rfl hl.1 rfl (Nat.le_of_ble_eq_true rfl) ⟨Nat.le_of_ble_eq_true rfl, Nat.le_of_ble_eq_true rfl⟩ ⟨Nat.le_of_ble_eq_true rfl, Nat.le_of_ble_eq_true rfl⟩ dX11_tellBehaving_42) V (fun r7 Zr7 hr7 H locs pr7 _ _ V => ?_)
    obtain ⟨rfl, I, pA_r7, fr7_0⟩ := pr7
    have A := A.tr pA_r7 (by decide)
    refine lv_if_eq (tgt := 82) hx hb dX11_tellBehaving_45 (by decide) (fun c_45 => ?_) (fun c_45 => ?_)
    · skip
      have k_0 : (0 : Int32).toInt = 0 := rfl
      have c_45 := pi_eq.mp c_45
      exact J_82 _ _ _ _ V I (A.wk (by decide)) (lv_sub hl [0, 1, 2] rfl) 
    · skip
      have k_0 : (0 : Int32).toInt = 0 := rfl
      have c_45 := pi_ne c_45
      refine lv_aload_n hx hb dX11_tellBehaving_48 rfl (lv_at hl 0 rfl) ?_
      refine pg_r M V 11 3 (c_is_0 S) pC11 fk11_3 (c_r_0_3 S) lkF_X11_33 dX11_tellBehaving_49 ?_
      refine pk_r (pr_V M V (m_X8_area l S I ) km_X8_area (c_is_36 S) pC8 lkM_X11_185 rfl hl.1 rfl (Nat.le_of_ble_eq_true rfl) ⟨Nat.le_of_ble_eq_true rfl, Nat.le_of_ble_eq_true rfl⟩ ⟨Nat.le_of_ble_eq_true rfl, Nat.le_of_ble_eq_true rfl⟩ dX11_tellBehaving_52) V (fun r8 Zr8 hr8 H locs pr8 _ _ V => ?_)
      obtain ⟨rfl, rfl, fr8_0⟩ := pr8
      refine pg_r M V 0 0 fr8_0.1 pC0 fk0_0 fr8_0.2.1 lkF_X11_312 dX11_tellBehaving_55 ?_
      refine lv_aload_n hx hb dX11_tellBehaving_58 rfl (lv_at hl 0 rfl) ?_
      refine pg_r M V 11 0 (c_is_0 S) pC11 fk11_0 (c_r_0_0 S) lkF_X11_10 dX11_tellBehaving_59 ?_
      refine pg_iv M V 5 7 (v := v5) (c_is_1 S) pC5 fk5_7 ((pA_r7.get 1 7 (by decide)).trans ev5.symm) lkF_X11_493 dX11_tellBehaving_62 ?_
      refine lv_aload_n hx hb dX11_tellBehaving_65 rfl (lv_at hl 0 rfl) ?_
      refine pg_r M V 11 0 (c_is_0 S) pC11 fk11_0 (c_r_0_0 S) lkF_X11_10 dX11_tellBehaving_66 ?_
      refine pg_iv M V 5 8 (v := v6) (c_is_1 S) pC5 fk5_8 ((pA_r7.get 1 8 (by decide)).trans ev6.symm) lkF_X11_496 dX11_tellBehaving_69 ?_
      refine pk_i (pr_V M V (m_X2_has l S I (r8 + 1) fr8_0.2.2 v5 v6 ) km_X2_has fr8_0.2.2 pC2 lkM_X11_499 rfl hl.1 rfl (Nat.le_of_ble_eq_true rfl) ⟨Nat.le_of_ble_eq_true rfl, Nat.le_of_ble_eq_true rfl⟩ ⟨Nat.le_of_ble_eq_true rfl, Nat.le_of_ble_eq_true rfl⟩ dX11_tellBehaving_72) V (fun r9 Zr9 hr9 H locs pr9 _ _ V => ?_)
      obtain ⟨rfl, I, pA_r9, fr9_0⟩ := pr9
      have A := A.tr pA_r9 (by decide)
      refine lv_if_eq (tgt := 82) hx hb dX11_tellBehaving_75 (by decide) (fun c_75 => ?_) (fun c_75 => ?_)
      · skip
        have c_75 := pi_eq.mp c_75
        exact J_82 _ _ _ _ V I (A.wk (by decide)) (lv_sub hl [0, 1, 2] rfl) 
      · skip
        have c_75 := pi_ne c_75
        refine lv_iconst (v := 1) hx hb dX11_tellBehaving_78 (by decide) ?_
        refine lv_goto (tgt := 83) hx hb dX11_tellBehaving_79 (by decide) ?_
        have k_1 : (1 : Int32).toInt = 1 := rfl
        exact J_83 (1 : Int32) _ _ _ _ V I (A.wk (by decide)) (lv_sub hl [0, 1, 2] rfl) (by omega) 
theorem dX11_slide_0 : decode cX11_slide 0 = .ok (.aload_n 0, 1) := by decide +kernel
theorem dX11_slide_1 : decode cX11_slide 1 = .ok (.getfield 47, 3) := by decide +kernel
theorem dX11_slide_4 : decode cX11_slide 4 = .ok (.iload_n 1, 1) := by decide +kernel
theorem dX11_slide_5 : decode cX11_slide 5 = .ok (.invokevirtual 250, 3) := by decide +kernel
theorem dX11_slide_8 : decode cX11_slide 8 = .ok (.iload_n 2, 1) := by decide +kernel
theorem dX11_slide_9 : decode cX11_slide 9 = .ok (.iload_n 3, 1) := by decide +kernel
theorem dX11_slide_10 : decode cX11_slide 10 = .ok (.invokestatic 506, 3) := by decide +kernel
theorem dX11_slide_13 : decode cX11_slide 13 = .ok (.istore 4, 2) := by decide +kernel
theorem dX11_slide_15 : decode cX11_slide 15 = .ok (.aload_n 0, 1) := by decide +kernel
theorem dX11_slide_16 : decode cX11_slide 16 = .ok (.getfield 64, 3) := by decide +kernel
theorem dX11_slide_19 : decode cX11_slide 19 = .ok (.getfield 350, 3) := by decide +kernel
theorem dX11_slide_22 : decode cX11_slide 22 = .ok (.aload_n 0, 1) := by decide +kernel
theorem dX11_slide_23 : decode cX11_slide 23 = .ok (.getfield 64, 3) := by decide +kernel
theorem dX11_slide_26 : decode cX11_slide 26 = .ok (.getfield 299, 3) := by decide +kernel
theorem dX11_slide_29 : decode cX11_slide 29 = .ok (.isub, 1) := by decide +kernel
theorem dX11_slide_30 : decode cX11_slide 30 = .ok (.iconst 1, 1) := by decide +kernel
theorem dX11_slide_31 : decode cX11_slide 31 = .ok (.isub, 1) := by decide +kernel
theorem dX11_slide_32 : decode cX11_slide 32 = .ok (.istore 5, 2) := by decide +kernel
theorem dX11_slide_34 : decode cX11_slide 34 = .ok (.aload_n 0, 1) := by decide +kernel
theorem dX11_slide_35 : decode cX11_slide 35 = .ok (.getfield 40, 3) := by decide +kernel
theorem dX11_slide_38 : decode cX11_slide 38 = .ok (.getfield 341, 3) := by decide +kernel
theorem dX11_slide_41 : decode cX11_slide 41 = .ok (.iload_n 1, 1) := by decide +kernel
theorem dX11_slide_42 : decode cX11_slide 42 = .ok (.if_icmp .ne 49, 3) := by decide +kernel
theorem dX11_slide_45 : decode cX11_slide 45 = .ok (.aload_n 0, 1) := by decide +kernel
theorem dX11_slide_46 : decode cX11_slide 46 = .ok (.getfield 10, 3) := by decide +kernel
theorem dX11_slide_49 : decode cX11_slide 49 = .ok (.getfield 356, 3) := by decide +kernel
theorem dX11_slide_52 : decode cX11_slide 52 = .ok (.ifCond .eq 39, 3) := by decide +kernel
theorem dX11_slide_55 : decode cX11_slide 55 = .ok (.iload 5, 2) := by decide +kernel
theorem dX11_slide_57 : decode cX11_slide 57 = .ok (.ifCond .le 34, 3) := by decide +kernel
theorem dX11_slide_60 : decode cX11_slide 60 = .ok (.iload_n 2, 1) := by decide +kernel
theorem dX11_slide_61 : decode cX11_slide 61 = .ok (.aload_n 0, 1) := by decide +kernel
theorem dX11_slide_62 : decode cX11_slide 62 = .ok (.getfield 10, 3) := by decide +kernel
theorem dX11_slide_65 : decode cX11_slide 65 = .ok (.getfield 493, 3) := by decide +kernel
theorem dX11_slide_68 : decode cX11_slide 68 = .ok (.aload_n 0, 1) := by decide +kernel
theorem dX11_slide_69 : decode cX11_slide 69 = .ok (.getfield 64, 3) := by decide +kernel
theorem dX11_slide_72 : decode cX11_slide 72 = .ok (.getfield 299, 3) := by decide +kernel
theorem dX11_slide_75 : decode cX11_slide 75 = .ok (.isub, 1) := by decide +kernel
theorem dX11_slide_76 : decode cX11_slide 76 = .ok (.iload_n 3, 1) := by decide +kernel
theorem dX11_slide_77 : decode cX11_slide 77 = .ok (.iload_n 2, 1) := by decide +kernel
theorem dX11_slide_78 : decode cX11_slide 78 = .ok (.isub, 1) := by decide +kernel
theorem dX11_slide_79 : decode cX11_slide 79 = .ok (.imul, 1) := by decide +kernel
theorem dX11_slide_80 : decode cX11_slide 80 = .ok (.iload 5, 2) := by decide +kernel
theorem dX11_slide_82 : decode cX11_slide 82 = .ok (.idiv, 1) := by decide +kernel
theorem dX11_slide_83 : decode cX11_slide 83 = .ok (.iadd, 1) := by decide +kernel
theorem dX11_slide_84 : decode cX11_slide 84 = .ok (.iload_n 2, 1) := by decide +kernel
theorem dX11_slide_85 : decode cX11_slide 85 = .ok (.iload_n 3, 1) := by decide +kernel
theorem dX11_slide_86 : decode cX11_slide 86 = .ok (.invokestatic 506, 3) := by decide +kernel
theorem dX11_slide_89 : decode cX11_slide 89 = .ok (.istore 4, 2) := by decide +kernel
theorem dX11_slide_91 : decode cX11_slide 91 = .ok (.aload_n 0, 1) := by decide +kernel
theorem dX11_slide_92 : decode cX11_slide 92 = .ok (.getfield 40, 3) := by decide +kernel
theorem dX11_slide_95 : decode cX11_slide 95 = .ok (.getfield 260, 3) := by decide +kernel
theorem dX11_slide_98 : decode cX11_slide 98 = .ok (.iload_n 1, 1) := by decide +kernel
theorem dX11_slide_99 : decode cX11_slide 99 = .ok (.if_icmp .ne 43, 3) := by decide +kernel
theorem dX11_slide_102 : decode cX11_slide 102 = .ok (.aload_n 0, 1) := by decide +kernel
theorem dX11_slide_103 : decode cX11_slide 103 = .ok (.getfield 10, 3) := by decide +kernel
theorem dX11_slide_106 : decode cX11_slide 106 = .ok (.iconst 2, 1) := by decide +kernel
theorem dX11_slide_107 : decode cX11_slide 107 = .ok (.invokevirtual 509, 3) := by decide +kernel
theorem dX11_slide_110 : decode cX11_slide 110 = .ok (.ifCond .eq 12, 3) := by decide +kernel
theorem dX11_slide_113 : decode cX11_slide 113 = .ok (.iload 4, 2) := by decide +kernel
theorem dX11_slide_115 : decode cX11_slide 115 = .ok (.iload_n 2, 1) := by decide +kernel
theorem dX11_slide_116 : decode cX11_slide 116 = .ok (.if_icmp .le 6, 3) := by decide +kernel
theorem dX11_slide_119 : decode cX11_slide 119 = .ok (.iinc 4 (-1), 3) := by decide +kernel
theorem dX11_slide_122 : decode cX11_slide 122 = .ok (.aload_n 0, 1) := by decide +kernel
theorem dX11_slide_123 : decode cX11_slide 123 = .ok (.getfield 10, 3) := by decide +kernel
theorem dX11_slide_126 : decode cX11_slide 126 = .ok (.iconst 3, 1) := by decide +kernel
theorem dX11_slide_127 : decode cX11_slide 127 = .ok (.invokevirtual 509, 3) := by decide +kernel
theorem dX11_slide_130 : decode cX11_slide 130 = .ok (.ifCond .eq 12, 3) := by decide +kernel
theorem dX11_slide_133 : decode cX11_slide 133 = .ok (.iload 4, 2) := by decide +kernel
theorem dX11_slide_135 : decode cX11_slide 135 = .ok (.iload_n 3, 1) := by decide +kernel
theorem dX11_slide_136 : decode cX11_slide 136 = .ok (.if_icmp .ge 6, 3) := by decide +kernel
theorem dX11_slide_139 : decode cX11_slide 139 = .ok (.iinc 4 1, 3) := by decide +kernel
theorem dX11_slide_142 : decode cX11_slide 142 = .ok (.iload 4, 2) := by decide +kernel
theorem dX11_slide_144 : decode cX11_slide 144 = .ok (.ireturn, 1) := by decide +kernel
set_option maxHeartbeats 4000000 in
set_option maxRecDepth 100000 in
theorem m_X11_slide (l : Launch) {Z : pZ} (S : pSh Z) {h : pH} (I : Iv Z h) (id : Int32) (low : Int32) (high : Int32)  : pMet l yX11_slide cX11_slide 6 (some .int) 3 0 0 64 Z h [.ref (zB Z + 0), .int id, .int low, .int high] (pQi Z (fun r Z1 h1 => Z = Z1 ∧ Iv Z h1 ∧ agrD [] h h1)) := by
  refine pOfW (lv := [(0, .ref (zB Z + 0)), (1, .int id), (2, .int low), (3, .int high)]) (by decide) (Nat.le_of_ble_eq_true rfl) rfl ?_
  intro p e s m below meth c ls M hr hlk hnm V hl
  have hx := M.1.1
  have hb := M.1.2.1
  have A : agrD [] h h := agrD.rf
  have J_142 : ∀ (x142_4 : Int32) (x142_5 : Int32) (hJ : pH) (H : Heap) (locs : List Loc) (ls : Array Slot), pV Z hJ s.heap H locs → Iv Z hJ → agrD [] h hJ → lv_has ls 6 [(0, .ref (zB Z + 0)), (1, .int id), (2, .int low), (3, .int high), (4, .int x142_4), (5, .int x142_5)] → W p l e (pRm 3 0 0 64) s m ([.ref (zB Z + 0), .int id, .int low, .int high] : List Value).toArray below meth c H locs 0 0 (MQ below (pQi Z (fun r Z1 h1 => Z = Z1 ∧ Iv Z h1 ∧ agrD [] h h1)) ([.ref (zB Z + 0), .int id, .int low, .int high] : List Value).toArray s 0 0 (pA (zB Z))) (F0 m 142 ls []) := by
    intro x142_4 x142_5 hJ H locs ls V I A hl
    refine lv_iload hx hb dX11_slide_142 (lv_at hl 4 rfl) ?_
    exact pe_i M V rfl rfl hr hlk rfl ⟨rfl, I, A.wk (by decide)⟩ ⟨Nat.le_refl _, Nat.le_refl _⟩ dX11_slide_144
  have J_122 : ∀ (x122_4 : Int32) (x122_5 : Int32) (hJ : pH) (H : Heap) (locs : List Loc) (ls : Array Slot), pV Z hJ s.heap H locs → Iv Z hJ → agrD [] h hJ → lv_has ls 6 [(0, .ref (zB Z + 0)), (1, .int id), (2, .int low), (3, .int high), (4, .int x122_4), (5, .int x122_5)] → W p l e (pRm 3 0 0 64) s m ([.ref (zB Z + 0), .int id, .int low, .int high] : List Value).toArray below meth c H locs 0 0 (MQ below (pQi Z (fun r Z1 h1 => Z = Z1 ∧ Iv Z h1 ∧ agrD [] h h1)) ([.ref (zB Z + 0), .int id, .int low, .int high] : List Value).toArray s 0 0 (pA (zB Z))) (F0 m 122 ls []) := by
    intro x122_4 x122_5 hJ H locs ls V I A hl
    refine lv_aload_n hx hb dX11_slide_122 rfl (lv_at hl 0 rfl) ?_
    refine pg_r M V 11 0 (c_is_0 S) pC11 fk11_0 (c_r_0_0 S) lkF_X11_10 dX11_slide_123 ?_
    refine lv_iconst (v := 3) hx hb dX11_slide_126 (by decide) ?_
    refine pk_i (pr_V M V (m_X5_isDownHere l S I (3 : Int32) ) km_X5_isDownHere (c_is_1 S) pC5 lkM_X11_509 rfl hl.1 rfl (Nat.le_of_ble_eq_true rfl) ⟨Nat.le_of_ble_eq_true rfl, Nat.le_of_ble_eq_true rfl⟩ ⟨Nat.le_of_ble_eq_true rfl, Nat.le_of_ble_eq_true rfl⟩ dX11_slide_127) V (fun r1 Zr1 hr1 H locs pr1 _ _ V => ?_)
    obtain ⟨rfl, I, pA_r1, fr1_0⟩ := pr1
    have A := A.tr pA_r1 (by decide)
    refine lv_if_eq (tgt := 142) hx hb dX11_slide_130 (by decide) (fun c_130 => ?_) (fun c_130 => ?_)
    · skip
      have k_0 : (0 : Int32).toInt = 0 := rfl
      have c_130 := pi_eq.mp c_130
      exact J_142 x122_4 x122_5 _ _ _ _ V I (A.wk (by decide)) (lv_sub hl [0, 1, 2, 3, 4, 5] rfl) 
    · skip
      have k_0 : (0 : Int32).toInt = 0 := rfl
      have c_130 := pi_ne c_130
      refine lv_iload hx hb dX11_slide_133 (lv_at hl 4 rfl) ?_
      refine lv_iload_n hx hb dX11_slide_135 rfl (lv_at hl 3 rfl) ?_
      refine lv_icmp_ge (tgt := 142) hx hb dX11_slide_136 (by decide) (fun c_136 => ?_) (fun c_136 => ?_)
      · skip
        have c_136 := pi_le.mp c_136
        exact J_142 x122_4 x122_5 _ _ _ _ V I (A.wk (by decide)) (lv_sub hl [0, 1, 2, 3, 4, 5] rfl) 
      · skip
        have c_136 := pi_le' c_136
        obtain ⟨v2, ev2⟩ : ∃ y : Int32, y = x122_4 + 1 := ⟨_, rfl⟩
        refine lv_iinc (v := v2) (lv' := [(4, .int v2), (0, .ref (zB Z + 0)), (1, .int id), (2, .int low), (3, .int high), (5, .int x122_5)]) hx hb dX11_slide_139 hl (k := 4) rfl (by rw [ev2]; rfl) (by decide) rfl (fun ls hl => ?_)
        exact J_142 v2 x122_5 _ _ _ _ V I (A.wk (by decide)) (lv_sub hl [1, 2, 3, 4, 0, 5] rfl) 
  have J_91 : ∀ (x91_4 : Int32) (x91_5 : Int32) (hJ : pH) (H : Heap) (locs : List Loc) (ls : Array Slot), pV Z hJ s.heap H locs → Iv Z hJ → agrD [] h hJ → lv_has ls 6 [(0, .ref (zB Z + 0)), (1, .int id), (2, .int low), (3, .int high), (4, .int x91_4), (5, .int x91_5)] → W p l e (pRm 3 0 0 64) s m ([.ref (zB Z + 0), .int id, .int low, .int high] : List Value).toArray below meth c H locs 0 0 (MQ below (pQi Z (fun r Z1 h1 => Z = Z1 ∧ Iv Z h1 ∧ agrD [] h h1)) ([.ref (zB Z + 0), .int id, .int low, .int high] : List Value).toArray s 0 0 (pA (zB Z))) (F0 m 91 ls []) := by
    intro x91_4 x91_5 hJ H locs ls V I A hl
    refine lv_aload_n hx hb dX11_slide_91 rfl (lv_at hl 0 rfl) ?_
    refine pg_r M V 11 4 (c_is_0 S) pC11 fk11_4 (c_r_0_4 S) lkF_X11_40 dX11_slide_92 ?_
    refine pg_i M V 1 2 (c_is_122 S) pC1 fk1_2 lkF_X11_260 dX11_slide_95 ?_
    refine lv_topi (fun v3 ev3 => ?_)
    refine lv_iload_n hx hb dX11_slide_98 rfl (lv_at hl 1 rfl) ?_
    refine lv_icmp_ne (tgt := 142) hx hb dX11_slide_99 (by decide) (fun c_99 => ?_) (fun c_99 => ?_)
    · skip
      have c_99 := pi_ne c_99
      exact J_142 x91_4 x91_5 _ _ _ _ V I (A.wk (by decide)) (lv_sub hl [0, 1, 2, 3, 4, 5] rfl) 
    · skip
      have c_99 := pi_eq.mp c_99
      refine lv_aload_n hx hb dX11_slide_102 rfl (lv_at hl 0 rfl) ?_
      refine pg_r M V 11 0 (c_is_0 S) pC11 fk11_0 (c_r_0_0 S) lkF_X11_10 dX11_slide_103 ?_
      refine lv_iconst (v := 2) hx hb dX11_slide_106 (by decide) ?_
      refine pk_i (pr_V M V (m_X5_isDownHere l S I (2 : Int32) ) km_X5_isDownHere (c_is_1 S) pC5 lkM_X11_509 rfl hl.1 rfl (Nat.le_of_ble_eq_true rfl) ⟨Nat.le_of_ble_eq_true rfl, Nat.le_of_ble_eq_true rfl⟩ ⟨Nat.le_of_ble_eq_true rfl, Nat.le_of_ble_eq_true rfl⟩ dX11_slide_107) V (fun r4 Zr4 hr4 H locs pr4 _ _ V => ?_)
      obtain ⟨rfl, I, pA_r4, fr4_0⟩ := pr4
      have A := A.tr pA_r4 (by decide)
      refine lv_if_eq (tgt := 122) hx hb dX11_slide_110 (by decide) (fun c_110 => ?_) (fun c_110 => ?_)
      · skip
        have k_0 : (0 : Int32).toInt = 0 := rfl
        have c_110 := pi_eq.mp c_110
        exact J_122 x91_4 x91_5 _ _ _ _ V I (A.wk (by decide)) (lv_sub hl [0, 1, 2, 3, 4, 5] rfl) 
      · skip
        have k_0 : (0 : Int32).toInt = 0 := rfl
        have c_110 := pi_ne c_110
        refine lv_iload hx hb dX11_slide_113 (lv_at hl 4 rfl) ?_
        refine lv_iload_n hx hb dX11_slide_115 rfl (lv_at hl 2 rfl) ?_
        refine lv_icmp_le (tgt := 122) hx hb dX11_slide_116 (by decide) (fun c_116 => ?_) (fun c_116 => ?_)
        · skip
          have c_116 := pi_le.mp c_116
          exact J_122 x91_4 x91_5 _ _ _ _ V I (A.wk (by decide)) (lv_sub hl [0, 1, 2, 3, 4, 5] rfl) 
        · skip
          have c_116 := pi_le' c_116
          obtain ⟨v5, ev5⟩ : ∃ y : Int32, y = x91_4 + (-1) := ⟨_, rfl⟩
          refine lv_iinc (v := v5) (lv' := [(4, .int v5), (0, .ref (zB Z + 0)), (1, .int id), (2, .int low), (3, .int high), (5, .int x91_5)]) hx hb dX11_slide_119 hl (k := 4) rfl (by rw [ev5]; rfl) (by decide) rfl (fun ls hl => ?_)
          exact J_122 v5 x91_5 _ _ _ _ V I (A.wk (by decide)) (lv_sub hl [1, 2, 3, 4, 0, 5] rfl) 
  refine lv_aload_n hx hb dX11_slide_0 rfl (lv_at hl 0 rfl) ?_
  refine pg_r M V 11 5 (c_is_0 S) pC11 fk11_5 (c_r_0_5 S) lkF_X11_47 dX11_slide_1 ?_
  refine lv_iload_n hx hb dX11_slide_4 rfl (lv_at hl 1 rfl) ?_
  refine pk_i (pr_V M V (m_X10_numberOf l S I id ) km_X10_numberOf (c_is_123 S) pC10 lkM_X11_250 rfl hl.1 rfl (Nat.le_of_ble_eq_true rfl) ⟨Nat.le_of_ble_eq_true rfl, Nat.le_of_ble_eq_true rfl⟩ ⟨Nat.le_of_ble_eq_true rfl, Nat.le_of_ble_eq_true rfl⟩ dX11_slide_5) V (fun r6 Zr6 hr6 H locs pr6 _ _ V => ?_)
  obtain ⟨rfl, I, pA_r6⟩ := pr6
  have A := A.tr pA_r6 (by decide)
  refine lv_iload_n hx hb dX11_slide_8 rfl (lv_at hl 2 rfl) ?_
  refine lv_iload_n hx hb dX11_slide_9 rfl (lv_at hl 3 rfl) ?_
  refine pk_i (pr_S M V (m_X11_bring l (Z := Z) (h := _) r6 low high) km_X11_bring lkM_X11_506 rfl hl.1 rfl (Nat.le_of_ble_eq_true rfl) ⟨Nat.le_of_ble_eq_true rfl, Nat.le_of_ble_eq_true rfl⟩ ⟨Nat.le_of_ble_eq_true rfl, Nat.le_of_ble_eq_true rfl⟩ dX11_slide_10) V (fun r7 Zr7 hr7 H locs pr7 _ _ V => ?_)
  obtain ⟨rfl, rfl, fr7_0⟩ := pr7
  refine lv_istore (lv' := [(4, .int r7), (0, .ref (zB Z + 0)), (1, .int id), (2, .int low), (3, .int high)]) hx hb dX11_slide_13 hl (by decide) rfl (fun ls hl => ?_)
  refine lv_aload_n hx hb dX11_slide_15 rfl (lv_at hl 1 rfl) ?_
  refine pg_r M V 11 8 (c_is_0 S) pC11 fk11_8 (c_r_0_8 S) lkF_X11_64 dX11_slide_16 ?_
  refine pg_i M V 2 2 (c_is_135 S) pC2 fk2_2 lkF_X11_350 dX11_slide_19 ?_
  refine lv_topi (fun v8 ev8 => ?_)
  refine lv_aload_n hx hb dX11_slide_22 rfl (lv_at hl 1 rfl) ?_
  refine pg_r M V 11 8 (c_is_0 S) pC11 fk11_8 (c_r_0_8 S) lkF_X11_64 dX11_slide_23 ?_
  refine pg_i M V 2 0 (c_is_135 S) pC2 fk2_0 lkF_X11_299 dX11_slide_26 ?_
  refine lv_topi (fun v9 ev9 => ?_)
  refine lv_isub hx hb dX11_slide_29 ?_
  refine lv_topi (fun v10 ev10 => ?_)
  refine lv_iconst (v := 1) hx hb dX11_slide_30 (by decide) ?_
  refine lv_isub hx hb dX11_slide_31 ?_
  refine lv_topi (fun v11 ev11 => ?_)
  refine lv_istore (lv' := [(5, .int v11), (4, .int r7), (0, .ref (zB Z + 0)), (1, .int id), (2, .int low), (3, .int high)]) hx hb dX11_slide_32 hl (by decide) rfl (fun ls hl => ?_)
  refine lv_aload_n hx hb dX11_slide_34 rfl (lv_at hl 2 rfl) ?_
  refine pg_r M V 11 4 (c_is_0 S) pC11 fk11_4 (c_r_0_4 S) lkF_X11_40 dX11_slide_35 ?_
  refine pg_i M V 1 0 (c_is_122 S) pC1 fk1_0 lkF_X11_341 dX11_slide_38 ?_
  refine lv_topi (fun v12 ev12 => ?_)
  refine lv_iload_n hx hb dX11_slide_41 rfl (lv_at hl 3 rfl) ?_
  refine lv_icmp_ne (tgt := 91) hx hb dX11_slide_42 (by decide) (fun c_42 => ?_) (fun c_42 => ?_)
  · skip
    have c_42 := pi_ne c_42
    exact J_91 r7 v11 _ _ _ _ V I (A.wk (by decide)) (lv_sub hl [2, 3, 4, 5, 1, 0] rfl) 
  · skip
    have c_42 := pi_eq.mp c_42
    refine lv_aload_n hx hb dX11_slide_45 rfl (lv_at hl 2 rfl) ?_
    refine pg_r M V 11 0 (c_is_0 S) pC11 fk11_0 (c_r_0_0 S) lkF_X11_10 dX11_slide_46 ?_
    refine pg_i M V 5 13 (c_is_1 S) pC5 fk5_13 lkF_X11_356 dX11_slide_49 ?_
    refine lv_topi (fun v13 ev13 => ?_)
    have tv13 : 0 ≤ v13.toInt ∧ v13.toInt ≤ 1 := by rw [ev13]; exact I.get (c_is_1 S) 13
    refine lv_if_eq (tgt := 91) hx hb dX11_slide_52 (by decide) (fun c_52 => ?_) (fun c_52 => ?_)
    · skip
      have k_0 : (0 : Int32).toInt = 0 := rfl
      have c_52 := pi_eq.mp c_52
      exact J_91 r7 v11 _ _ _ _ V I (A.wk (by decide)) (lv_sub hl [2, 3, 4, 5, 1, 0] rfl) 
    · skip
      have k_0 : (0 : Int32).toInt = 0 := rfl
      have c_52 := pi_ne c_52
      refine lv_iload hx hb dX11_slide_55 (lv_at hl 0 rfl) ?_
      refine lv_if_le (tgt := 91) hx hb dX11_slide_57 (by decide) (fun c_57 => ?_) (fun c_57 => ?_)
      · skip
        have c_57 := pi_le.mp c_57
        exact J_91 r7 v11 _ _ _ _ V I (A.wk (by decide)) (lv_sub hl [2, 3, 4, 5, 1, 0] rfl) 
      · skip
        have c_57 := pi_le' c_57
        refine lv_iload_n hx hb dX11_slide_60 rfl (lv_at hl 4 rfl) ?_
        refine lv_aload_n hx hb dX11_slide_61 rfl (lv_at hl 2 rfl) ?_
        refine pg_r M V 11 0 (c_is_0 S) pC11 fk11_0 (c_r_0_0 S) lkF_X11_10 dX11_slide_62 ?_
        refine pg_i M V 5 7 (c_is_1 S) pC5 fk5_7 lkF_X11_493 dX11_slide_65 ?_
        refine lv_topi (fun v14 ev14 => ?_)
        refine lv_aload_n hx hb dX11_slide_68 rfl (lv_at hl 2 rfl) ?_
        refine pg_r M V 11 8 (c_is_0 S) pC11 fk11_8 (c_r_0_8 S) lkF_X11_64 dX11_slide_69 ?_
        refine pg_iv M V 2 0 (v := v9) (c_is_135 S) pC2 fk2_0 ev9.symm lkF_X11_299 dX11_slide_72 ?_
        refine lv_isub hx hb dX11_slide_75 ?_
        refine lv_topi (fun v15 ev15 => ?_)
        refine lv_iload_n hx hb dX11_slide_76 rfl (lv_at hl 5 rfl) ?_
        refine lv_iload_n hx hb dX11_slide_77 rfl (lv_at hl 4 rfl) ?_
        refine lv_isub hx hb dX11_slide_78 ?_
        refine lv_topi (fun v16 ev16 => ?_)
        refine lv_imul hx hb dX11_slide_79 ?_
        refine lv_topi (fun v17 ev17 => ?_)
        refine lv_iload hx hb dX11_slide_80 (lv_at hl 0 rfl) ?_
        refine lv_idiv hx hb dX11_slide_82 (fun z9 => by have z9 := pi_eq.mp z9; omega) ?_
        refine lv_topi (fun v18 ev18 => ?_)
        refine lv_iadd hx hb dX11_slide_83 ?_
        refine lv_topi (fun v19 ev19 => ?_)
        refine lv_iload_n hx hb dX11_slide_84 rfl (lv_at hl 4 rfl) ?_
        refine lv_iload_n hx hb dX11_slide_85 rfl (lv_at hl 5 rfl) ?_
        refine pk_i (pr_S M V (m_X11_bring l (Z := Z) (h := _) v19 low high) km_X11_bring lkM_X11_506 rfl hl.1 rfl (Nat.le_of_ble_eq_true rfl) ⟨Nat.le_of_ble_eq_true rfl, Nat.le_of_ble_eq_true rfl⟩ ⟨Nat.le_of_ble_eq_true rfl, Nat.le_of_ble_eq_true rfl⟩ dX11_slide_86) V (fun r20 Zr20 hr20 H locs pr20 _ _ V => ?_)
        obtain ⟨rfl, rfl, fr20_0⟩ := pr20
        refine lv_istore (lv' := [(4, .int r20), (5, .int v11), (0, .ref (zB Z + 0)), (1, .int id), (2, .int low), (3, .int high)]) hx hb dX11_slide_89 hl (by decide) rfl (fun ls hl => ?_)
        exact J_91 r20 v11 _ _ _ _ V I (A.wk (by decide)) (lv_sub hl [2, 3, 4, 5, 0, 1] rfl) 
theorem dX11_closePane_0 : decode cX11_closePane 0 = .ok (.aload_n 0, 1) := by decide +kernel
theorem dX11_closePane_1 : decode cX11_closePane 1 = .ok (.getfield 19, 3) := by decide +kernel
theorem dX11_closePane_4 : decode cX11_closePane 4 = .ok (.aload_n 0, 1) := by decide +kernel
theorem dX11_closePane_5 : decode cX11_closePane 5 = .ok (.getfield 19, 3) := by decide +kernel
theorem dX11_closePane_8 : decode cX11_closePane 8 = .ok (.getfield 290, 3) := by decide +kernel
theorem dX11_closePane_11 : decode cX11_closePane 11 = .ok (.invokevirtual 149, 3) := by decide +kernel
theorem dX11_closePane_14 : decode cX11_closePane 14 = .ok (.astore_n 2, 1) := by decide +kernel
theorem dX11_closePane_15 : decode cX11_closePane 15 = .ok (.aload_n 2, 1) := by decide +kernel
theorem dX11_closePane_16 : decode cX11_closePane 16 = .ok (.aload_n 1, 1) := by decide +kernel
theorem dX11_closePane_17 : decode cX11_closePane 17 = .ok (.invokevirtual 202, 3) := by decide +kernel
theorem dX11_closePane_20 : decode cX11_closePane 20 = .ok (.putfield 474, 3) := by decide +kernel
theorem dX11_closePane_23 : decode cX11_closePane 23 = .ok (.aload_n 2, 1) := by decide +kernel
theorem dX11_closePane_24 : decode cX11_closePane 24 = .ok (.aload_n 0, 1) := by decide +kernel
theorem dX11_closePane_25 : decode cX11_closePane 25 = .ok (.getfield 54, 3) := by decide +kernel
theorem dX11_closePane_28 : decode cX11_closePane 28 = .ok (.getfield 374, 3) := by decide +kernel
theorem dX11_closePane_31 : decode cX11_closePane 31 = .ok (.putfield 476, 3) := by decide +kernel
theorem dX11_closePane_34 : decode cX11_closePane 34 = .ok (.aload_n 2, 1) := by decide +kernel
theorem dX11_closePane_35 : decode cX11_closePane 35 = .ok (.aload_n 0, 1) := by decide +kernel
theorem dX11_closePane_36 : decode cX11_closePane 36 = .ok (.getfield 54, 3) := by decide +kernel
theorem dX11_closePane_39 : decode cX11_closePane 39 = .ok (.getfield 139, 3) := by decide +kernel
theorem dX11_closePane_42 : decode cX11_closePane 42 = .ok (.putfield 479, 3) := by decide +kernel
theorem dX11_closePane_45 : decode cX11_closePane 45 = .ok (.aload_n 0, 1) := by decide +kernel
theorem dX11_closePane_46 : decode cX11_closePane 46 = .ok (.getfield 19, 3) := by decide +kernel
theorem dX11_closePane_49 : decode cX11_closePane 49 = .ok (.iconst (-1), 1) := by decide +kernel
theorem dX11_closePane_50 : decode cX11_closePane 50 = .ok (.putfield 290, 3) := by decide +kernel
theorem dX11_closePane_53 : decode cX11_closePane 53 = .ok (.return_, 1) := by decide +kernel
set_option maxHeartbeats 4000000 in
set_option maxRecDepth 100000 in
theorem m_X11_closePane (l : Launch) {Z : pZ} (S : pSh Z) {h : pH} (I : Iv Z h) (o2 : Nat) (ho2 : pIs Z o2 0)  : pMet l yX11_closePane cX11_closePane 3 none 2 0 0 44 Z h [.ref (zB Z + 0), .ref (zB Z + o2)] (pQv Z (fun Z1 h1 => Z = Z1 ∧ Iv Z h1 ∧ agrD [(10, 4)] h h1)) := by
  refine pOfW (lv := [(0, .ref (zB Z + 0)), (1, .ref (zB Z + o2))]) (by decide) (Nat.le_of_ble_eq_true rfl) rfl ?_
  intro p e s m below meth c ls M hr hlk hnm V hl
  have hx := M.1.1
  have hb := M.1.2.1
  have A : agrD [] h h := agrD.rf
  refine lv_aload_n hx hb dX11_closePane_0 rfl (lv_at hl 0 rfl) ?_
  refine pg_r M V 11 1 (c_is_0 S) pC11 fk11_1 (c_r_0_1 S) lkF_X11_19 dX11_closePane_1 ?_
  refine lv_aload_n hx hb dX11_closePane_4 rfl (lv_at hl 0 rfl) ?_
  refine pg_r M V 11 1 (c_is_0 S) pC11 fk11_1 (c_r_0_1 S) lkF_X11_19 dX11_closePane_5 ?_
  refine pg_i M V 3 4 (c_is_10 S) pC3 fk3_4 lkF_X11_290 dX11_closePane_8 ?_
  refine lv_topi (fun v1 ev1 => ?_)
  refine pk_r (pr_V M V (m_X3_paneOf l S I v1) km_X3_paneOf (c_is_10 S) pC3 lkM_X11_149 rfl hl.1 rfl (Nat.le_of_ble_eq_true rfl) ⟨Nat.le_of_ble_eq_true rfl, Nat.le_of_ble_eq_true rfl⟩ ⟨Nat.le_of_ble_eq_true rfl, Nat.le_of_ble_eq_true rfl⟩ dX11_closePane_11) V (fun r2 Zr2 hr2 H locs pr2 _ _ V => ?_)
  obtain ⟨rfl, rfl, fr2_0⟩ := pr2
  refine lv_astore_n (lv' := [(2, .ref (zB Z + r2)), (0, .ref (zB Z + 0)), (1, .ref (zB Z + o2))]) hx hb dX11_closePane_14 rfl hl (by decide) rfl (fun ls hl => ?_)
  refine lv_aload_n hx hb dX11_closePane_15 rfl (lv_at hl 0 rfl) ?_
  refine lv_aload_n hx hb dX11_closePane_16 rfl (lv_at hl 2 rfl) ?_
  refine pk_i (pr_V M V (m_X0_high l S I o2 ho2 ) km_X0_high ho2 pC0 lkM_X11_202 rfl hl.1 rfl (Nat.le_of_ble_eq_true rfl) ⟨Nat.le_of_ble_eq_true rfl, Nat.le_of_ble_eq_true rfl⟩ ⟨Nat.le_of_ble_eq_true rfl, Nat.le_of_ble_eq_true rfl⟩ dX11_closePane_17) V (fun r3 Zr3 hr3 H locs pr3 _ _ V => ?_)
  obtain ⟨rfl, I, pA_r3⟩ := pr3
  have A := A.tr pA_r3 (by decide)
  refine pp_i M V 7 6 fr2_0 pC7 fk7_6 rfl lkF_X11_474 ⟨rfl, rfl⟩ dX11_closePane_20 (fun H locs V => ?_)
  have A := A.upS S (k := 6) (v := r3) fr2_0 (by decide)
  have I := I.up (k := 6) (v := r3) fr2_0 (pi_full _)
  refine lv_aload_n hx hb dX11_closePane_23 rfl (lv_at hl 0 rfl) ?_
  refine lv_aload_n hx hb dX11_closePane_24 rfl (lv_at hl 1 rfl) ?_
  refine pg_r M V 11 6 (c_is_0 S) pC11 fk11_6 (c_r_0_6 S) lkF_X11_54 dX11_closePane_25 ?_
  refine pg_i M V 9 2 (c_is_129 S) pC9 fk9_2 lkF_X11_374 dX11_closePane_28 ?_
  refine lv_topi (fun v4 ev4 => ?_)
  have tv4 : 0 ≤ v4.toInt ∧ v4.toInt ≤ 9000 := by rw [ev4]; exact I.get (c_is_129 S) 2
  refine pp_i M V 7 11 fr2_0 pC7 fk7_11 rfl lkF_X11_476 ⟨rfl, rfl⟩ dX11_closePane_31 (fun H locs V => ?_)
  have A := A.upS S (k := 11) (v := v4) fr2_0 (by decide)
  have I := I.up (k := 11) (v := v4) fr2_0 (show (0 : Int) ≤ v4.toInt ∧ v4.toInt ≤ (9000 : Int) by omega)
  refine lv_aload_n hx hb dX11_closePane_34 rfl (lv_at hl 0 rfl) ?_
  refine lv_aload_n hx hb dX11_closePane_35 rfl (lv_at hl 1 rfl) ?_
  refine pg_r M V 11 6 (c_is_0 S) pC11 fk11_6 (c_r_0_6 S) lkF_X11_54 dX11_closePane_36 ?_
  refine pg_i M V 9 3 (c_is_129 S) pC9 fk9_3 lkF_X11_139 dX11_closePane_39 ?_
  refine lv_topi (fun v5 ev5 => ?_)
  have tv5 : 0 ≤ v5.toInt ∧ v5.toInt ≤ 9000 := by rw [ev5]; exact I.get (c_is_129 S) 3
  refine pp_i M V 7 13 fr2_0 pC7 fk7_13 rfl lkF_X11_479 ⟨rfl, rfl⟩ dX11_closePane_42 (fun H locs V => ?_)
  have A := A.upS S (k := 13) (v := v5) fr2_0 (by decide)
  have I := I.up (k := 13) (v := v5) fr2_0 (show (0 : Int) ≤ v5.toInt ∧ v5.toInt ≤ (9000 : Int) by omega)
  refine lv_aload_n hx hb dX11_closePane_45 rfl (lv_at hl 1 rfl) ?_
  refine pg_r M V 11 1 (c_is_0 S) pC11 fk11_1 (c_r_0_1 S) lkF_X11_19 dX11_closePane_46 ?_
  refine lv_iconst (v := (-1)) hx hb dX11_closePane_49 (by decide) ?_
  refine pp_i M V 3 4 (c_is_10 S) pC3 fk3_4 rfl lkF_X11_290 ⟨rfl, rfl⟩ dX11_closePane_50 (fun H locs V => ?_)
  have A := A.wk (l3 := [(10, 4)]) (by decide)
  have A := A.up (o := 10) (k := 4) (v := (-1 : Int32)) (by decide)
  have I := I.up (k := 4) (v := (-1 : Int32)) (c_is_10 S) (pi_full _)
  exact pe_v M V rfl rfl hr hlk ⟨rfl, I, A.wk (by decide)⟩ ⟨Nat.le_refl _, Nat.le_refl _⟩ dX11_closePane_53
