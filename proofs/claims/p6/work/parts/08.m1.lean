theorem dX12_event_0 : decode cX12_event 0 = .ok (.aload_n 0, 1) := by decide +kernel
theorem dX12_event_1 : decode cX12_event 1 = .ok (.iconst 0, 1) := by decide +kernel
theorem dX12_event_2 : decode cX12_event 2 = .ok (.putfield 175, 3) := by decide +kernel
theorem dX12_event_5 : decode cX12_event 5 = .ok (.iload_n 1, 1) := by decide +kernel
theorem dX12_event_6 : decode cX12_event 6 = .ok (.ifCond .eq 12, 3) := by decide +kernel
theorem dX12_event_9 : decode cX12_event 9 = .ok (.aload_n 0, 1) := by decide +kernel
theorem dX12_event_10 : decode cX12_event 10 = .ok (.getfield 185, 3) := by decide +kernel
theorem dX12_event_13 : decode cX12_event 13 = .ok (.bipush 64, 2) := by decide +kernel
theorem dX12_event_15 : decode cX12_event 15 = .ok (.if_icmp .ne 5, 3) := by decide +kernel
theorem dX12_event_18 : decode cX12_event 18 = .ok (.iconst 0, 1) := by decide +kernel
theorem dX12_event_19 : decode cX12_event 19 = .ok (.ireturn, 1) := by decide +kernel
theorem dX12_event_20 : decode cX12_event 20 = .ok (.aload_n 0, 1) := by decide +kernel
theorem dX12_event_21 : decode cX12_event 21 = .ok (.getfield 7, 3) := by decide +kernel
theorem dX12_event_24 : decode cX12_event 24 = .ok (.iconst 3, 1) := by decide +kernel
theorem dX12_event_25 : decode cX12_event 25 = .ok (.aload_n 0, 1) := by decide +kernel
theorem dX12_event_26 : decode cX12_event 26 = .ok (.getfield 185, 3) := by decide +kernel
theorem dX12_event_29 : decode cX12_event 29 = .ok (.imul, 1) := by decide +kernel
theorem dX12_event_30 : decode cX12_event 30 = .ok (.iload_n 2, 1) := by decide +kernel
theorem dX12_event_31 : decode cX12_event 31 = .ok (.iastore, 1) := by decide +kernel
theorem dX12_event_32 : decode cX12_event 32 = .ok (.aload_n 0, 1) := by decide +kernel
theorem dX12_event_33 : decode cX12_event 33 = .ok (.getfield 7, 3) := by decide +kernel
theorem dX12_event_36 : decode cX12_event 36 = .ok (.iconst 3, 1) := by decide +kernel
theorem dX12_event_37 : decode cX12_event 37 = .ok (.aload_n 0, 1) := by decide +kernel
theorem dX12_event_38 : decode cX12_event 38 = .ok (.getfield 185, 3) := by decide +kernel
theorem dX12_event_41 : decode cX12_event 41 = .ok (.imul, 1) := by decide +kernel
theorem dX12_event_42 : decode cX12_event 42 = .ok (.iconst 1, 1) := by decide +kernel
theorem dX12_event_43 : decode cX12_event 43 = .ok (.iadd, 1) := by decide +kernel
theorem dX12_event_44 : decode cX12_event 44 = .ok (.iload_n 3, 1) := by decide +kernel
theorem dX12_event_45 : decode cX12_event 45 = .ok (.iastore, 1) := by decide +kernel
theorem dX12_event_46 : decode cX12_event 46 = .ok (.aload_n 0, 1) := by decide +kernel
theorem dX12_event_47 : decode cX12_event 47 = .ok (.getfield 7, 3) := by decide +kernel
theorem dX12_event_50 : decode cX12_event 50 = .ok (.iconst 3, 1) := by decide +kernel
theorem dX12_event_51 : decode cX12_event 51 = .ok (.aload_n 0, 1) := by decide +kernel
theorem dX12_event_52 : decode cX12_event 52 = .ok (.getfield 185, 3) := by decide +kernel
theorem dX12_event_55 : decode cX12_event 55 = .ok (.imul, 1) := by decide +kernel
theorem dX12_event_56 : decode cX12_event 56 = .ok (.iconst 2, 1) := by decide +kernel
theorem dX12_event_57 : decode cX12_event 57 = .ok (.iadd, 1) := by decide +kernel
theorem dX12_event_58 : decode cX12_event 58 = .ok (.iload 4, 2) := by decide +kernel
theorem dX12_event_60 : decode cX12_event 60 = .ok (.iastore, 1) := by decide +kernel
theorem dX12_event_61 : decode cX12_event 61 = .ok (.aload_n 0, 1) := by decide +kernel
theorem dX12_event_62 : decode cX12_event 62 = .ok (.dup, 1) := by decide +kernel
theorem dX12_event_63 : decode cX12_event 63 = .ok (.getfield 185, 3) := by decide +kernel
theorem dX12_event_66 : decode cX12_event 66 = .ok (.iconst 1, 1) := by decide +kernel
theorem dX12_event_67 : decode cX12_event 67 = .ok (.iadd, 1) := by decide +kernel
theorem dX12_event_68 : decode cX12_event 68 = .ok (.putfield 185, 3) := by decide +kernel
theorem dX12_event_71 : decode cX12_event 71 = .ok (.iconst 1, 1) := by decide +kernel
theorem dX12_event_72 : decode cX12_event 72 = .ok (.ireturn, 1) := by decide +kernel
set_option maxHeartbeats 4000000 in
set_option maxRecDepth 100000 in
theorem m_X12_event (l : Launch) {Z : pZ} (S : pSh Z) {h : pH} (I : Iv Z h) (good : Int32) (what : Int32) (a : Int32) (b : Int32) (hg : 0 ≤ good.toInt ∧ good.toInt ≤ 1) : pMet l yX12_event cX12_event 5 (some .boolean) 0 0 0 0 Z h [.ref (zB Z + 137), .int good, .int what, .int a, .int b] (pQi Z (fun r Z1 h1 => Z = Z1 ∧ Iv Z h1 ∧ agr [(137, 0), (137, 2), (138, 1000)] h h1 ∧ (r.toInt = 0 ∨ r.toInt = 1) ∧ ((good.toInt = 1 → (h 137 2).toInt ≤ 63 → r.toInt = 1) ∧ (good.toInt = 0 → r.toInt = 0)) ∧ (mE h → (good.toInt = 1 → what.toInt = 3 → 0 ≤ a.toInt ∧ a.toInt ≤ 5) → mE h1) ∧ ((h 137 2).toInt + (0) ≤ (h1 137 2).toInt ∧ (h1 137 2).toInt ≤ (h 137 2).toInt + (1)))) := by
  refine pOfW (lv := [(0, .ref (zB Z + 137)), (1, .int good), (2, .int what), (3, .int a), (4, .int b)]) (by decide) (Nat.le_of_ble_eq_true rfl) rfl ?_
  intro p e s m below meth c ls M hr hlk hnm V hl
  have hx := M.1.1
  have hb := M.1.2.1
  have A : agr [] h h := agr.rf
  have i_2 : 0 ≤ (h 137 2).toInt ∧ (h 137 2).toInt ≤ 64 := I.get (sm_this S) 2
  refine lv_aload_n hx hb dX12_event_0 rfl (lv_at hl 0 rfl) ?_
  refine lv_iconst (v := 0) hx hb dX12_event_1 (by decide) ?_
  refine pp_i M V 12 0 (sm_this S) pC12 fk12_0 rfl lkF_X12_175 ⟨rfl, rfl⟩ dX12_event_2 (fun H locs V => ?_)
  have A := A.wk (l3 := [(137, 0)]) (by decide)
  have A := A.up (o := 137) (k := 0) (v := (0 : Int32)) (by decide)
  have I := I.up (k := 0) (v := (0 : Int32)) (sm_this S) (pi_full _)
  refine lv_iload_n hx hb dX12_event_5 rfl (lv_at hl 1 rfl) ?_
  refine lv_if_eq (tgt := 18) hx hb dX12_event_6 (by decide) (fun c_6 => ?_) (fun c_6 => ?_)
  · skip
    have k_0 : (0 : Int32).toInt = 0 := rfl
    have c_6 := pi_eq.mp c_6
    refine lv_iconst (v := 0) hx hb dX12_event_18 (by decide) ?_
    exact pe_i M V rfl rfl hr hlk (pn_z (pi_z (by omega))).1 ⟨rfl, I, A.wk (by decide), by omega, by omega, (fun E9 _ => E9.congr rfl rfl), (show (h 137 2).toInt + (0) ≤ (h 137 2).toInt ∧ (h 137 2).toInt ≤ (h 137 2).toInt + (1) by omega)⟩ ⟨Nat.le_refl _, Nat.le_refl _⟩ dX12_event_19
  · skip
    have k_0 : (0 : Int32).toInt = 0 := rfl
    have c_6 := pi_ne c_6
    refine lv_aload_n hx hb dX12_event_9 rfl (lv_at hl 0 rfl) ?_
    refine pg_i M V 12 2 (sm_this S) pC12 fk12_2 lkF_X12_185 dX12_event_10 ?_
    refine lv_topi (fun v1 ev1 => ?_)
    have tv1 : 0 ≤ v1.toInt ∧ v1.toInt ≤ 64 := by rw [ev1]; exact I.get (sm_this S) 2
    have uv1 : v1.toInt = (h 137 2).toInt := congrArg Int32.toInt ev1
    refine lv_bipush (v := 64) hx hb dX12_event_13 (by decide) ?_
    refine lv_icmp_ne (tgt := 20) hx hb dX12_event_15 (by decide) (fun c_15 => ?_) (fun c_15 => ?_)
    · skip
      have k_64 : (64 : Int32).toInt = 64 := rfl
      have c_15 := pi_ne c_15
      refine lv_aload_n hx hb dX12_event_20 rfl (lv_at hl 0 rfl) ?_
      refine pg_r M V 12 1 (sm_this S) pC12 fk12_1 (sm_events S).2.2 lkF_X12_7 dX12_event_21 ?_
      refine lv_iconst (v := 3) hx hb dX12_event_24 (by decide) ?_
      refine lv_aload_n hx hb dX12_event_25 rfl (lv_at hl 0 rfl) ?_
      refine pg_iv M V 12 2 (v := v1) (sm_this S) pC12 fk12_2 ev1.symm lkF_X12_185 dX12_event_26 ?_
      refine lv_imul hx hb dX12_event_29 ?_
      refine lv_topi (fun v2 ev2 => ?_)
      refine lv_iload_n hx hb dX12_event_30 rfl (lv_at hl 2 rfl) ?_
      have k_3 : (3 : Int32).toInt = 3 := rfl
      have tv2 : v2.toInt = 3 * v1.toInt := by rw [ev2]; have z9 := pi_mul (x := (3 : Int32)) (y := v1); rw [k_3] at z9; exact z9 (by omega)
      refine ps_i M V (sm_events S).1 (by rw [(sm_events S).2.1]; exact pi_in (by omega)) dX12_event_31 (fun H locs V => ?_)
      have A := A.wk (l3 := [(137, 0), (138, 1000)]) (by decide)
      have A := A.upA (o := 138) (k := v2.toNatClampNeg) (v := what) (by decide)
      have I := I.up (k := v2.toNatClampNeg) (v := what) (sm_events S).1 (pi_full _)
      refine lv_aload_n hx hb dX12_event_32 rfl (lv_at hl 0 rfl) ?_
      refine pg_r M V 12 1 (sm_this S) pC12 fk12_1 (sm_events S).2.2 lkF_X12_7 dX12_event_33 ?_
      refine lv_iconst (v := 3) hx hb dX12_event_36 (by decide) ?_
      refine lv_aload_n hx hb dX12_event_37 rfl (lv_at hl 0 rfl) ?_
      refine pg_iv M V 12 2 (v := v1) (sm_this S) pC12 fk12_2 ev1.symm lkF_X12_185 dX12_event_38 ?_
      refine lv_imul hx hb dX12_event_41 ?_
      refine lv_topi (fun v3 ev3 => ?_)
      refine lv_iconst (v := 1) hx hb dX12_event_42 (by decide) ?_
      refine lv_iadd hx hb dX12_event_43 ?_
      refine lv_topi (fun v4 ev4 => ?_)
      refine lv_iload_n hx hb dX12_event_44 rfl (lv_at hl 3 rfl) ?_
      have tv3 : v3.toInt = 3 * v1.toInt := by rw [ev3]; have z9 := pi_mul (x := (3 : Int32)) (y := v1); rw [k_3] at z9; exact z9 (by omega)
      have k_1 : (1 : Int32).toInt = 1 := rfl
      have tv4 : v4.toInt = v3.toInt + 1 := by rw [ev4]; have z9 := pi_add (x := v3) (y := (1 : Int32)); rw [k_1] at z9; exact z9 (by omega)
      refine ps_i M V (sm_events S).1 (by rw [(sm_events S).2.1]; exact pi_in (by omega)) dX12_event_45 (fun H locs V => ?_)
      have A := A.upA (o := 138) (k := v4.toNatClampNeg) (v := a) (by decide)
      have I := I.up (k := v4.toNatClampNeg) (v := a) (sm_events S).1 (pi_full _)
      refine lv_aload_n hx hb dX12_event_46 rfl (lv_at hl 0 rfl) ?_
      refine pg_r M V 12 1 (sm_this S) pC12 fk12_1 (sm_events S).2.2 lkF_X12_7 dX12_event_47 ?_
      refine lv_iconst (v := 3) hx hb dX12_event_50 (by decide) ?_
      refine lv_aload_n hx hb dX12_event_51 rfl (lv_at hl 0 rfl) ?_
      refine pg_iv M V 12 2 (v := v1) (sm_this S) pC12 fk12_2 ev1.symm lkF_X12_185 dX12_event_52 ?_
      refine lv_imul hx hb dX12_event_55 ?_
      refine lv_topi (fun v5 ev5 => ?_)
      refine lv_iconst (v := 2) hx hb dX12_event_56 (by decide) ?_
      refine lv_iadd hx hb dX12_event_57 ?_
      refine lv_topi (fun v6 ev6 => ?_)
      refine lv_iload hx hb dX12_event_58 (lv_at hl 4 rfl) ?_
      have tv5 : v5.toInt = 3 * v1.toInt := by rw [ev5]; have z9 := pi_mul (x := (3 : Int32)) (y := v1); rw [k_3] at z9; exact z9 (by omega)
      have k_2 : (2 : Int32).toInt = 2 := rfl
      have tv6 : v6.toInt = v5.toInt + 2 := by rw [ev6]; have z9 := pi_add (x := v5) (y := (2 : Int32)); rw [k_2] at z9; exact z9 (by omega)
      refine ps_i M V (sm_events S).1 (by rw [(sm_events S).2.1]; exact pi_in (by omega)) dX12_event_60 (fun H locs V => ?_)
      have A := A.upA (o := 138) (k := v6.toNatClampNeg) (v := b) (by decide)
      have I := I.up (k := v6.toNatClampNeg) (v := b) (sm_events S).1 (pi_full _)
      refine lv_aload_n hx hb dX12_event_61 rfl (lv_at hl 0 rfl) ?_
      refine lv_dup hx hb dX12_event_62 rfl ?_
      refine pg_iv M V 12 2 (v := v1) (sm_this S) pC12 fk12_2 ev1.symm lkF_X12_185 dX12_event_63 ?_
      refine lv_iconst (v := 1) hx hb dX12_event_66 (by decide) ?_
      refine lv_iadd hx hb dX12_event_67 ?_
      refine lv_topi (fun v7 ev7 => ?_)
      refine pp_i M V 12 2 (sm_this S) pC12 fk12_2 rfl lkF_X12_185 ⟨rfl, rfl⟩ dX12_event_68 (fun H locs V => ?_)
      have A := A.wk (l3 := [(137, 0), (138, 1000), (137, 2)]) (by decide)
      have A := A.up (o := 137) (k := 2) (v := v7) (by decide)
      have tv7 : v7.toInt = v1.toInt + 1 := by rw [ev7]; have z9 := pi_add (x := v1) (y := (1 : Int32)); rw [k_1] at z9; exact z9 (by omega)
      have I := I.up (k := 2) (v := v7) (sm_this S) (show (0 : Int) ≤ v7.toInt ∧ v7.toInt ≤ (64 : Int) by omega)
      refine lv_iconst (v := 1) hx hb dX12_event_71 (by decide) ?_
      exact pe_i M V rfl rfl hr hlk (pn_z (pi_z (by omega))).1 ⟨rfl, I, A.wk (by decide), by omega, by omega, (fun E9 k9 => mE_event (h0 := u2 h 137 0 0) E9 rfl ev1 (by omega) (by omega) (by omega) (by omega) (by omega) (k9 (by omega))), (show (h 137 2).toInt + (0) ≤ v7.toInt ∧ v7.toInt ≤ (h 137 2).toInt + (1) by omega)⟩ ⟨Nat.le_refl _, Nat.le_refl _⟩ dX12_event_72
    · skip
      have k_64 : (64 : Int32).toInt = 64 := rfl
      have c_15 := pi_eq.mp c_15
      refine lv_iconst (v := 0) hx hb dX12_event_18 (by decide) ?_
      exact pe_i M V rfl rfl hr hlk (pn_z (pi_z (by omega))).1 ⟨rfl, I, A.wk (by decide), by omega, by omega, (fun E9 _ => E9.congr rfl rfl), (show (h 137 2).toInt + (0) ≤ (h 137 2).toInt ∧ (h 137 2).toInt ≤ (h 137 2).toInt + (1) by omega)⟩ ⟨Nat.le_refl _, Nat.le_refl _⟩ dX12_event_19
theorem dX12_point_0 : decode cX12_point 0 = .ok (.aload_n 0, 1) := by decide +kernel
theorem dX12_point_1 : decode cX12_point 1 = .ok (.iload_n 1, 1) := by decide +kernel
theorem dX12_point_2 : decode cX12_point 2 = .ok (.ifCond .lt 25, 3) := by decide +kernel
theorem dX12_point_5 : decode cX12_point 5 = .ok (.iload_n 1, 1) := by decide +kernel
theorem dX12_point_6 : decode cX12_point 6 = .ok (.sipush 1000, 3) := by decide +kernel
theorem dX12_point_9 : decode cX12_point 9 = .ok (.if_icmp .ge 18, 3) := by decide +kernel
theorem dX12_point_12 : decode cX12_point 12 = .ok (.iload_n 2, 1) := by decide +kernel
theorem dX12_point_13 : decode cX12_point 13 = .ok (.ifCond .lt 14, 3) := by decide +kernel
theorem dX12_point_16 : decode cX12_point 16 = .ok (.iload_n 2, 1) := by decide +kernel
theorem dX12_point_17 : decode cX12_point 17 = .ok (.sipush 1000, 3) := by decide +kernel
theorem dX12_point_20 : decode cX12_point 20 = .ok (.if_icmp .ge 7, 3) := by decide +kernel
theorem dX12_point_23 : decode cX12_point 23 = .ok (.iconst 1, 1) := by decide +kernel
theorem dX12_point_24 : decode cX12_point 24 = .ok (.goto 4, 3) := by decide +kernel
theorem dX12_point_27 : decode cX12_point 27 = .ok (.iconst 0, 1) := by decide +kernel
theorem dX12_point_28 : decode cX12_point 28 = .ok (.iconst 0, 1) := by decide +kernel
theorem dX12_point_29 : decode cX12_point 29 = .ok (.iload_n 1, 1) := by decide +kernel
theorem dX12_point_30 : decode cX12_point 30 = .ok (.iload_n 2, 1) := by decide +kernel
theorem dX12_point_31 : decode cX12_point 31 = .ok (.invokevirtual 188, 3) := by decide +kernel
theorem dX12_point_34 : decode cX12_point 34 = .ok (.ireturn, 1) := by decide +kernel
set_option maxHeartbeats 4000000 in
set_option maxRecDepth 100000 in
theorem m_X12_point (l : Launch) {Z : pZ} (S : pSh Z) {h : pH} (I : Iv Z h) (x : Int32) (y : Int32)  : pMet l yX12_point cX12_point 3 (some .boolean) 1 0 0 24 Z h [.ref (zB Z + 137), .int x, .int y] (pQi Z (fun r Z1 h1 => Z = Z1 ∧ Iv Z h1 ∧ agr [(137, 0), (137, 2), (138, 1000)] h h1 ∧ (r.toInt = 0 ∨ r.toInt = 1) ∧ ((h 137 2).toInt ≤ 63 → (r.toInt = 1 ↔ (0 ≤ x.toInt ∧ x.toInt ≤ 999 ∧ 0 ≤ y.toInt ∧ y.toInt ≤ 999))) ∧ (mE h → mE h1) ∧ ((h 137 2).toInt + (0) ≤ (h1 137 2).toInt ∧ (h1 137 2).toInt ≤ (h 137 2).toInt + (1)))) := by
  refine pOfW (lv := [(0, .ref (zB Z + 137)), (1, .int x), (2, .int y)]) (by decide) (Nat.le_of_ble_eq_true rfl) rfl ?_
  intro p e s m below meth c ls M hr hlk hnm V hl
  have hx := M.1.1
  have hb := M.1.2.1
  have A : agr [] h h := agr.rf
  have i_2 : 0 ≤ (h 137 2).toInt ∧ (h 137 2).toInt ≤ 64 := I.get (sm_this S) 2
  refine lv_aload_n hx hb dX12_point_0 rfl (lv_at hl 0 rfl) ?_
  refine lv_iload_n hx hb dX12_point_1 rfl (lv_at hl 1 rfl) ?_
  refine lv_if_lt (tgt := 27) hx hb dX12_point_2 (by decide) (fun c_2 => ?_) (fun c_2 => ?_)
  · skip
    have k_0 : (0 : Int32).toInt = 0 := rfl
    have c_2 := pi_lt.mp c_2
    refine lv_iconst (v := 0) hx hb dX12_point_27 (by decide) ?_
    refine lv_iconst (v := 0) hx hb dX12_point_28 (by decide) ?_
    refine lv_iload_n hx hb dX12_point_29 rfl (lv_at hl 1 rfl) ?_
    refine lv_iload_n hx hb dX12_point_30 rfl (lv_at hl 2 rfl) ?_
    refine pk_i (pr_V M V (m_X12_event l S I (0 : Int32) (0 : Int32) x y (by omega)) km_X12_event (sm_this S) pC12 lkM_X12_188 rfl hl.1 rfl (Nat.le_of_ble_eq_true rfl) ⟨Nat.le_of_ble_eq_true rfl, Nat.le_of_ble_eq_true rfl⟩ ⟨Nat.le_of_ble_eq_true rfl, Nat.le_of_ble_eq_true rfl⟩ dX12_point_31) V (fun r1 Zr1 hr1 H locs pr1 _ _ V => ?_)
    obtain ⟨rfl, I, pA_r1, fr1_0, fr1_1, fr1_2, fr1_3⟩ := pr1
    have fr1_3 : (h 137 2).toInt + (0) ≤ (hr1 137 2).toInt ∧ (hr1 137 2).toInt ≤ (h 137 2).toInt + (1) := fr1_3
    have A := A.wk (l3 := [(137, 0), (137, 2), (138, 1000)]) (by decide)
    have A := A.tr pA_r1 (by decide)
    exact pe_i M V rfl rfl hr hlk (pn_z (pi_z (by omega))).1 ⟨rfl, I, A.wk (by decide), by omega, by omega, (fun E9 => fr1_2 E9 (by omega)), (show (h 137 2).toInt + (0) ≤ (hr1 137 2).toInt ∧ (hr1 137 2).toInt ≤ (h 137 2).toInt + (1) by omega)⟩ ⟨Nat.le_refl _, Nat.le_refl _⟩ dX12_point_34
  · skip
    have k_0 : (0 : Int32).toInt = 0 := rfl
    have c_2 := pi_lt' c_2
    refine lv_iload_n hx hb dX12_point_5 rfl (lv_at hl 1 rfl) ?_
    refine lv_sipush (v := 1000) hx hb dX12_point_6 (by decide) ?_
    refine lv_icmp_ge (tgt := 27) hx hb dX12_point_9 (by decide) (fun c_9 => ?_) (fun c_9 => ?_)
    · skip
      have k_1000 : (1000 : Int32).toInt = 1000 := rfl
      have c_9 := pi_le.mp c_9
      refine lv_iconst (v := 0) hx hb dX12_point_27 (by decide) ?_
      refine lv_iconst (v := 0) hx hb dX12_point_28 (by decide) ?_
      refine lv_iload_n hx hb dX12_point_29 rfl (lv_at hl 1 rfl) ?_
      refine lv_iload_n hx hb dX12_point_30 rfl (lv_at hl 2 rfl) ?_
      refine pk_i (pr_V M V (m_X12_event l S I (0 : Int32) (0 : Int32) x y (by omega)) km_X12_event (sm_this S) pC12 lkM_X12_188 rfl hl.1 rfl (Nat.le_of_ble_eq_true rfl) ⟨Nat.le_of_ble_eq_true rfl, Nat.le_of_ble_eq_true rfl⟩ ⟨Nat.le_of_ble_eq_true rfl, Nat.le_of_ble_eq_true rfl⟩ dX12_point_31) V (fun r2 Zr2 hr2 H locs pr2 _ _ V => ?_)
      obtain ⟨rfl, I, pA_r2, fr2_0, fr2_1, fr2_2, fr2_3⟩ := pr2
      have fr2_3 : (h 137 2).toInt + (0) ≤ (hr2 137 2).toInt ∧ (hr2 137 2).toInt ≤ (h 137 2).toInt + (1) := fr2_3
      have A := A.wk (l3 := [(137, 0), (137, 2), (138, 1000)]) (by decide)
      have A := A.tr pA_r2 (by decide)
      exact pe_i M V rfl rfl hr hlk (pn_z (pi_z (by omega))).1 ⟨rfl, I, A.wk (by decide), by omega, by omega, (fun E9 => fr2_2 E9 (by omega)), (show (h 137 2).toInt + (0) ≤ (hr2 137 2).toInt ∧ (hr2 137 2).toInt ≤ (h 137 2).toInt + (1) by omega)⟩ ⟨Nat.le_refl _, Nat.le_refl _⟩ dX12_point_34
    · skip
      have k_1000 : (1000 : Int32).toInt = 1000 := rfl
      have c_9 := pi_le' c_9
      refine lv_iload_n hx hb dX12_point_12 rfl (lv_at hl 2 rfl) ?_
      refine lv_if_lt (tgt := 27) hx hb dX12_point_13 (by decide) (fun c_13 => ?_) (fun c_13 => ?_)
      · skip
        have c_13 := pi_lt.mp c_13
        refine lv_iconst (v := 0) hx hb dX12_point_27 (by decide) ?_
        refine lv_iconst (v := 0) hx hb dX12_point_28 (by decide) ?_
        refine lv_iload_n hx hb dX12_point_29 rfl (lv_at hl 1 rfl) ?_
        refine lv_iload_n hx hb dX12_point_30 rfl (lv_at hl 2 rfl) ?_
        refine pk_i (pr_V M V (m_X12_event l S I (0 : Int32) (0 : Int32) x y (by omega)) km_X12_event (sm_this S) pC12 lkM_X12_188 rfl hl.1 rfl (Nat.le_of_ble_eq_true rfl) ⟨Nat.le_of_ble_eq_true rfl, Nat.le_of_ble_eq_true rfl⟩ ⟨Nat.le_of_ble_eq_true rfl, Nat.le_of_ble_eq_true rfl⟩ dX12_point_31) V (fun r3 Zr3 hr3 H locs pr3 _ _ V => ?_)
        obtain ⟨rfl, I, pA_r3, fr3_0, fr3_1, fr3_2, fr3_3⟩ := pr3
        have fr3_3 : (h 137 2).toInt + (0) ≤ (hr3 137 2).toInt ∧ (hr3 137 2).toInt ≤ (h 137 2).toInt + (1) := fr3_3
        have A := A.wk (l3 := [(137, 0), (137, 2), (138, 1000)]) (by decide)
        have A := A.tr pA_r3 (by decide)
        exact pe_i M V rfl rfl hr hlk (pn_z (pi_z (by omega))).1 ⟨rfl, I, A.wk (by decide), by omega, by omega, (fun E9 => fr3_2 E9 (by omega)), (show (h 137 2).toInt + (0) ≤ (hr3 137 2).toInt ∧ (hr3 137 2).toInt ≤ (h 137 2).toInt + (1) by omega)⟩ ⟨Nat.le_refl _, Nat.le_refl _⟩ dX12_point_34
      · skip
        have c_13 := pi_lt' c_13
        refine lv_iload_n hx hb dX12_point_16 rfl (lv_at hl 2 rfl) ?_
        refine lv_sipush (v := 1000) hx hb dX12_point_17 (by decide) ?_
        refine lv_icmp_ge (tgt := 27) hx hb dX12_point_20 (by decide) (fun c_20 => ?_) (fun c_20 => ?_)
        · skip
          have c_20 := pi_le.mp c_20
          refine lv_iconst (v := 0) hx hb dX12_point_27 (by decide) ?_
          refine lv_iconst (v := 0) hx hb dX12_point_28 (by decide) ?_
          refine lv_iload_n hx hb dX12_point_29 rfl (lv_at hl 1 rfl) ?_
          refine lv_iload_n hx hb dX12_point_30 rfl (lv_at hl 2 rfl) ?_
          refine pk_i (pr_V M V (m_X12_event l S I (0 : Int32) (0 : Int32) x y (by omega)) km_X12_event (sm_this S) pC12 lkM_X12_188 rfl hl.1 rfl (Nat.le_of_ble_eq_true rfl) ⟨Nat.le_of_ble_eq_true rfl, Nat.le_of_ble_eq_true rfl⟩ ⟨Nat.le_of_ble_eq_true rfl, Nat.le_of_ble_eq_true rfl⟩ dX12_point_31) V (fun r4 Zr4 hr4 H locs pr4 _ _ V => ?_)
          obtain ⟨rfl, I, pA_r4, fr4_0, fr4_1, fr4_2, fr4_3⟩ := pr4
          have fr4_3 : (h 137 2).toInt + (0) ≤ (hr4 137 2).toInt ∧ (hr4 137 2).toInt ≤ (h 137 2).toInt + (1) := fr4_3
          have A := A.wk (l3 := [(137, 0), (137, 2), (138, 1000)]) (by decide)
          have A := A.tr pA_r4 (by decide)
          exact pe_i M V rfl rfl hr hlk (pn_z (pi_z (by omega))).1 ⟨rfl, I, A.wk (by decide), by omega, by omega, (fun E9 => fr4_2 E9 (by omega)), (show (h 137 2).toInt + (0) ≤ (hr4 137 2).toInt ∧ (hr4 137 2).toInt ≤ (h 137 2).toInt + (1) by omega)⟩ ⟨Nat.le_refl _, Nat.le_refl _⟩ dX12_point_34
        · skip
          have c_20 := pi_le' c_20
          refine lv_iconst (v := 1) hx hb dX12_point_23 (by decide) ?_
          refine lv_goto (tgt := 28) hx hb dX12_point_24 (by decide) ?_
          refine lv_iconst (v := 0) hx hb dX12_point_28 (by decide) ?_
          refine lv_iload_n hx hb dX12_point_29 rfl (lv_at hl 1 rfl) ?_
          refine lv_iload_n hx hb dX12_point_30 rfl (lv_at hl 2 rfl) ?_
          have k_1 : (1 : Int32).toInt = 1 := rfl
          refine pk_i (pr_V M V (m_X12_event l S I (1 : Int32) (0 : Int32) x y (by omega)) km_X12_event (sm_this S) pC12 lkM_X12_188 rfl hl.1 rfl (Nat.le_of_ble_eq_true rfl) ⟨Nat.le_of_ble_eq_true rfl, Nat.le_of_ble_eq_true rfl⟩ ⟨Nat.le_of_ble_eq_true rfl, Nat.le_of_ble_eq_true rfl⟩ dX12_point_31) V (fun r5 Zr5 hr5 H locs pr5 _ _ V => ?_)
          obtain ⟨rfl, I, pA_r5, fr5_0, fr5_1, fr5_2, fr5_3⟩ := pr5
          have fr5_3 : (h 137 2).toInt + (0) ≤ (hr5 137 2).toInt ∧ (hr5 137 2).toInt ≤ (h 137 2).toInt + (1) := fr5_3
          have A := A.wk (l3 := [(137, 0), (137, 2), (138, 1000)]) (by decide)
          have A := A.tr pA_r5 (by decide)
          exact pe_i M V rfl rfl hr hlk (pn_z (pi_z (by omega))).1 ⟨rfl, I, A.wk (by decide), by omega, by omega, (fun E9 => fr5_2 E9 (by omega)), (show (h 137 2).toInt + (0) ≤ (hr5 137 2).toInt ∧ (hr5 137 2).toInt ≤ (h 137 2).toInt + (1) by omega)⟩ ⟨Nat.le_refl _, Nat.le_refl _⟩ dX12_point_34
theorem dX12_press_0 : decode cX12_press 0 = .ok (.aload_n 0, 1) := by decide +kernel
theorem dX12_press_1 : decode cX12_press 1 = .ok (.iconst 1, 1) := by decide +kernel
theorem dX12_press_2 : decode cX12_press 2 = .ok (.iconst 1, 1) := by decide +kernel
theorem dX12_press_3 : decode cX12_press 3 = .ok (.iload_n 1, 1) := by decide +kernel
theorem dX12_press_4 : decode cX12_press 4 = .ok (.ifCond .eq 7, 3) := by decide +kernel
theorem dX12_press_7 : decode cX12_press 7 = .ok (.iconst 1, 1) := by decide +kernel
theorem dX12_press_8 : decode cX12_press 8 = .ok (.goto 4, 3) := by decide +kernel
theorem dX12_press_11 : decode cX12_press 11 = .ok (.iconst 0, 1) := by decide +kernel
theorem dX12_press_12 : decode cX12_press 12 = .ok (.iconst 0, 1) := by decide +kernel
theorem dX12_press_13 : decode cX12_press 13 = .ok (.invokevirtual 188, 3) := by decide +kernel
theorem dX12_press_16 : decode cX12_press 16 = .ok (.ireturn, 1) := by decide +kernel
set_option maxHeartbeats 4000000 in
set_option maxRecDepth 100000 in
theorem m_X12_press (l : Launch) {Z : pZ} (S : pSh Z) {h : pH} (I : Iv Z h) (down : Int32)  : pMet l yX12_press cX12_press 2 (some .boolean) 1 0 0 24 Z h [.ref (zB Z + 137), .int down] (pQi Z (fun r Z1 h1 => Z = Z1 ∧ Iv Z h1 ∧ agr [(137, 0), (137, 2), (138, 1000)] h h1 ∧ (r.toInt = 0 ∨ r.toInt = 1) ∧ ((h 137 2).toInt ≤ 63 → r.toInt = 1) ∧ (mE h → mE h1) ∧ ((h 137 2).toInt + (0) ≤ (h1 137 2).toInt ∧ (h1 137 2).toInt ≤ (h 137 2).toInt + (1)))) := by
  refine pOfW (lv := [(0, .ref (zB Z + 137)), (1, .int down)]) (by decide) (Nat.le_of_ble_eq_true rfl) rfl ?_
  intro p e s m below meth c ls M hr hlk hnm V hl
  have hx := M.1.1
  have hb := M.1.2.1
  have A : agr [] h h := agr.rf
  have i_2 : 0 ≤ (h 137 2).toInt ∧ (h 137 2).toInt ≤ 64 := I.get (sm_this S) 2
  refine lv_aload_n hx hb dX12_press_0 rfl (lv_at hl 0 rfl) ?_
  refine lv_iconst (v := 1) hx hb dX12_press_1 (by decide) ?_
  refine lv_iconst (v := 1) hx hb dX12_press_2 (by decide) ?_
  refine lv_iload_n hx hb dX12_press_3 rfl (lv_at hl 1 rfl) ?_
  refine lv_if_eq (tgt := 11) hx hb dX12_press_4 (by decide) (fun c_4 => ?_) (fun c_4 => ?_)
  · skip
    have k_0 : (0 : Int32).toInt = 0 := rfl
    have c_4 := pi_eq.mp c_4
    refine lv_iconst (v := 0) hx hb dX12_press_11 (by decide) ?_
    refine lv_iconst (v := 0) hx hb dX12_press_12 (by decide) ?_
    have k_1 : (1 : Int32).toInt = 1 := rfl
    refine pk_i (pr_V M V (m_X12_event l S I (1 : Int32) (1 : Int32) (0 : Int32) (0 : Int32) (by omega)) km_X12_event (sm_this S) pC12 lkM_X12_188 rfl hl.1 rfl (Nat.le_of_ble_eq_true rfl) ⟨Nat.le_of_ble_eq_true rfl, Nat.le_of_ble_eq_true rfl⟩ ⟨Nat.le_of_ble_eq_true rfl, Nat.le_of_ble_eq_true rfl⟩ dX12_press_13) V (fun r1 Zr1 hr1 H locs pr1 _ _ V => ?_)
    obtain ⟨rfl, I, pA_r1, fr1_0, fr1_1, fr1_2, fr1_3⟩ := pr1
    have fr1_3 : (h 137 2).toInt + (0) ≤ (hr1 137 2).toInt ∧ (hr1 137 2).toInt ≤ (h 137 2).toInt + (1) := fr1_3
    have A := A.wk (l3 := [(137, 0), (137, 2), (138, 1000)]) (by decide)
    have A := A.tr pA_r1 (by decide)
    exact pe_i M V rfl rfl hr hlk (pn_z (pi_z (by omega))).1 ⟨rfl, I, A.wk (by decide), by omega, by omega, (fun E9 => fr1_2 E9 (by omega)), (show (h 137 2).toInt + (0) ≤ (hr1 137 2).toInt ∧ (hr1 137 2).toInt ≤ (h 137 2).toInt + (1) by omega)⟩ ⟨Nat.le_refl _, Nat.le_refl _⟩ dX12_press_16
  · skip
    have k_0 : (0 : Int32).toInt = 0 := rfl
    have c_4 := pi_ne c_4
    refine lv_iconst (v := 1) hx hb dX12_press_7 (by decide) ?_
    refine lv_goto (tgt := 12) hx hb dX12_press_8 (by decide) ?_
    refine lv_iconst (v := 0) hx hb dX12_press_12 (by decide) ?_
    have k_1 : (1 : Int32).toInt = 1 := rfl
    refine pk_i (pr_V M V (m_X12_event l S I (1 : Int32) (1 : Int32) (1 : Int32) (0 : Int32) (by omega)) km_X12_event (sm_this S) pC12 lkM_X12_188 rfl hl.1 rfl (Nat.le_of_ble_eq_true rfl) ⟨Nat.le_of_ble_eq_true rfl, Nat.le_of_ble_eq_true rfl⟩ ⟨Nat.le_of_ble_eq_true rfl, Nat.le_of_ble_eq_true rfl⟩ dX12_press_13) V (fun r2 Zr2 hr2 H locs pr2 _ _ V => ?_)
    obtain ⟨rfl, I, pA_r2, fr2_0, fr2_1, fr2_2, fr2_3⟩ := pr2
    have fr2_3 : (h 137 2).toInt + (0) ≤ (hr2 137 2).toInt ∧ (hr2 137 2).toInt ≤ (h 137 2).toInt + (1) := fr2_3
    have A := A.wk (l3 := [(137, 0), (137, 2), (138, 1000)]) (by decide)
    have A := A.tr pA_r2 (by decide)
    exact pe_i M V rfl rfl hr hlk (pn_z (pi_z (by omega))).1 ⟨rfl, I, A.wk (by decide), by omega, by omega, (fun E9 => fr2_2 E9 (by omega)), (show (h 137 2).toInt + (0) ≤ (hr2 137 2).toInt ∧ (hr2 137 2).toInt ≤ (h 137 2).toInt + (1) by omega)⟩ ⟨Nat.le_refl _, Nat.le_refl _⟩ dX12_press_16
theorem dX12_wheel_0 : decode cX12_wheel 0 = .ok (.aload_n 0, 1) := by decide +kernel
theorem dX12_wheel_1 : decode cX12_wheel 1 = .ok (.iload_n 1, 1) := by decide +kernel
theorem dX12_wheel_2 : decode cX12_wheel 2 = .ok (.bipush (-9), 2) := by decide +kernel
theorem dX12_wheel_4 : decode cX12_wheel 4 = .ok (.if_icmp .lt 13, 3) := by decide +kernel
theorem dX12_wheel_7 : decode cX12_wheel 7 = .ok (.iload_n 1, 1) := by decide +kernel
theorem dX12_wheel_8 : decode cX12_wheel 8 = .ok (.bipush 9, 2) := by decide +kernel
theorem dX12_wheel_10 : decode cX12_wheel 10 = .ok (.if_icmp .gt 7, 3) := by decide +kernel
theorem dX12_wheel_13 : decode cX12_wheel 13 = .ok (.iconst 1, 1) := by decide +kernel
theorem dX12_wheel_14 : decode cX12_wheel 14 = .ok (.goto 4, 3) := by decide +kernel
theorem dX12_wheel_17 : decode cX12_wheel 17 = .ok (.iconst 0, 1) := by decide +kernel
theorem dX12_wheel_18 : decode cX12_wheel 18 = .ok (.iconst 2, 1) := by decide +kernel
theorem dX12_wheel_19 : decode cX12_wheel 19 = .ok (.iload_n 1, 1) := by decide +kernel
theorem dX12_wheel_20 : decode cX12_wheel 20 = .ok (.iconst 0, 1) := by decide +kernel
theorem dX12_wheel_21 : decode cX12_wheel 21 = .ok (.invokevirtual 188, 3) := by decide +kernel
theorem dX12_wheel_24 : decode cX12_wheel 24 = .ok (.ireturn, 1) := by decide +kernel
set_option maxHeartbeats 4000000 in
set_option maxRecDepth 100000 in
theorem m_X12_wheel (l : Launch) {Z : pZ} (S : pSh Z) {h : pH} (I : Iv Z h) (n : Int32)  : pMet l yX12_wheel cX12_wheel 2 (some .boolean) 1 0 0 24 Z h [.ref (zB Z + 137), .int n] (pQi Z (fun r Z1 h1 => Z = Z1 ∧ Iv Z h1 ∧ agr [(137, 0), (137, 2), (138, 1000)] h h1 ∧ (r.toInt = 0 ∨ r.toInt = 1) ∧ ((h 137 2).toInt ≤ 63 → (r.toInt = 1 ↔ (-9 ≤ n.toInt ∧ n.toInt ≤ 9))) ∧ (mE h → mE h1) ∧ ((h 137 2).toInt + (0) ≤ (h1 137 2).toInt ∧ (h1 137 2).toInt ≤ (h 137 2).toInt + (1)))) := by
  refine pOfW (lv := [(0, .ref (zB Z + 137)), (1, .int n)]) (by decide) (Nat.le_of_ble_eq_true rfl) rfl ?_
  intro p e s m below meth c ls M hr hlk hnm V hl
  have hx := M.1.1
  have hb := M.1.2.1
  have A : agr [] h h := agr.rf
  have i_2 : 0 ≤ (h 137 2).toInt ∧ (h 137 2).toInt ≤ 64 := I.get (sm_this S) 2
  refine lv_aload_n hx hb dX12_wheel_0 rfl (lv_at hl 0 rfl) ?_
  refine lv_iload_n hx hb dX12_wheel_1 rfl (lv_at hl 1 rfl) ?_
  refine lv_bipush (v := (-9)) hx hb dX12_wheel_2 (by decide) ?_
  refine lv_icmp_lt (tgt := 17) hx hb dX12_wheel_4 (by decide) (fun c_4 => ?_) (fun c_4 => ?_)
  · skip
    have k_m9 : (-9 : Int32).toInt = -9 := rfl
    have c_4 := pi_lt.mp c_4
    refine lv_iconst (v := 0) hx hb dX12_wheel_17 (by decide) ?_
    refine lv_iconst (v := 2) hx hb dX12_wheel_18 (by decide) ?_
    refine lv_iload_n hx hb dX12_wheel_19 rfl (lv_at hl 1 rfl) ?_
    refine lv_iconst (v := 0) hx hb dX12_wheel_20 (by decide) ?_
    have k_0 : (0 : Int32).toInt = 0 := rfl
    have k_2 : (2 : Int32).toInt = 2 := rfl
    refine pk_i (pr_V M V (m_X12_event l S I (0 : Int32) (2 : Int32) n (0 : Int32) (by omega)) km_X12_event (sm_this S) pC12 lkM_X12_188 rfl hl.1 rfl (Nat.le_of_ble_eq_true rfl) ⟨Nat.le_of_ble_eq_true rfl, Nat.le_of_ble_eq_true rfl⟩ ⟨Nat.le_of_ble_eq_true rfl, Nat.le_of_ble_eq_true rfl⟩ dX12_wheel_21) V (fun r1 Zr1 hr1 H locs pr1 _ _ V => ?_)
    obtain ⟨rfl, I, pA_r1, fr1_0, fr1_1, fr1_2, fr1_3⟩ := pr1
    have fr1_3 : (h 137 2).toInt + (0) ≤ (hr1 137 2).toInt ∧ (hr1 137 2).toInt ≤ (h 137 2).toInt + (1) := fr1_3
    have A := A.wk (l3 := [(137, 0), (137, 2), (138, 1000)]) (by decide)
    have A := A.tr pA_r1 (by decide)
    exact pe_i M V rfl rfl hr hlk (pn_z (pi_z (by omega))).1 ⟨rfl, I, A.wk (by decide), by omega, by omega, (fun E9 => fr1_2 E9 (by omega)), (show (h 137 2).toInt + (0) ≤ (hr1 137 2).toInt ∧ (hr1 137 2).toInt ≤ (h 137 2).toInt + (1) by omega)⟩ ⟨Nat.le_refl _, Nat.le_refl _⟩ dX12_wheel_24
  · skip
    have k_m9 : (-9 : Int32).toInt = -9 := rfl
    have c_4 := pi_lt' c_4
    refine lv_iload_n hx hb dX12_wheel_7 rfl (lv_at hl 1 rfl) ?_
    refine lv_bipush (v := 9) hx hb dX12_wheel_8 (by decide) ?_
    refine lv_icmp_gt (tgt := 17) hx hb dX12_wheel_10 (by decide) (fun c_10 => ?_) (fun c_10 => ?_)
    · skip
      have k_9 : (9 : Int32).toInt = 9 := rfl
      have c_10 := pi_lt.mp c_10
      refine lv_iconst (v := 0) hx hb dX12_wheel_17 (by decide) ?_
      refine lv_iconst (v := 2) hx hb dX12_wheel_18 (by decide) ?_
      refine lv_iload_n hx hb dX12_wheel_19 rfl (lv_at hl 1 rfl) ?_
      refine lv_iconst (v := 0) hx hb dX12_wheel_20 (by decide) ?_
      have k_0 : (0 : Int32).toInt = 0 := rfl
      have k_2 : (2 : Int32).toInt = 2 := rfl
      refine pk_i (pr_V M V (m_X12_event l S I (0 : Int32) (2 : Int32) n (0 : Int32) (by omega)) km_X12_event (sm_this S) pC12 lkM_X12_188 rfl hl.1 rfl (Nat.le_of_ble_eq_true rfl) ⟨Nat.le_of_ble_eq_true rfl, Nat.le_of_ble_eq_true rfl⟩ ⟨Nat.le_of_ble_eq_true rfl, Nat.le_of_ble_eq_true rfl⟩ dX12_wheel_21) V (fun r2 Zr2 hr2 H locs pr2 _ _ V => ?_)
      obtain ⟨rfl, I, pA_r2, fr2_0, fr2_1, fr2_2, fr2_3⟩ := pr2
      have fr2_3 : (h 137 2).toInt + (0) ≤ (hr2 137 2).toInt ∧ (hr2 137 2).toInt ≤ (h 137 2).toInt + (1) := fr2_3
      have A := A.wk (l3 := [(137, 0), (137, 2), (138, 1000)]) (by decide)
      have A := A.tr pA_r2 (by decide)
      exact pe_i M V rfl rfl hr hlk (pn_z (pi_z (by omega))).1 ⟨rfl, I, A.wk (by decide), by omega, by omega, (fun E9 => fr2_2 E9 (by omega)), (show (h 137 2).toInt + (0) ≤ (hr2 137 2).toInt ∧ (hr2 137 2).toInt ≤ (h 137 2).toInt + (1) by omega)⟩ ⟨Nat.le_refl _, Nat.le_refl _⟩ dX12_wheel_24
    · skip
      have k_9 : (9 : Int32).toInt = 9 := rfl
      have c_10 := pi_lt' c_10
      refine lv_iconst (v := 1) hx hb dX12_wheel_13 (by decide) ?_
      refine lv_goto (tgt := 18) hx hb dX12_wheel_14 (by decide) ?_
      refine lv_iconst (v := 2) hx hb dX12_wheel_18 (by decide) ?_
      refine lv_iload_n hx hb dX12_wheel_19 rfl (lv_at hl 1 rfl) ?_
      refine lv_iconst (v := 0) hx hb dX12_wheel_20 (by decide) ?_
      have k_1 : (1 : Int32).toInt = 1 := rfl
      have k_2 : (2 : Int32).toInt = 2 := rfl
      refine pk_i (pr_V M V (m_X12_event l S I (1 : Int32) (2 : Int32) n (0 : Int32) (by omega)) km_X12_event (sm_this S) pC12 lkM_X12_188 rfl hl.1 rfl (Nat.le_of_ble_eq_true rfl) ⟨Nat.le_of_ble_eq_true rfl, Nat.le_of_ble_eq_true rfl⟩ ⟨Nat.le_of_ble_eq_true rfl, Nat.le_of_ble_eq_true rfl⟩ dX12_wheel_21) V (fun r3 Zr3 hr3 H locs pr3 _ _ V => ?_)
      obtain ⟨rfl, I, pA_r3, fr3_0, fr3_1, fr3_2, fr3_3⟩ := pr3
      have fr3_3 : (h 137 2).toInt + (0) ≤ (hr3 137 2).toInt ∧ (hr3 137 2).toInt ≤ (h 137 2).toInt + (1) := fr3_3
      have A := A.wk (l3 := [(137, 0), (137, 2), (138, 1000)]) (by decide)
      have A := A.tr pA_r3 (by decide)
      exact pe_i M V rfl rfl hr hlk (pn_z (pi_z (by omega))).1 ⟨rfl, I, A.wk (by decide), by omega, by omega, (fun E9 => fr3_2 E9 (by omega)), (show (h 137 2).toInt + (0) ≤ (hr3 137 2).toInt ∧ (hr3 137 2).toInt ≤ (h 137 2).toInt + (1) by omega)⟩ ⟨Nat.le_refl _, Nat.le_refl _⟩ dX12_wheel_24
theorem dX12_key_0 : decode cX12_key 0 = .ok (.aload_n 0, 1) := by decide +kernel
theorem dX12_key_1 : decode cX12_key 1 = .ok (.iload_n 1, 1) := by decide +kernel
theorem dX12_key_2 : decode cX12_key 2 = .ok (.ifCond .lt 13, 3) := by decide +kernel
theorem dX12_key_5 : decode cX12_key 5 = .ok (.iload_n 1, 1) := by decide +kernel
theorem dX12_key_6 : decode cX12_key 6 = .ok (.bipush 6, 2) := by decide +kernel
theorem dX12_key_8 : decode cX12_key 8 = .ok (.if_icmp .ge 7, 3) := by decide +kernel
theorem dX12_key_11 : decode cX12_key 11 = .ok (.iconst 1, 1) := by decide +kernel
theorem dX12_key_12 : decode cX12_key 12 = .ok (.goto 4, 3) := by decide +kernel
theorem dX12_key_15 : decode cX12_key 15 = .ok (.iconst 0, 1) := by decide +kernel
theorem dX12_key_16 : decode cX12_key 16 = .ok (.iconst 3, 1) := by decide +kernel
theorem dX12_key_17 : decode cX12_key 17 = .ok (.iload_n 1, 1) := by decide +kernel
theorem dX12_key_18 : decode cX12_key 18 = .ok (.iload_n 2, 1) := by decide +kernel
theorem dX12_key_19 : decode cX12_key 19 = .ok (.ifCond .eq 7, 3) := by decide +kernel
theorem dX12_key_22 : decode cX12_key 22 = .ok (.iconst 1, 1) := by decide +kernel
theorem dX12_key_23 : decode cX12_key 23 = .ok (.goto 4, 3) := by decide +kernel
theorem dX12_key_26 : decode cX12_key 26 = .ok (.iconst 0, 1) := by decide +kernel
theorem dX12_key_27 : decode cX12_key 27 = .ok (.invokevirtual 188, 3) := by decide +kernel
theorem dX12_key_30 : decode cX12_key 30 = .ok (.ireturn, 1) := by decide +kernel
set_option maxHeartbeats 4000000 in
set_option maxRecDepth 100000 in
theorem m_X12_key (l : Launch) {Z : pZ} (S : pSh Z) {h : pH} (I : Iv Z h) (key : Int32) (down : Int32)  : pMet l yX12_key cX12_key 3 (some .boolean) 1 0 0 24 Z h [.ref (zB Z + 137), .int key, .int down] (pQi Z (fun r Z1 h1 => Z = Z1 ∧ Iv Z h1 ∧ agr [(137, 0), (137, 2), (138, 1000)] h h1 ∧ (r.toInt = 0 ∨ r.toInt = 1) ∧ ((h 137 2).toInt ≤ 63 → (r.toInt = 1 ↔ (0 ≤ key.toInt ∧ key.toInt ≤ 5))) ∧ (mE h → mE h1) ∧ ((h 137 2).toInt + (0) ≤ (h1 137 2).toInt ∧ (h1 137 2).toInt ≤ (h 137 2).toInt + (1)))) := by
  refine pOfW (lv := [(0, .ref (zB Z + 137)), (1, .int key), (2, .int down)]) (by decide) (Nat.le_of_ble_eq_true rfl) rfl ?_
  intro p e s m below meth c ls M hr hlk hnm V hl
  have hx := M.1.1
  have hb := M.1.2.1
  have A : agr [] h h := agr.rf
  have i_2 : 0 ≤ (h 137 2).toInt ∧ (h 137 2).toInt ≤ 64 := I.get (sm_this S) 2
  refine lv_aload_n hx hb dX12_key_0 rfl (lv_at hl 0 rfl) ?_
  refine lv_iload_n hx hb dX12_key_1 rfl (lv_at hl 1 rfl) ?_
  refine lv_if_lt (tgt := 15) hx hb dX12_key_2 (by decide) (fun c_2 => ?_) (fun c_2 => ?_)
  · skip
    have k_0 : (0 : Int32).toInt = 0 := rfl
    have c_2 := pi_lt.mp c_2
    refine lv_iconst (v := 0) hx hb dX12_key_15 (by decide) ?_
    refine lv_iconst (v := 3) hx hb dX12_key_16 (by decide) ?_
    refine lv_iload_n hx hb dX12_key_17 rfl (lv_at hl 1 rfl) ?_
    refine lv_iload_n hx hb dX12_key_18 rfl (lv_at hl 2 rfl) ?_
    refine lv_if_eq (tgt := 26) hx hb dX12_key_19 (by decide) (fun c_19 => ?_) (fun c_19 => ?_)
    · skip
      have c_19 := pi_eq.mp c_19
      refine lv_iconst (v := 0) hx hb dX12_key_26 (by decide) ?_
      have k_3 : (3 : Int32).toInt = 3 := rfl
      refine pk_i (pr_V M V (m_X12_event l S I (0 : Int32) (3 : Int32) key (0 : Int32) (by omega)) km_X12_event (sm_this S) pC12 lkM_X12_188 rfl hl.1 rfl (Nat.le_of_ble_eq_true rfl) ⟨Nat.le_of_ble_eq_true rfl, Nat.le_of_ble_eq_true rfl⟩ ⟨Nat.le_of_ble_eq_true rfl, Nat.le_of_ble_eq_true rfl⟩ dX12_key_27) V (fun r1 Zr1 hr1 H locs pr1 _ _ V => ?_)
      obtain ⟨rfl, I, pA_r1, fr1_0, fr1_1, fr1_2, fr1_3⟩ := pr1
      have fr1_3 : (h 137 2).toInt + (0) ≤ (hr1 137 2).toInt ∧ (hr1 137 2).toInt ≤ (h 137 2).toInt + (1) := fr1_3
      have A := A.wk (l3 := [(137, 0), (137, 2), (138, 1000)]) (by decide)
      have A := A.tr pA_r1 (by decide)
      exact pe_i M V rfl rfl hr hlk (pn_z (pi_z (by omega))).1 ⟨rfl, I, A.wk (by decide), by omega, by omega, (fun E9 => fr1_2 E9 (by omega)), (show (h 137 2).toInt + (0) ≤ (hr1 137 2).toInt ∧ (hr1 137 2).toInt ≤ (h 137 2).toInt + (1) by omega)⟩ ⟨Nat.le_refl _, Nat.le_refl _⟩ dX12_key_30
    · skip
      have c_19 := pi_ne c_19
      refine lv_iconst (v := 1) hx hb dX12_key_22 (by decide) ?_
      refine lv_goto (tgt := 27) hx hb dX12_key_23 (by decide) ?_
      have k_3 : (3 : Int32).toInt = 3 := rfl
      refine pk_i (pr_V M V (m_X12_event l S I (0 : Int32) (3 : Int32) key (1 : Int32) (by omega)) km_X12_event (sm_this S) pC12 lkM_X12_188 rfl hl.1 rfl (Nat.le_of_ble_eq_true rfl) ⟨Nat.le_of_ble_eq_true rfl, Nat.le_of_ble_eq_true rfl⟩ ⟨Nat.le_of_ble_eq_true rfl, Nat.le_of_ble_eq_true rfl⟩ dX12_key_27) V (fun r2 Zr2 hr2 H locs pr2 _ _ V => ?_)
      obtain ⟨rfl, I, pA_r2, fr2_0, fr2_1, fr2_2, fr2_3⟩ := pr2
      have fr2_3 : (h 137 2).toInt + (0) ≤ (hr2 137 2).toInt ∧ (hr2 137 2).toInt ≤ (h 137 2).toInt + (1) := fr2_3
      have A := A.wk (l3 := [(137, 0), (137, 2), (138, 1000)]) (by decide)
      have A := A.tr pA_r2 (by decide)
      exact pe_i M V rfl rfl hr hlk (pn_z (pi_z (by omega))).1 ⟨rfl, I, A.wk (by decide), by omega, by omega, (fun E9 => fr2_2 E9 (by omega)), (show (h 137 2).toInt + (0) ≤ (hr2 137 2).toInt ∧ (hr2 137 2).toInt ≤ (h 137 2).toInt + (1) by omega)⟩ ⟨Nat.le_refl _, Nat.le_refl _⟩ dX12_key_30
  · skip
    have k_0 : (0 : Int32).toInt = 0 := rfl
    have c_2 := pi_lt' c_2
    refine lv_iload_n hx hb dX12_key_5 rfl (lv_at hl 1 rfl) ?_
    refine lv_bipush (v := 6) hx hb dX12_key_6 (by decide) ?_
    refine lv_icmp_ge (tgt := 15) hx hb dX12_key_8 (by decide) (fun c_8 => ?_) (fun c_8 => ?_)
    · skip
      have k_6 : (6 : Int32).toInt = 6 := rfl
      have c_8 := pi_le.mp c_8
      refine lv_iconst (v := 0) hx hb dX12_key_15 (by decide) ?_
      refine lv_iconst (v := 3) hx hb dX12_key_16 (by decide) ?_
      refine lv_iload_n hx hb dX12_key_17 rfl (lv_at hl 1 rfl) ?_
      refine lv_iload_n hx hb dX12_key_18 rfl (lv_at hl 2 rfl) ?_
      refine lv_if_eq (tgt := 26) hx hb dX12_key_19 (by decide) (fun c_19 => ?_) (fun c_19 => ?_)
      · skip
        have c_19 := pi_eq.mp c_19
        refine lv_iconst (v := 0) hx hb dX12_key_26 (by decide) ?_
        have k_3 : (3 : Int32).toInt = 3 := rfl
        refine pk_i (pr_V M V (m_X12_event l S I (0 : Int32) (3 : Int32) key (0 : Int32) (by omega)) km_X12_event (sm_this S) pC12 lkM_X12_188 rfl hl.1 rfl (Nat.le_of_ble_eq_true rfl) ⟨Nat.le_of_ble_eq_true rfl, Nat.le_of_ble_eq_true rfl⟩ ⟨Nat.le_of_ble_eq_true rfl, Nat.le_of_ble_eq_true rfl⟩ dX12_key_27) V (fun r3 Zr3 hr3 H locs pr3 _ _ V => ?_)
        obtain ⟨rfl, I, pA_r3, fr3_0, fr3_1, fr3_2, fr3_3⟩ := pr3
        have fr3_3 : (h 137 2).toInt + (0) ≤ (hr3 137 2).toInt ∧ (hr3 137 2).toInt ≤ (h 137 2).toInt + (1) := fr3_3
        have A := A.wk (l3 := [(137, 0), (137, 2), (138, 1000)]) (by decide)
        have A := A.tr pA_r3 (by decide)
        exact pe_i M V rfl rfl hr hlk (pn_z (pi_z (by omega))).1 ⟨rfl, I, A.wk (by decide), by omega, by omega, (fun E9 => fr3_2 E9 (by omega)), (show (h 137 2).toInt + (0) ≤ (hr3 137 2).toInt ∧ (hr3 137 2).toInt ≤ (h 137 2).toInt + (1) by omega)⟩ ⟨Nat.le_refl _, Nat.le_refl _⟩ dX12_key_30
      · skip
        have c_19 := pi_ne c_19
        refine lv_iconst (v := 1) hx hb dX12_key_22 (by decide) ?_
        refine lv_goto (tgt := 27) hx hb dX12_key_23 (by decide) ?_
        have k_3 : (3 : Int32).toInt = 3 := rfl
        refine pk_i (pr_V M V (m_X12_event l S I (0 : Int32) (3 : Int32) key (1 : Int32) (by omega)) km_X12_event (sm_this S) pC12 lkM_X12_188 rfl hl.1 rfl (Nat.le_of_ble_eq_true rfl) ⟨Nat.le_of_ble_eq_true rfl, Nat.le_of_ble_eq_true rfl⟩ ⟨Nat.le_of_ble_eq_true rfl, Nat.le_of_ble_eq_true rfl⟩ dX12_key_27) V (fun r4 Zr4 hr4 H locs pr4 _ _ V => ?_)
        obtain ⟨rfl, I, pA_r4, fr4_0, fr4_1, fr4_2, fr4_3⟩ := pr4
        have fr4_3 : (h 137 2).toInt + (0) ≤ (hr4 137 2).toInt ∧ (hr4 137 2).toInt ≤ (h 137 2).toInt + (1) := fr4_3
        have A := A.wk (l3 := [(137, 0), (137, 2), (138, 1000)]) (by decide)
        have A := A.tr pA_r4 (by decide)
        exact pe_i M V rfl rfl hr hlk (pn_z (pi_z (by omega))).1 ⟨rfl, I, A.wk (by decide), by omega, by omega, (fun E9 => fr4_2 E9 (by omega)), (show (h 137 2).toInt + (0) ≤ (hr4 137 2).toInt ∧ (hr4 137 2).toInt ≤ (h 137 2).toInt + (1) by omega)⟩ ⟨Nat.le_refl _, Nat.le_refl _⟩ dX12_key_30
    · skip
      have k_6 : (6 : Int32).toInt = 6 := rfl
      have c_8 := pi_le' c_8
      refine lv_iconst (v := 1) hx hb dX12_key_11 (by decide) ?_
      refine lv_goto (tgt := 16) hx hb dX12_key_12 (by decide) ?_
      refine lv_iconst (v := 3) hx hb dX12_key_16 (by decide) ?_
      refine lv_iload_n hx hb dX12_key_17 rfl (lv_at hl 1 rfl) ?_
      refine lv_iload_n hx hb dX12_key_18 rfl (lv_at hl 2 rfl) ?_
      refine lv_if_eq (tgt := 26) hx hb dX12_key_19 (by decide) (fun c_19 => ?_) (fun c_19 => ?_)
      · skip
        have c_19 := pi_eq.mp c_19
        refine lv_iconst (v := 0) hx hb dX12_key_26 (by decide) ?_
        have k_1 : (1 : Int32).toInt = 1 := rfl
        have k_3 : (3 : Int32).toInt = 3 := rfl
        refine pk_i (pr_V M V (m_X12_event l S I (1 : Int32) (3 : Int32) key (0 : Int32) (by omega)) km_X12_event (sm_this S) pC12 lkM_X12_188 rfl hl.1 rfl (Nat.le_of_ble_eq_true rfl) ⟨Nat.le_of_ble_eq_true rfl, Nat.le_of_ble_eq_true rfl⟩ ⟨Nat.le_of_ble_eq_true rfl, Nat.le_of_ble_eq_true rfl⟩ dX12_key_27) V (fun r5 Zr5 hr5 H locs pr5 _ _ V => ?_)
        obtain ⟨rfl, I, pA_r5, fr5_0, fr5_1, fr5_2, fr5_3⟩ := pr5
        have fr5_3 : (h 137 2).toInt + (0) ≤ (hr5 137 2).toInt ∧ (hr5 137 2).toInt ≤ (h 137 2).toInt + (1) := fr5_3
        have A := A.wk (l3 := [(137, 0), (137, 2), (138, 1000)]) (by decide)
        have A := A.tr pA_r5 (by decide)
        exact pe_i M V rfl rfl hr hlk (pn_z (pi_z (by omega))).1 ⟨rfl, I, A.wk (by decide), by omega, by omega, (fun E9 => fr5_2 E9 (by omega)), (show (h 137 2).toInt + (0) ≤ (hr5 137 2).toInt ∧ (hr5 137 2).toInt ≤ (h 137 2).toInt + (1) by omega)⟩ ⟨Nat.le_refl _, Nat.le_refl _⟩ dX12_key_30
      · skip
        have c_19 := pi_ne c_19
        refine lv_iconst (v := 1) hx hb dX12_key_22 (by decide) ?_
        refine lv_goto (tgt := 27) hx hb dX12_key_23 (by decide) ?_
        have k_1 : (1 : Int32).toInt = 1 := rfl
        have k_3 : (3 : Int32).toInt = 3 := rfl
        refine pk_i (pr_V M V (m_X12_event l S I (1 : Int32) (3 : Int32) key (1 : Int32) (by omega)) km_X12_event (sm_this S) pC12 lkM_X12_188 rfl hl.1 rfl (Nat.le_of_ble_eq_true rfl) ⟨Nat.le_of_ble_eq_true rfl, Nat.le_of_ble_eq_true rfl⟩ ⟨Nat.le_of_ble_eq_true rfl, Nat.le_of_ble_eq_true rfl⟩ dX12_key_27) V (fun r6 Zr6 hr6 H locs pr6 _ _ V => ?_)
        obtain ⟨rfl, I, pA_r6, fr6_0, fr6_1, fr6_2, fr6_3⟩ := pr6
        have fr6_3 : (h 137 2).toInt + (0) ≤ (hr6 137 2).toInt ∧ (hr6 137 2).toInt ≤ (h 137 2).toInt + (1) := fr6_3
        have A := A.wk (l3 := [(137, 0), (137, 2), (138, 1000)]) (by decide)
        have A := A.tr pA_r6 (by decide)
        exact pe_i M V rfl rfl hr hlk (pn_z (pi_z (by omega))).1 ⟨rfl, I, A.wk (by decide), by omega, by omega, (fun E9 => fr6_2 E9 (by omega)), (show (h 137 2).toInt + (0) ≤ (hr6 137 2).toInt ∧ (hr6 137 2).toInt ≤ (h 137 2).toInt + (1) by omega)⟩ ⟨Nat.le_refl _, Nat.le_refl _⟩ dX12_key_30
theorem dX12_letter_0 : decode cX12_letter 0 = .ok (.aload_n 0, 1) := by decide +kernel
theorem dX12_letter_1 : decode cX12_letter 1 = .ok (.iload_n 1, 1) := by decide +kernel
theorem dX12_letter_2 : decode cX12_letter 2 = .ok (.bipush 32, 2) := by decide +kernel
theorem dX12_letter_4 : decode cX12_letter 4 = .ok (.if_icmp .lt 13, 3) := by decide +kernel
theorem dX12_letter_7 : decode cX12_letter 7 = .ok (.iload_n 1, 1) := by decide +kernel
theorem dX12_letter_8 : decode cX12_letter 8 = .ok (.bipush 126, 2) := by decide +kernel
theorem dX12_letter_10 : decode cX12_letter 10 = .ok (.if_icmp .gt 7, 3) := by decide +kernel
theorem dX12_letter_13 : decode cX12_letter 13 = .ok (.iconst 1, 1) := by decide +kernel
theorem dX12_letter_14 : decode cX12_letter 14 = .ok (.goto 4, 3) := by decide +kernel
theorem dX12_letter_17 : decode cX12_letter 17 = .ok (.iconst 0, 1) := by decide +kernel
theorem dX12_letter_18 : decode cX12_letter 18 = .ok (.iconst 4, 1) := by decide +kernel
theorem dX12_letter_19 : decode cX12_letter 19 = .ok (.iload_n 1, 1) := by decide +kernel
theorem dX12_letter_20 : decode cX12_letter 20 = .ok (.iconst 0, 1) := by decide +kernel
theorem dX12_letter_21 : decode cX12_letter 21 = .ok (.invokevirtual 188, 3) := by decide +kernel
theorem dX12_letter_24 : decode cX12_letter 24 = .ok (.ireturn, 1) := by decide +kernel
set_option maxHeartbeats 4000000 in
set_option maxRecDepth 100000 in
theorem m_X12_letter (l : Launch) {Z : pZ} (S : pSh Z) {h : pH} (I : Iv Z h) (ch : Int32)  : pMet l yX12_letter cX12_letter 2 (some .boolean) 1 0 0 24 Z h [.ref (zB Z + 137), .int ch] (pQi Z (fun r Z1 h1 => Z = Z1 ∧ Iv Z h1 ∧ agr [(137, 0), (137, 2), (138, 1000)] h h1 ∧ (r.toInt = 0 ∨ r.toInt = 1) ∧ ((h 137 2).toInt ≤ 63 → (r.toInt = 1 ↔ (32 ≤ ch.toInt ∧ ch.toInt ≤ 126))) ∧ (mE h → mE h1) ∧ ((h 137 2).toInt + (0) ≤ (h1 137 2).toInt ∧ (h1 137 2).toInt ≤ (h 137 2).toInt + (1)))) := by
  refine pOfW (lv := [(0, .ref (zB Z + 137)), (1, .int ch)]) (by decide) (Nat.le_of_ble_eq_true rfl) rfl ?_
  intro p e s m below meth c ls M hr hlk hnm V hl
  have hx := M.1.1
  have hb := M.1.2.1
  have A : agr [] h h := agr.rf
  have i_2 : 0 ≤ (h 137 2).toInt ∧ (h 137 2).toInt ≤ 64 := I.get (sm_this S) 2
  refine lv_aload_n hx hb dX12_letter_0 rfl (lv_at hl 0 rfl) ?_
  refine lv_iload_n hx hb dX12_letter_1 rfl (lv_at hl 1 rfl) ?_
  refine lv_bipush (v := 32) hx hb dX12_letter_2 (by decide) ?_
  refine lv_icmp_lt (tgt := 17) hx hb dX12_letter_4 (by decide) (fun c_4 => ?_) (fun c_4 => ?_)
  · skip
    have k_32 : (32 : Int32).toInt = 32 := rfl
    have c_4 := pi_lt.mp c_4
    refine lv_iconst (v := 0) hx hb dX12_letter_17 (by decide) ?_
    refine lv_iconst (v := 4) hx hb dX12_letter_18 (by decide) ?_
    refine lv_iload_n hx hb dX12_letter_19 rfl (lv_at hl 1 rfl) ?_
    refine lv_iconst (v := 0) hx hb dX12_letter_20 (by decide) ?_
    have k_0 : (0 : Int32).toInt = 0 := rfl
    have k_4 : (4 : Int32).toInt = 4 := rfl
    refine pk_i (pr_V M V (m_X12_event l S I (0 : Int32) (4 : Int32) ch (0 : Int32) (by omega)) km_X12_event (sm_this S) pC12 lkM_X12_188 rfl hl.1 rfl (Nat.le_of_ble_eq_true rfl) ⟨Nat.le_of_ble_eq_true rfl, Nat.le_of_ble_eq_true rfl⟩ ⟨Nat.le_of_ble_eq_true rfl, Nat.le_of_ble_eq_true rfl⟩ dX12_letter_21) V (fun r1 Zr1 hr1 H locs pr1 _ _ V => ?_)
    obtain ⟨rfl, I, pA_r1, fr1_0, fr1_1, fr1_2, fr1_3⟩ := pr1
    have fr1_3 : (h 137 2).toInt + (0) ≤ (hr1 137 2).toInt ∧ (hr1 137 2).toInt ≤ (h 137 2).toInt + (1) := fr1_3
    have A := A.wk (l3 := [(137, 0), (137, 2), (138, 1000)]) (by decide)
    have A := A.tr pA_r1 (by decide)
    exact pe_i M V rfl rfl hr hlk (pn_z (pi_z (by omega))).1 ⟨rfl, I, A.wk (by decide), by omega, by omega, (fun E9 => fr1_2 E9 (by omega)), (show (h 137 2).toInt + (0) ≤ (hr1 137 2).toInt ∧ (hr1 137 2).toInt ≤ (h 137 2).toInt + (1) by omega)⟩ ⟨Nat.le_refl _, Nat.le_refl _⟩ dX12_letter_24
  · skip
    have k_32 : (32 : Int32).toInt = 32 := rfl
    have c_4 := pi_lt' c_4
    refine lv_iload_n hx hb dX12_letter_7 rfl (lv_at hl 1 rfl) ?_
    refine lv_bipush (v := 126) hx hb dX12_letter_8 (by decide) ?_
    refine lv_icmp_gt (tgt := 17) hx hb dX12_letter_10 (by decide) (fun c_10 => ?_) (fun c_10 => ?_)
    · skip
      have k_126 : (126 : Int32).toInt = 126 := rfl
      have c_10 := pi_lt.mp c_10
      refine lv_iconst (v := 0) hx hb dX12_letter_17 (by decide) ?_
      refine lv_iconst (v := 4) hx hb dX12_letter_18 (by decide) ?_
      refine lv_iload_n hx hb dX12_letter_19 rfl (lv_at hl 1 rfl) ?_
      refine lv_iconst (v := 0) hx hb dX12_letter_20 (by decide) ?_
      have k_0 : (0 : Int32).toInt = 0 := rfl
      have k_4 : (4 : Int32).toInt = 4 := rfl
      refine pk_i (pr_V M V (m_X12_event l S I (0 : Int32) (4 : Int32) ch (0 : Int32) (by omega)) km_X12_event (sm_this S) pC12 lkM_X12_188 rfl hl.1 rfl (Nat.le_of_ble_eq_true rfl) ⟨Nat.le_of_ble_eq_true rfl, Nat.le_of_ble_eq_true rfl⟩ ⟨Nat.le_of_ble_eq_true rfl, Nat.le_of_ble_eq_true rfl⟩ dX12_letter_21) V (fun r2 Zr2 hr2 H locs pr2 _ _ V => ?_)
      obtain ⟨rfl, I, pA_r2, fr2_0, fr2_1, fr2_2, fr2_3⟩ := pr2
      have fr2_3 : (h 137 2).toInt + (0) ≤ (hr2 137 2).toInt ∧ (hr2 137 2).toInt ≤ (h 137 2).toInt + (1) := fr2_3
      have A := A.wk (l3 := [(137, 0), (137, 2), (138, 1000)]) (by decide)
      have A := A.tr pA_r2 (by decide)
      exact pe_i M V rfl rfl hr hlk (pn_z (pi_z (by omega))).1 ⟨rfl, I, A.wk (by decide), by omega, by omega, (fun E9 => fr2_2 E9 (by omega)), (show (h 137 2).toInt + (0) ≤ (hr2 137 2).toInt ∧ (hr2 137 2).toInt ≤ (h 137 2).toInt + (1) by omega)⟩ ⟨Nat.le_refl _, Nat.le_refl _⟩ dX12_letter_24
    · skip
      have k_126 : (126 : Int32).toInt = 126 := rfl
      have c_10 := pi_lt' c_10
      refine lv_iconst (v := 1) hx hb dX12_letter_13 (by decide) ?_
      refine lv_goto (tgt := 18) hx hb dX12_letter_14 (by decide) ?_
      refine lv_iconst (v := 4) hx hb dX12_letter_18 (by decide) ?_
      refine lv_iload_n hx hb dX12_letter_19 rfl (lv_at hl 1 rfl) ?_
      refine lv_iconst (v := 0) hx hb dX12_letter_20 (by decide) ?_
      have k_1 : (1 : Int32).toInt = 1 := rfl
      have k_4 : (4 : Int32).toInt = 4 := rfl
      refine pk_i (pr_V M V (m_X12_event l S I (1 : Int32) (4 : Int32) ch (0 : Int32) (by omega)) km_X12_event (sm_this S) pC12 lkM_X12_188 rfl hl.1 rfl (Nat.le_of_ble_eq_true rfl) ⟨Nat.le_of_ble_eq_true rfl, Nat.le_of_ble_eq_true rfl⟩ ⟨Nat.le_of_ble_eq_true rfl, Nat.le_of_ble_eq_true rfl⟩ dX12_letter_21) V (fun r3 Zr3 hr3 H locs pr3 _ _ V => ?_)
      obtain ⟨rfl, I, pA_r3, fr3_0, fr3_1, fr3_2, fr3_3⟩ := pr3
      have fr3_3 : (h 137 2).toInt + (0) ≤ (hr3 137 2).toInt ∧ (hr3 137 2).toInt ≤ (h 137 2).toInt + (1) := fr3_3
      have A := A.wk (l3 := [(137, 0), (137, 2), (138, 1000)]) (by decide)
      have A := A.tr pA_r3 (by decide)
      exact pe_i M V rfl rfl hr hlk (pn_z (pi_z (by omega))).1 ⟨rfl, I, A.wk (by decide), by omega, by omega, (fun E9 => fr3_2 E9 (by omega)), (show (h 137 2).toInt + (0) ≤ (hr3 137 2).toInt ∧ (hr3 137 2).toInt ≤ (h 137 2).toInt + (1) by omega)⟩ ⟨Nat.le_refl _, Nat.le_refl _⟩ dX12_letter_24
theorem dX12_give_0 : decode cX12_give 0 = .ok (.iload_n 1, 1) := by decide +kernel
theorem dX12_give_1 : decode cX12_give 1 = .ok (.aload_n 0, 1) := by decide +kernel
theorem dX12_give_2 : decode cX12_give 2 = .ok (.getfield 294, 3) := by decide +kernel
theorem dX12_give_5 : decode cX12_give 5 = .ok (.if_icmp .ne 4, 3) := by decide +kernel
theorem dX12_give_8 : decode cX12_give 8 = .ok (.return_, 1) := by decide +kernel
theorem dX12_give_9 : decode cX12_give 9 = .ok (.aload_n 0, 1) := by decide +kernel
theorem dX12_give_10 : decode cX12_give 10 = .ok (.iload_n 1, 1) := by decide +kernel
theorem dX12_give_11 : decode cX12_give 11 = .ok (.putfield 294, 3) := by decide +kernel
theorem dX12_give_14 : decode cX12_give 14 = .ok (.aload_n 0, 1) := by decide +kernel
theorem dX12_give_15 : decode cX12_give 15 = .ok (.iconst 0, 1) := by decide +kernel
theorem dX12_give_16 : decode cX12_give 16 = .ok (.putfield 291, 3) := by decide +kernel
theorem dX12_give_19 : decode cX12_give 19 = .ok (.return_, 1) := by decide +kernel
set_option maxHeartbeats 4000000 in
set_option maxRecDepth 100000 in
theorem m_X12_give (l : Launch) {Z : pZ} (S : pSh Z) {h : pH} (I : Iv Z h) (id : Int32)  : pMet l yX12_give cX12_give 2 none 0 0 0 0 Z h [.ref (zB Z + 137), .int id] (pQv Z (fun Z1 h1 => Z = Z1 ∧ Iv Z h1 ∧ agr [(137, 21), (137, 22)] h h1)) := by
  refine pOfW (lv := [(0, .ref (zB Z + 137)), (1, .int id)]) (by decide) (Nat.le_of_ble_eq_true rfl) rfl ?_
  intro p e s m below meth c ls M hr hlk hnm V hl
  have hx := M.1.1
  have hb := M.1.2.1
  have A : agr [] h h := agr.rf
  refine lv_iload_n hx hb dX12_give_0 rfl (lv_at hl 1 rfl) ?_
  refine lv_aload_n hx hb dX12_give_1 rfl (lv_at hl 0 rfl) ?_
  refine pg_i M V 12 21 (sm_this S) pC12 fk12_21 lkF_X12_294 dX12_give_2 ?_
  refine lv_topi (fun v1 ev1 => ?_)
  refine lv_icmp_ne (tgt := 9) hx hb dX12_give_5 (by decide) (fun c_5 => ?_) (fun c_5 => ?_)
  · skip
    have c_5 := pi_ne c_5
    refine lv_aload_n hx hb dX12_give_9 rfl (lv_at hl 0 rfl) ?_
    refine lv_iload_n hx hb dX12_give_10 rfl (lv_at hl 1 rfl) ?_
    refine pp_i M V 12 21 (sm_this S) pC12 fk12_21 rfl lkF_X12_294 ⟨rfl, rfl⟩ dX12_give_11 (fun H locs V => ?_)
    have A := A.wk (l3 := [(137, 21)]) (by decide)
    have A := A.up (o := 137) (k := 21) (v := id) (by decide)
    have I := I.up (k := 21) (v := id) (sm_this S) (pi_full _)
    refine lv_aload_n hx hb dX12_give_14 rfl (lv_at hl 0 rfl) ?_
    refine lv_iconst (v := 0) hx hb dX12_give_15 (by decide) ?_
    refine pp_i M V 12 22 (sm_this S) pC12 fk12_22 rfl lkF_X12_291 ⟨rfl, rfl⟩ dX12_give_16 (fun H locs V => ?_)
    have A := A.wk (l3 := [(137, 21), (137, 22)]) (by decide)
    have A := A.up (o := 137) (k := 22) (v := (0 : Int32)) (by decide)
    have I := I.up (k := 22) (v := (0 : Int32)) (sm_this S) (pi_full _)
    exact pe_v M V rfl rfl hr hlk ⟨rfl, I, A.wk (by decide)⟩ ⟨Nat.le_refl _, Nat.le_refl _⟩ dX12_give_19
  · skip
    have c_5 := pi_eq.mp c_5
    exact pe_v M V rfl rfl hr hlk ⟨rfl, I, A.wk (by decide)⟩ ⟨Nat.le_refl _, Nat.le_refl _⟩ dX12_give_8
theorem dX12_tell_0 : decode cX12_tell 0 = .ok (.aload_n 0, 1) := by decide +kernel
theorem dX12_tell_1 : decode cX12_tell 1 = .ok (.getfield 30, 3) := by decide +kernel
theorem dX12_tell_4 : decode cX12_tell 4 = .ok (.aload_n 0, 1) := by decide +kernel
theorem dX12_tell_5 : decode cX12_tell 5 = .ok (.getfield 267, 3) := by decide +kernel
theorem dX12_tell_8 : decode cX12_tell 8 = .ok (.iload_n 1, 1) := by decide +kernel
theorem dX12_tell_9 : decode cX12_tell 9 = .ok (.iastore, 1) := by decide +kernel
theorem dX12_tell_10 : decode cX12_tell 10 = .ok (.aload_n 0, 1) := by decide +kernel
theorem dX12_tell_11 : decode cX12_tell 11 = .ok (.dup, 1) := by decide +kernel
theorem dX12_tell_12 : decode cX12_tell 12 = .ok (.getfield 267, 3) := by decide +kernel
theorem dX12_tell_15 : decode cX12_tell 15 = .ok (.iconst 1, 1) := by decide +kernel
theorem dX12_tell_16 : decode cX12_tell 16 = .ok (.iadd, 1) := by decide +kernel
theorem dX12_tell_17 : decode cX12_tell 17 = .ok (.putfield 267, 3) := by decide +kernel
theorem dX12_tell_20 : decode cX12_tell 20 = .ok (.return_, 1) := by decide +kernel
set_option maxHeartbeats 4000000 in
set_option maxRecDepth 100000 in
theorem m_X12_tell (l : Launch) {Z : pZ} (S : pSh Z) {h : pH} (I : Iv Z h) (id : Int32) (hp : (h 137 25).toInt ≤ 599) : pMet l yX12_tell cX12_tell 2 none 0 0 0 0 Z h [.ref (zB Z + 137), .int id] (pQv Z (fun Z1 h1 => Z = Z1 ∧ Iv Z h1 ∧ agr [(137, 25), (143, 1000)] h h1 ∧ ((h 137 25).toInt + (1) ≤ (h1 137 25).toInt ∧ (h1 137 25).toInt ≤ (h 137 25).toInt + (1)))) := by
  refine pOfW (lv := [(0, .ref (zB Z + 137)), (1, .int id)]) (by decide) (Nat.le_of_ble_eq_true rfl) rfl ?_
  intro p e s m below meth c ls M hr hlk hnm V hl
  have hx := M.1.1
  have hb := M.1.2.1
  have A : agr [] h h := agr.rf
  have i_25 : 0 ≤ (h 137 25).toInt ∧ (h 137 25).toInt ≤ 600 := I.get (sm_this S) 25
  refine lv_aload_n hx hb dX12_tell_0 rfl (lv_at hl 0 rfl) ?_
  refine pg_r M V 12 24 (sm_this S) pC12 fk12_24 (sm_told S).2.2 lkF_X12_30 dX12_tell_1 ?_
  refine lv_aload_n hx hb dX12_tell_4 rfl (lv_at hl 0 rfl) ?_
  refine pg_i M V 12 25 (sm_this S) pC12 fk12_25 lkF_X12_267 dX12_tell_5 ?_
  refine lv_topi (fun v1 ev1 => ?_)
  have tv1 : 0 ≤ v1.toInt ∧ v1.toInt ≤ 600 := by rw [ev1]; exact I.get (sm_this S) 25
  have uv1 : v1.toInt = (h 137 25).toInt := congrArg Int32.toInt ev1
  refine lv_iload_n hx hb dX12_tell_8 rfl (lv_at hl 1 rfl) ?_
  refine ps_i M V (sm_told S).1 (by rw [(sm_told S).2.1]; exact pi_in (by omega)) dX12_tell_9 (fun H locs V => ?_)
  have A := A.wk (l3 := [(143, 1000)]) (by decide)
  have A := A.upA (o := 143) (k := v1.toNatClampNeg) (v := id) (by decide)
  have I := I.up (k := v1.toNatClampNeg) (v := id) (sm_told S).1 (pi_full _)
  refine lv_aload_n hx hb dX12_tell_10 rfl (lv_at hl 0 rfl) ?_
  refine lv_dup hx hb dX12_tell_11 rfl ?_
  refine pg_iv M V 12 25 (v := v1) (sm_this S) pC12 fk12_25 ev1.symm lkF_X12_267 dX12_tell_12 ?_
  refine lv_iconst (v := 1) hx hb dX12_tell_15 (by decide) ?_
  refine lv_iadd hx hb dX12_tell_16 ?_
  refine lv_topi (fun v2 ev2 => ?_)
  refine pp_i M V 12 25 (sm_this S) pC12 fk12_25 rfl lkF_X12_267 ⟨rfl, rfl⟩ dX12_tell_17 (fun H locs V => ?_)
  have A := A.wk (l3 := [(143, 1000), (137, 25)]) (by decide)
  have A := A.up (o := 137) (k := 25) (v := v2) (by decide)
  have k_1 : (1 : Int32).toInt = 1 := rfl
  have tv2 : v2.toInt = v1.toInt + 1 := by rw [ev2]; have z9 := pi_add (x := v1) (y := (1 : Int32)); rw [k_1] at z9; exact z9 (by omega)
  have I := I.up (k := 25) (v := v2) (sm_this S) (show (0 : Int) ≤ v2.toInt ∧ v2.toInt ≤ (600 : Int) by omega)
  exact pe_v M V rfl rfl hr hlk ⟨rfl, I, A.wk (by decide), (show (h 137 25).toInt + (1) ≤ v2.toInt ∧ v2.toInt ≤ (h 137 25).toInt + (1) by omega)⟩ ⟨Nat.le_refl _, Nat.le_refl _⟩ dX12_tell_20
theorem dX12_push_0 : decode cX12_push 0 = .ok (.aload_n 0, 1) := by decide +kernel
theorem dX12_push_1 : decode cX12_push 1 = .ok (.getfield 108, 3) := by decide +kernel
theorem dX12_push_4 : decode cX12_push 4 = .ok (.aload_n 0, 1) := by decide +kernel
theorem dX12_push_5 : decode cX12_push 5 = .ok (.getfield 282, 3) := by decide +kernel
theorem dX12_push_8 : decode cX12_push 8 = .ok (.iload_n 1, 1) := by decide +kernel
theorem dX12_push_9 : decode cX12_push 9 = .ok (.iastore, 1) := by decide +kernel
theorem dX12_push_10 : decode cX12_push 10 = .ok (.aload_n 0, 1) := by decide +kernel
theorem dX12_push_11 : decode cX12_push 11 = .ok (.dup, 1) := by decide +kernel
theorem dX12_push_12 : decode cX12_push 12 = .ok (.getfield 282, 3) := by decide +kernel
theorem dX12_push_15 : decode cX12_push 15 = .ok (.iconst 1, 1) := by decide +kernel
theorem dX12_push_16 : decode cX12_push 16 = .ok (.iadd, 1) := by decide +kernel
theorem dX12_push_17 : decode cX12_push 17 = .ok (.putfield 282, 3) := by decide +kernel
theorem dX12_push_20 : decode cX12_push 20 = .ok (.return_, 1) := by decide +kernel
set_option maxHeartbeats 4000000 in
set_option maxRecDepth 100000 in
theorem m_X12_push (l : Launch) {Z : pZ} (S : pSh Z) {h : pH} (I : Iv Z h) (id : Int32) (hp : (h 137 58).toInt ≤ 39) : pMet l yX12_push cX12_push 2 none 0 0 0 0 Z h [.ref (zB Z + 137), .int id] (pQv Z (fun Z1 h1 => Z = Z1 ∧ Iv Z h1 ∧ agr [(137, 58), (167, 1000)] h h1 ∧ ((h 137 58).toInt + (1) ≤ (h1 137 58).toInt ∧ (h1 137 58).toInt ≤ (h 137 58).toInt + (1)))) := by
  refine pOfW (lv := [(0, .ref (zB Z + 137)), (1, .int id)]) (by decide) (Nat.le_of_ble_eq_true rfl) rfl ?_
  intro p e s m below meth c ls M hr hlk hnm V hl
  have hx := M.1.1
  have hb := M.1.2.1
  have A : agr [] h h := agr.rf
  have i_58 : 0 ≤ (h 137 58).toInt ∧ (h 137 58).toInt ≤ 40 := I.get (sm_this S) 58
  refine lv_aload_n hx hb dX12_push_0 rfl (lv_at hl 0 rfl) ?_
  refine pg_r M V 12 57 (sm_this S) pC12 fk12_57 (sm_pile S).2.2 lkF_X12_108 dX12_push_1 ?_
  refine lv_aload_n hx hb dX12_push_4 rfl (lv_at hl 0 rfl) ?_
  refine pg_i M V 12 58 (sm_this S) pC12 fk12_58 lkF_X12_282 dX12_push_5 ?_
  refine lv_topi (fun v1 ev1 => ?_)
  have tv1 : 0 ≤ v1.toInt ∧ v1.toInt ≤ 40 := by rw [ev1]; exact I.get (sm_this S) 58
  have uv1 : v1.toInt = (h 137 58).toInt := congrArg Int32.toInt ev1
  refine lv_iload_n hx hb dX12_push_8 rfl (lv_at hl 1 rfl) ?_
  refine ps_i M V (sm_pile S).1 (by rw [(sm_pile S).2.1]; exact pi_in (by omega)) dX12_push_9 (fun H locs V => ?_)
  have A := A.wk (l3 := [(167, 1000)]) (by decide)
  have A := A.upA (o := 167) (k := v1.toNatClampNeg) (v := id) (by decide)
  have I := I.up (k := v1.toNatClampNeg) (v := id) (sm_pile S).1 (pi_full _)
  refine lv_aload_n hx hb dX12_push_10 rfl (lv_at hl 0 rfl) ?_
  refine lv_dup hx hb dX12_push_11 rfl ?_
  refine pg_iv M V 12 58 (v := v1) (sm_this S) pC12 fk12_58 ev1.symm lkF_X12_282 dX12_push_12 ?_
  refine lv_iconst (v := 1) hx hb dX12_push_15 (by decide) ?_
  refine lv_iadd hx hb dX12_push_16 ?_
  refine lv_topi (fun v2 ev2 => ?_)
  refine pp_i M V 12 58 (sm_this S) pC12 fk12_58 rfl lkF_X12_282 ⟨rfl, rfl⟩ dX12_push_17 (fun H locs V => ?_)
  have A := A.wk (l3 := [(167, 1000), (137, 58)]) (by decide)
  have A := A.up (o := 137) (k := 58) (v := v2) (by decide)
  have k_1 : (1 : Int32).toInt = 1 := rfl
  have tv2 : v2.toInt = v1.toInt + 1 := by rw [ev2]; have z9 := pi_add (x := v1) (y := (1 : Int32)); rw [k_1] at z9; exact z9 (by omega)
  have I := I.up (k := 58) (v := v2) (sm_this S) (show (0 : Int) ≤ v2.toInt ∧ v2.toInt ≤ (40 : Int) by omega)
  exact pe_v M V rfl rfl hr hlk ⟨rfl, I, A.wk (by decide), (show (h 137 58).toInt + (1) ≤ v2.toInt ∧ v2.toInt ≤ (h 137 58).toInt + (1) by omega)⟩ ⟨Nat.le_refl _, Nat.le_refl _⟩ dX12_push_20
theorem dX12_area_0 : decode cX12_area 0 = .ok (.aload_n 0, 1) := by decide +kernel
theorem dX12_area_1 : decode cX12_area 1 = .ok (.getfield 285, 3) := by decide +kernel
theorem dX12_area_4 : decode cX12_area 4 = .ok (.istore_n 3, 1) := by decide +kernel
theorem dX12_area_5 : decode cX12_area 5 = .ok (.aload_n 0, 1) := by decide +kernel
theorem dX12_area_6 : decode cX12_area 6 = .ok (.dup, 1) := by decide +kernel
theorem dX12_area_7 : decode cX12_area 7 = .ok (.getfield 285, 3) := by decide +kernel
theorem dX12_area_10 : decode cX12_area 10 = .ok (.iconst 1, 1) := by decide +kernel
theorem dX12_area_11 : decode cX12_area 11 = .ok (.iadd, 1) := by decide +kernel
theorem dX12_area_12 : decode cX12_area 12 = .ok (.putfield 285, 3) := by decide +kernel
theorem dX12_area_15 : decode cX12_area 15 = .ok (.aload_n 0, 1) := by decide +kernel
theorem dX12_area_16 : decode cX12_area 16 = .ok (.getfield 111, 3) := by decide +kernel
theorem dX12_area_19 : decode cX12_area 19 = .ok (.iload_n 3, 1) := by decide +kernel
theorem dX12_area_20 : decode cX12_area 20 = .ok (.iload_n 1, 1) := by decide +kernel
theorem dX12_area_21 : decode cX12_area 21 = .ok (.iastore, 1) := by decide +kernel
theorem dX12_area_22 : decode cX12_area 22 = .ok (.aload_n 0, 1) := by decide +kernel
theorem dX12_area_23 : decode cX12_area 23 = .ok (.getfield 114, 3) := by decide +kernel
theorem dX12_area_26 : decode cX12_area 26 = .ok (.iload_n 3, 1) := by decide +kernel
theorem dX12_area_27 : decode cX12_area 27 = .ok (.iload_n 2, 1) := by decide +kernel
theorem dX12_area_28 : decode cX12_area 28 = .ok (.iastore, 1) := by decide +kernel
theorem dX12_area_29 : decode cX12_area 29 = .ok (.aload_n 0, 1) := by decide +kernel
theorem dX12_area_30 : decode cX12_area 30 = .ok (.getfield 117, 3) := by decide +kernel
theorem dX12_area_33 : decode cX12_area 33 = .ok (.iload_n 3, 1) := by decide +kernel
theorem dX12_area_34 : decode cX12_area 34 = .ok (.iconst 0, 1) := by decide +kernel
theorem dX12_area_35 : decode cX12_area 35 = .ok (.iastore, 1) := by decide +kernel
theorem dX12_area_36 : decode cX12_area 36 = .ok (.aload_n 0, 1) := by decide +kernel
theorem dX12_area_37 : decode cX12_area 37 = .ok (.getfield 129, 3) := by decide +kernel
theorem dX12_area_40 : decode cX12_area 40 = .ok (.iload_n 3, 1) := by decide +kernel
theorem dX12_area_41 : decode cX12_area 41 = .ok (.iload_n 1, 1) := by decide +kernel
theorem dX12_area_42 : decode cX12_area 42 = .ok (.iastore, 1) := by decide +kernel
theorem dX12_area_43 : decode cX12_area 43 = .ok (.aload_n 0, 1) := by decide +kernel
theorem dX12_area_44 : decode cX12_area 44 = .ok (.getfield 132, 3) := by decide +kernel
theorem dX12_area_47 : decode cX12_area 47 = .ok (.iload_n 3, 1) := by decide +kernel
theorem dX12_area_48 : decode cX12_area 48 = .ok (.iload_n 2, 1) := by decide +kernel
theorem dX12_area_49 : decode cX12_area 49 = .ok (.iastore, 1) := by decide +kernel
theorem dX12_area_50 : decode cX12_area 50 = .ok (.aload_n 0, 1) := by decide +kernel
theorem dX12_area_51 : decode cX12_area 51 = .ok (.getfield 135, 3) := by decide +kernel
theorem dX12_area_54 : decode cX12_area 54 = .ok (.iload_n 3, 1) := by decide +kernel
theorem dX12_area_55 : decode cX12_area 55 = .ok (.iconst 0, 1) := by decide +kernel
theorem dX12_area_56 : decode cX12_area 56 = .ok (.bastore, 1) := by decide +kernel
theorem dX12_area_57 : decode cX12_area 57 = .ok (.aload_n 0, 1) := by decide +kernel
theorem dX12_area_58 : decode cX12_area 58 = .ok (.getfield 138, 3) := by decide +kernel
theorem dX12_area_61 : decode cX12_area 61 = .ok (.iload_n 3, 1) := by decide +kernel
theorem dX12_area_62 : decode cX12_area 62 = .ok (.iconst 0, 1) := by decide +kernel
theorem dX12_area_63 : decode cX12_area 63 = .ok (.bastore, 1) := by decide +kernel
theorem dX12_area_64 : decode cX12_area 64 = .ok (.iload_n 3, 1) := by decide +kernel
theorem dX12_area_65 : decode cX12_area 65 = .ok (.ireturn, 1) := by decide +kernel
set_option maxHeartbeats 4000000 in
set_option maxRecDepth 100000 in
theorem m_X12_area (l : Launch) {Z : pZ} (S : pSh Z) {h : pH} (I : Iv Z h) (left : Int32) (top : Int32) (hp : (h 137 70).toInt ≤ 39) : pMet l yX12_area cX12_area 4 (some .int) 0 0 0 0 Z h [.ref (zB Z + 137), .int left, .int top] (pQi Z (fun r Z1 h1 => Z = Z1 ∧ Iv Z h1 ∧ agr [(137, 70), (168, 1000), (169, 1000), (170, 1000), (174, 1000), (175, 1000), (176, 1000), (177, 1000)] h h1 ∧ (r.toInt = (h 137 70).toInt ∧ 0 ≤ r.toInt ∧ r.toInt ≤ 39) ∧ ((h 137 70).toInt + (1) ≤ (h1 137 70).toInt ∧ (h1 137 70).toInt ≤ (h 137 70).toInt + (1)))) := by
  refine pOfW (lv := [(0, .ref (zB Z + 137)), (1, .int left), (2, .int top)]) (by decide) (Nat.le_of_ble_eq_true rfl) rfl ?_
  intro p e s m below meth c ls M hr hlk hnm V hl
  have hx := M.1.1
  have hb := M.1.2.1
  have A : agr [] h h := agr.rf
  have i_70 : 0 ≤ (h 137 70).toInt ∧ (h 137 70).toInt ≤ 40 := I.get (sm_this S) 70
  refine lv_aload_n hx hb dX12_area_0 rfl (lv_at hl 0 rfl) ?_
  refine pg_i M V 12 70 (sm_this S) pC12 fk12_70 lkF_X12_285 dX12_area_1 ?_
  refine lv_topi (fun v1 ev1 => ?_)
  have tv1 : 0 ≤ v1.toInt ∧ v1.toInt ≤ 40 := by rw [ev1]; exact I.get (sm_this S) 70
  have uv1 : v1.toInt = (h 137 70).toInt := congrArg Int32.toInt ev1
  refine lv_istore_n (lv' := [(3, .int v1), (0, .ref (zB Z + 137)), (1, .int left), (2, .int top)]) hx hb dX12_area_4 rfl hl (by decide) rfl (fun ls hl => ?_)
  refine lv_aload_n hx hb dX12_area_5 rfl (lv_at hl 1 rfl) ?_
  refine lv_dup hx hb dX12_area_6 rfl ?_
  refine pg_iv M V 12 70 (v := v1) (sm_this S) pC12 fk12_70 ev1.symm lkF_X12_285 dX12_area_7 ?_
  refine lv_iconst (v := 1) hx hb dX12_area_10 (by decide) ?_
  refine lv_iadd hx hb dX12_area_11 ?_
  refine lv_topi (fun v2 ev2 => ?_)
  refine pp_i M V 12 70 (sm_this S) pC12 fk12_70 rfl lkF_X12_285 ⟨rfl, rfl⟩ dX12_area_12 (fun H locs V => ?_)
  have A := A.wk (l3 := [(137, 70)]) (by decide)
  have A := A.up (o := 137) (k := 70) (v := v2) (by decide)
  have k_1 : (1 : Int32).toInt = 1 := rfl
  have tv2 : v2.toInt = v1.toInt + 1 := by rw [ev2]; have z9 := pi_add (x := v1) (y := (1 : Int32)); rw [k_1] at z9; exact z9 (by omega)
  have I := I.up (k := 70) (v := v2) (sm_this S) (show (0 : Int) ≤ v2.toInt ∧ v2.toInt ≤ (40 : Int) by omega)
  refine lv_aload_n hx hb dX12_area_15 rfl (lv_at hl 1 rfl) ?_
  refine pg_r M V 12 59 (sm_this S) pC12 fk12_59 (sm_firstX S).2.2 lkF_X12_111 dX12_area_16 ?_
  refine lv_iload_n hx hb dX12_area_19 rfl (lv_at hl 0 rfl) ?_
  refine lv_iload_n hx hb dX12_area_20 rfl (lv_at hl 2 rfl) ?_
  refine ps_i M V (sm_firstX S).1 (by rw [(sm_firstX S).2.1]; exact pi_in (by omega)) dX12_area_21 (fun H locs V => ?_)
  have A := A.wk (l3 := [(137, 70), (168, 1000)]) (by decide)
  have A := A.upA (o := 168) (k := v1.toNatClampNeg) (v := left) (by decide)
  have I := I.up (k := v1.toNatClampNeg) (v := left) (sm_firstX S).1 (pi_full _)
  refine lv_aload_n hx hb dX12_area_22 rfl (lv_at hl 1 rfl) ?_
  refine pg_r M V 12 60 (sm_this S) pC12 fk12_60 (sm_firstY S).2.2 lkF_X12_114 dX12_area_23 ?_
  refine lv_iload_n hx hb dX12_area_26 rfl (lv_at hl 0 rfl) ?_
  refine lv_iload_n hx hb dX12_area_27 rfl (lv_at hl 3 rfl) ?_
  refine ps_i M V (sm_firstY S).1 (by rw [(sm_firstY S).2.1]; exact pi_in (by omega)) dX12_area_28 (fun H locs V => ?_)
  have A := A.wk (l3 := [(137, 70), (168, 1000), (169, 1000)]) (by decide)
  have A := A.upA (o := 169) (k := v1.toNatClampNeg) (v := top) (by decide)
  have I := I.up (k := v1.toNatClampNeg) (v := top) (sm_firstY S).1 (pi_full _)
  refine lv_aload_n hx hb dX12_area_29 rfl (lv_at hl 1 rfl) ?_
  refine pg_r M V 12 61 (sm_this S) pC12 fk12_61 (sm_indent S).2.2 lkF_X12_117 dX12_area_30 ?_
  refine lv_iload_n hx hb dX12_area_33 rfl (lv_at hl 0 rfl) ?_
  refine lv_iconst (v := 0) hx hb dX12_area_34 (by decide) ?_
  refine ps_i M V (sm_indent S).1 (by rw [(sm_indent S).2.1]; exact pi_in (by omega)) dX12_area_35 (fun H locs V => ?_)
  have A := A.wk (l3 := [(137, 70), (168, 1000), (169, 1000), (170, 1000)]) (by decide)
  have A := A.upA (o := 170) (k := v1.toNatClampNeg) (v := (0 : Int32)) (by decide)
  have I := I.up (k := v1.toNatClampNeg) (v := (0 : Int32)) (sm_indent S).1 (pi_full _)
  refine lv_aload_n hx hb dX12_area_36 rfl (lv_at hl 1 rfl) ?_
  refine pg_r M V 12 65 (sm_this S) pC12 fk12_65 (sm_farX S).2.2 lkF_X12_129 dX12_area_37 ?_
  refine lv_iload_n hx hb dX12_area_40 rfl (lv_at hl 0 rfl) ?_
  refine lv_iload_n hx hb dX12_area_41 rfl (lv_at hl 2 rfl) ?_
  refine ps_i M V (sm_farX S).1 (by rw [(sm_farX S).2.1]; exact pi_in (by omega)) dX12_area_42 (fun H locs V => ?_)
  have A := A.wk (l3 := [(137, 70), (168, 1000), (169, 1000), (170, 1000), (174, 1000)]) (by decide)
  have A := A.upA (o := 174) (k := v1.toNatClampNeg) (v := left) (by decide)
  have I := I.up (k := v1.toNatClampNeg) (v := left) (sm_farX S).1 (pi_full _)
  refine lv_aload_n hx hb dX12_area_43 rfl (lv_at hl 1 rfl) ?_
  refine pg_r M V 12 66 (sm_this S) pC12 fk12_66 (sm_farY S).2.2 lkF_X12_132 dX12_area_44 ?_
  refine lv_iload_n hx hb dX12_area_47 rfl (lv_at hl 0 rfl) ?_
  refine lv_iload_n hx hb dX12_area_48 rfl (lv_at hl 3 rfl) ?_
  refine ps_i M V (sm_farY S).1 (by rw [(sm_farY S).2.1]; exact pi_in (by omega)) dX12_area_49 (fun H locs V => ?_)
  have A := A.wk (l3 := [(137, 70), (168, 1000), (169, 1000), (170, 1000), (174, 1000), (175, 1000)]) (by decide)
  have A := A.upA (o := 175) (k := v1.toNatClampNeg) (v := top) (by decide)
  have I := I.up (k := v1.toNatClampNeg) (v := top) (sm_farY S).1 (pi_full _)
  refine lv_aload_n hx hb dX12_area_50 rfl (lv_at hl 1 rfl) ?_
  refine pg_r M V 12 67 (sm_this S) pC12 fk12_67 (sm_some S).2.2 lkF_X12_135 dX12_area_51 ?_
  refine lv_iload_n hx hb dX12_area_54 rfl (lv_at hl 0 rfl) ?_
  refine lv_iconst (v := 0) hx hb dX12_area_55 (by decide) ?_
  have k_0 : (0 : Int32).toInt = 0 := rfl
  refine ps_z M V (sm_some S).1 (by rw [(sm_some S).2.1]; exact pi_in (by omega)) (pi_z (by omega)) dX12_area_56 (fun H locs V => ?_)
  have A := A.wk (l3 := [(137, 70), (168, 1000), (169, 1000), (170, 1000), (174, 1000), (175, 1000), (176, 1000)]) (by decide)
  have A := A.upA (o := 176) (k := v1.toNatClampNeg) (v := (0 : Int32)) (by decide)
  have I := I.up (k := v1.toNatClampNeg) (v := (0 : Int32)) (sm_some S).1 (show (0 : Int) ≤ (0 : Int32).toInt ∧ (0 : Int32).toInt ≤ (1 : Int) by omega)
  refine lv_aload_n hx hb dX12_area_57 rfl (lv_at hl 1 rfl) ?_
  refine pg_r M V 12 68 (sm_this S) pC12 fk12_68 (sm_near S).2.2 lkF_X12_138 dX12_area_58 ?_
  refine lv_iload_n hx hb dX12_area_61 rfl (lv_at hl 0 rfl) ?_
  refine lv_iconst (v := 0) hx hb dX12_area_62 (by decide) ?_
  refine ps_z M V (sm_near S).1 (by rw [(sm_near S).2.1]; exact pi_in (by omega)) (pi_z (by omega)) dX12_area_63 (fun H locs V => ?_)
  have A := A.wk (l3 := [(137, 70), (168, 1000), (169, 1000), (170, 1000), (174, 1000), (175, 1000), (176, 1000), (177, 1000)]) (by decide)
  have A := A.upA (o := 177) (k := v1.toNatClampNeg) (v := (0 : Int32)) (by decide)
  have I := I.up (k := v1.toNatClampNeg) (v := (0 : Int32)) (sm_near S).1 (show (0 : Int) ≤ (0 : Int32).toInt ∧ (0 : Int32).toInt ≤ (1 : Int) by omega)
  refine lv_iload_n hx hb dX12_area_64 rfl (lv_at hl 0 rfl) ?_
  exact pe_i M V rfl rfl hr hlk rfl ⟨rfl, I, A.wk (by decide), by omega, (show (h 137 70).toInt + (1) ≤ v2.toInt ∧ v2.toInt ≤ (h 137 70).toInt + (1) by omega)⟩ ⟨Nat.le_refl _, Nat.le_refl _⟩ dX12_area_65
theorem dX12_nextX_0 : decode cX12_nextX 0 = .ok (.aload_n 0, 1) := by decide +kernel
theorem dX12_nextX_1 : decode cX12_nextX 1 = .ok (.getfield 138, 3) := by decide +kernel
theorem dX12_nextX_4 : decode cX12_nextX 4 = .ok (.iload_n 1, 1) := by decide +kernel
theorem dX12_nextX_5 : decode cX12_nextX 5 = .ok (.baload, 1) := by decide +kernel
theorem dX12_nextX_6 : decode cX12_nextX 6 = .ok (.ifCond .eq 23, 3) := by decide +kernel
theorem dX12_nextX_9 : decode cX12_nextX 9 = .ok (.aload_n 0, 1) := by decide +kernel
theorem dX12_nextX_10 : decode cX12_nextX 10 = .ok (.getfield 135, 3) := by decide +kernel
theorem dX12_nextX_13 : decode cX12_nextX 13 = .ok (.iload_n 1, 1) := by decide +kernel
theorem dX12_nextX_14 : decode cX12_nextX 14 = .ok (.baload, 1) := by decide +kernel
theorem dX12_nextX_15 : decode cX12_nextX 15 = .ok (.ifCond .eq 14, 3) := by decide +kernel
theorem dX12_nextX_18 : decode cX12_nextX 18 = .ok (.aload_n 0, 1) := by decide +kernel
theorem dX12_nextX_19 : decode cX12_nextX 19 = .ok (.getfield 120, 3) := by decide +kernel
theorem dX12_nextX_22 : decode cX12_nextX 22 = .ok (.iload_n 1, 1) := by decide +kernel
theorem dX12_nextX_23 : decode cX12_nextX 23 = .ok (.iaload, 1) := by decide +kernel
theorem dX12_nextX_24 : decode cX12_nextX 24 = .ok (.iconst 4, 1) := by decide +kernel
theorem dX12_nextX_25 : decode cX12_nextX 25 = .ok (.iadd, 1) := by decide +kernel
theorem dX12_nextX_26 : decode cX12_nextX 26 = .ok (.goto 16, 3) := by decide +kernel
theorem dX12_nextX_29 : decode cX12_nextX 29 = .ok (.aload_n 0, 1) := by decide +kernel
theorem dX12_nextX_30 : decode cX12_nextX 30 = .ok (.getfield 111, 3) := by decide +kernel
theorem dX12_nextX_33 : decode cX12_nextX 33 = .ok (.iload_n 1, 1) := by decide +kernel
theorem dX12_nextX_34 : decode cX12_nextX 34 = .ok (.iaload, 1) := by decide +kernel
theorem dX12_nextX_35 : decode cX12_nextX 35 = .ok (.aload_n 0, 1) := by decide +kernel
theorem dX12_nextX_36 : decode cX12_nextX 36 = .ok (.getfield 117, 3) := by decide +kernel
theorem dX12_nextX_39 : decode cX12_nextX 39 = .ok (.iload_n 1, 1) := by decide +kernel
theorem dX12_nextX_40 : decode cX12_nextX 40 = .ok (.iaload, 1) := by decide +kernel
theorem dX12_nextX_41 : decode cX12_nextX 41 = .ok (.iadd, 1) := by decide +kernel
theorem dX12_nextX_42 : decode cX12_nextX 42 = .ok (.ireturn, 1) := by decide +kernel
set_option maxHeartbeats 4000000 in
set_option maxRecDepth 100000 in
theorem m_X12_nextX (l : Launch) {Z : pZ} (S : pSh Z) {h : pH} (I : Iv Z h) (a : Int32) (ha : 0 ≤ a.toInt ∧ a.toInt ≤ 39) : pMet l yX12_nextX cX12_nextX 2 (some .int) 0 0 0 0 Z h [.ref (zB Z + 137), .int a] (pQi Z (fun r Z1 h1 => Z = Z1 ∧ Iv Z h1 ∧ agr [] h h1)) := by
  refine pOfW (lv := [(0, .ref (zB Z + 137)), (1, .int a)]) (by decide) (Nat.le_of_ble_eq_true rfl) rfl ?_
  intro p e s m below meth c ls M hr hlk hnm V hl
  have hx := M.1.1
  have hb := M.1.2.1
  have A : agr [] h h := agr.rf
  refine lv_aload_n hx hb dX12_nextX_0 rfl (lv_at hl 0 rfl) ?_
  refine pg_r M V 12 68 (sm_this S) pC12 fk12_68 (sm_near S).2.2 lkF_X12_138 dX12_nextX_1 ?_
  refine lv_iload_n hx hb dX12_nextX_4 rfl (lv_at hl 1 rfl) ?_
  refine pa_z M V (sm_near S).1 (by rw [(sm_near S).2.1]; exact pi_in (by omega)) dX12_nextX_5 ?_
  refine lv_topi (fun v1 ev1 => ?_)
  have tv1 : 0 ≤ v1.toInt ∧ v1.toInt ≤ 1 := by rw [ev1]; exact I.get (sm_near S).1 _
  refine lv_if_eq (tgt := 29) hx hb dX12_nextX_6 (by decide) (fun c_6 => ?_) (fun c_6 => ?_)
  · skip
    have k_0 : (0 : Int32).toInt = 0 := rfl
    have c_6 := pi_eq.mp c_6
    refine lv_aload_n hx hb dX12_nextX_29 rfl (lv_at hl 0 rfl) ?_
    refine pg_r M V 12 59 (sm_this S) pC12 fk12_59 (sm_firstX S).2.2 lkF_X12_111 dX12_nextX_30 ?_
    refine lv_iload_n hx hb dX12_nextX_33 rfl (lv_at hl 1 rfl) ?_
    refine pa_i M V (sm_firstX S).1 (by rw [(sm_firstX S).2.1]; exact pi_in (by omega)) dX12_nextX_34 ?_
    refine lv_topi (fun v2 ev2 => ?_)
    refine lv_aload_n hx hb dX12_nextX_35 rfl (lv_at hl 0 rfl) ?_
    refine pg_r M V 12 61 (sm_this S) pC12 fk12_61 (sm_indent S).2.2 lkF_X12_117 dX12_nextX_36 ?_
    refine lv_iload_n hx hb dX12_nextX_39 rfl (lv_at hl 1 rfl) ?_
    refine pa_i M V (sm_indent S).1 (by rw [(sm_indent S).2.1]; exact pi_in (by omega)) dX12_nextX_40 ?_
    refine lv_topi (fun v3 ev3 => ?_)
    refine lv_iadd hx hb dX12_nextX_41 ?_
    refine lv_topi (fun v4 ev4 => ?_)
    exact pe_i M V rfl rfl hr hlk rfl ⟨rfl, I, A.wk (by decide)⟩ ⟨Nat.le_refl _, Nat.le_refl _⟩ dX12_nextX_42
  · skip
    have k_0 : (0 : Int32).toInt = 0 := rfl
    have c_6 := pi_ne c_6
    refine lv_aload_n hx hb dX12_nextX_9 rfl (lv_at hl 0 rfl) ?_
    refine pg_r M V 12 67 (sm_this S) pC12 fk12_67 (sm_some S).2.2 lkF_X12_135 dX12_nextX_10 ?_
    refine lv_iload_n hx hb dX12_nextX_13 rfl (lv_at hl 1 rfl) ?_
    refine pa_z M V (sm_some S).1 (by rw [(sm_some S).2.1]; exact pi_in (by omega)) dX12_nextX_14 ?_
    refine lv_topi (fun v5 ev5 => ?_)
    have tv5 : 0 ≤ v5.toInt ∧ v5.toInt ≤ 1 := by rw [ev5]; exact I.get (sm_some S).1 _
    refine lv_if_eq (tgt := 29) hx hb dX12_nextX_15 (by decide) (fun c_15 => ?_) (fun c_15 => ?_)
    · skip
      have c_15 := pi_eq.mp c_15
      refine lv_aload_n hx hb dX12_nextX_29 rfl (lv_at hl 0 rfl) ?_
      refine pg_r M V 12 59 (sm_this S) pC12 fk12_59 (sm_firstX S).2.2 lkF_X12_111 dX12_nextX_30 ?_
      refine lv_iload_n hx hb dX12_nextX_33 rfl (lv_at hl 1 rfl) ?_
      refine pa_i M V (sm_firstX S).1 (by rw [(sm_firstX S).2.1]; exact pi_in (by omega)) dX12_nextX_34 ?_
      refine lv_topi (fun v6 ev6 => ?_)
      refine lv_aload_n hx hb dX12_nextX_35 rfl (lv_at hl 0 rfl) ?_
      refine pg_r M V 12 61 (sm_this S) pC12 fk12_61 (sm_indent S).2.2 lkF_X12_117 dX12_nextX_36 ?_
      refine lv_iload_n hx hb dX12_nextX_39 rfl (lv_at hl 1 rfl) ?_
      refine pa_i M V (sm_indent S).1 (by rw [(sm_indent S).2.1]; exact pi_in (by omega)) dX12_nextX_40 ?_
      refine lv_topi (fun v7 ev7 => ?_)
      refine lv_iadd hx hb dX12_nextX_41 ?_
      refine lv_topi (fun v8 ev8 => ?_)
      exact pe_i M V rfl rfl hr hlk rfl ⟨rfl, I, A.wk (by decide)⟩ ⟨Nat.le_refl _, Nat.le_refl _⟩ dX12_nextX_42
    · skip
      have c_15 := pi_ne c_15
      refine lv_aload_n hx hb dX12_nextX_18 rfl (lv_at hl 0 rfl) ?_
      refine pg_r M V 12 62 (sm_this S) pC12 fk12_62 (sm_endX S).2.2 lkF_X12_120 dX12_nextX_19 ?_
      refine lv_iload_n hx hb dX12_nextX_22 rfl (lv_at hl 1 rfl) ?_
      refine pa_i M V (sm_endX S).1 (by rw [(sm_endX S).2.1]; exact pi_in (by omega)) dX12_nextX_23 ?_
      refine lv_topi (fun v9 ev9 => ?_)
      refine lv_iconst (v := 4) hx hb dX12_nextX_24 (by decide) ?_
      refine lv_iadd hx hb dX12_nextX_25 ?_
      refine lv_topi (fun v10 ev10 => ?_)
      refine lv_goto (tgt := 42) hx hb dX12_nextX_26 (by decide) ?_
      exact pe_i M V rfl rfl hr hlk rfl ⟨rfl, I, A.wk (by decide)⟩ ⟨Nat.le_refl _, Nat.le_refl _⟩ dX12_nextX_42
theorem dX12_nextY_0 : decode cX12_nextY 0 = .ok (.aload_n 0, 1) := by decide +kernel
theorem dX12_nextY_1 : decode cX12_nextY 1 = .ok (.getfield 138, 3) := by decide +kernel
theorem dX12_nextY_4 : decode cX12_nextY 4 = .ok (.iload_n 1, 1) := by decide +kernel
theorem dX12_nextY_5 : decode cX12_nextY 5 = .ok (.baload, 1) := by decide +kernel
theorem dX12_nextY_6 : decode cX12_nextY 6 = .ok (.ifCond .eq 21, 3) := by decide +kernel
theorem dX12_nextY_9 : decode cX12_nextY 9 = .ok (.aload_n 0, 1) := by decide +kernel
theorem dX12_nextY_10 : decode cX12_nextY 10 = .ok (.getfield 135, 3) := by decide +kernel
theorem dX12_nextY_13 : decode cX12_nextY 13 = .ok (.iload_n 1, 1) := by decide +kernel
theorem dX12_nextY_14 : decode cX12_nextY 14 = .ok (.baload, 1) := by decide +kernel
theorem dX12_nextY_15 : decode cX12_nextY 15 = .ok (.ifCond .eq 12, 3) := by decide +kernel
theorem dX12_nextY_18 : decode cX12_nextY 18 = .ok (.aload_n 0, 1) := by decide +kernel
theorem dX12_nextY_19 : decode cX12_nextY 19 = .ok (.getfield 123, 3) := by decide +kernel
theorem dX12_nextY_22 : decode cX12_nextY 22 = .ok (.iload_n 1, 1) := by decide +kernel
theorem dX12_nextY_23 : decode cX12_nextY 23 = .ok (.iaload, 1) := by decide +kernel
theorem dX12_nextY_24 : decode cX12_nextY 24 = .ok (.goto 29, 3) := by decide +kernel
theorem dX12_nextY_27 : decode cX12_nextY 27 = .ok (.aload_n 0, 1) := by decide +kernel
theorem dX12_nextY_28 : decode cX12_nextY 28 = .ok (.getfield 135, 3) := by decide +kernel
theorem dX12_nextY_31 : decode cX12_nextY 31 = .ok (.iload_n 1, 1) := by decide +kernel
theorem dX12_nextY_32 : decode cX12_nextY 32 = .ok (.baload, 1) := by decide +kernel
theorem dX12_nextY_33 : decode cX12_nextY 33 = .ok (.ifCond .eq 14, 3) := by decide +kernel
theorem dX12_nextY_36 : decode cX12_nextY 36 = .ok (.aload_n 0, 1) := by decide +kernel
theorem dX12_nextY_37 : decode cX12_nextY 37 = .ok (.getfield 126, 3) := by decide +kernel
theorem dX12_nextY_40 : decode cX12_nextY 40 = .ok (.iload_n 1, 1) := by decide +kernel
theorem dX12_nextY_41 : decode cX12_nextY 41 = .ok (.iaload, 1) := by decide +kernel
theorem dX12_nextY_42 : decode cX12_nextY 42 = .ok (.iconst 4, 1) := by decide +kernel
theorem dX12_nextY_43 : decode cX12_nextY 43 = .ok (.iadd, 1) := by decide +kernel
theorem dX12_nextY_44 : decode cX12_nextY 44 = .ok (.goto 9, 3) := by decide +kernel
theorem dX12_nextY_47 : decode cX12_nextY 47 = .ok (.aload_n 0, 1) := by decide +kernel
theorem dX12_nextY_48 : decode cX12_nextY 48 = .ok (.getfield 114, 3) := by decide +kernel
theorem dX12_nextY_51 : decode cX12_nextY 51 = .ok (.iload_n 1, 1) := by decide +kernel
theorem dX12_nextY_52 : decode cX12_nextY 52 = .ok (.iaload, 1) := by decide +kernel
theorem dX12_nextY_53 : decode cX12_nextY 53 = .ok (.ireturn, 1) := by decide +kernel
set_option maxHeartbeats 4000000 in
set_option maxRecDepth 100000 in
theorem m_X12_nextY (l : Launch) {Z : pZ} (S : pSh Z) {h : pH} (I : Iv Z h) (a : Int32) (ha : 0 ≤ a.toInt ∧ a.toInt ≤ 39) : pMet l yX12_nextY cX12_nextY 2 (some .int) 0 0 0 0 Z h [.ref (zB Z + 137), .int a] (pQi Z (fun r Z1 h1 => Z = Z1 ∧ Iv Z h1 ∧ agr [] h h1)) := by
  refine pOfW (lv := [(0, .ref (zB Z + 137)), (1, .int a)]) (by decide) (Nat.le_of_ble_eq_true rfl) rfl ?_
  intro p e s m below meth c ls M hr hlk hnm V hl
  have hx := M.1.1
  have hb := M.1.2.1
  have A : agr [] h h := agr.rf
  refine lv_aload_n hx hb dX12_nextY_0 rfl (lv_at hl 0 rfl) ?_
  refine pg_r M V 12 68 (sm_this S) pC12 fk12_68 (sm_near S).2.2 lkF_X12_138 dX12_nextY_1 ?_
  refine lv_iload_n hx hb dX12_nextY_4 rfl (lv_at hl 1 rfl) ?_
  refine pa_z M V (sm_near S).1 (by rw [(sm_near S).2.1]; exact pi_in (by omega)) dX12_nextY_5 ?_
  refine lv_topi (fun v1 ev1 => ?_)
  have tv1 : 0 ≤ v1.toInt ∧ v1.toInt ≤ 1 := by rw [ev1]; exact I.get (sm_near S).1 _
  refine lv_if_eq (tgt := 27) hx hb dX12_nextY_6 (by decide) (fun c_6 => ?_) (fun c_6 => ?_)
  · skip
    have k_0 : (0 : Int32).toInt = 0 := rfl
    have c_6 := pi_eq.mp c_6
    refine lv_aload_n hx hb dX12_nextY_27 rfl (lv_at hl 0 rfl) ?_
    refine pg_r M V 12 67 (sm_this S) pC12 fk12_67 (sm_some S).2.2 lkF_X12_135 dX12_nextY_28 ?_
    refine lv_iload_n hx hb dX12_nextY_31 rfl (lv_at hl 1 rfl) ?_
    refine pa_z M V (sm_some S).1 (by rw [(sm_some S).2.1]; exact pi_in (by omega)) dX12_nextY_32 ?_
    refine lv_topi (fun v2 ev2 => ?_)
    have tv2 : 0 ≤ v2.toInt ∧ v2.toInt ≤ 1 := by rw [ev2]; exact I.get (sm_some S).1 _
    refine lv_if_eq (tgt := 47) hx hb dX12_nextY_33 (by decide) (fun c_33 => ?_) (fun c_33 => ?_)
    · skip
      have c_33 := pi_eq.mp c_33
      refine lv_aload_n hx hb dX12_nextY_47 rfl (lv_at hl 0 rfl) ?_
      refine pg_r M V 12 60 (sm_this S) pC12 fk12_60 (sm_firstY S).2.2 lkF_X12_114 dX12_nextY_48 ?_
      refine lv_iload_n hx hb dX12_nextY_51 rfl (lv_at hl 1 rfl) ?_
      refine pa_i M V (sm_firstY S).1 (by rw [(sm_firstY S).2.1]; exact pi_in (by omega)) dX12_nextY_52 ?_
      refine lv_topi (fun v3 ev3 => ?_)
      exact pe_i M V rfl rfl hr hlk rfl ⟨rfl, I, A.wk (by decide)⟩ ⟨Nat.le_refl _, Nat.le_refl _⟩ dX12_nextY_53
    · skip
      have c_33 := pi_ne c_33
      refine lv_aload_n hx hb dX12_nextY_36 rfl (lv_at hl 0 rfl) ?_
      refine pg_r M V 12 64 (sm_this S) pC12 fk12_64 (sm_lineBottom S).2.2 lkF_X12_126 dX12_nextY_37 ?_
      refine lv_iload_n hx hb dX12_nextY_40 rfl (lv_at hl 1 rfl) ?_
      refine pa_i M V (sm_lineBottom S).1 (by rw [(sm_lineBottom S).2.1]; exact pi_in (by omega)) dX12_nextY_41 ?_
      refine lv_topi (fun v4 ev4 => ?_)
      refine lv_iconst (v := 4) hx hb dX12_nextY_42 (by decide) ?_
      refine lv_iadd hx hb dX12_nextY_43 ?_
      refine lv_topi (fun v5 ev5 => ?_)
      refine lv_goto (tgt := 53) hx hb dX12_nextY_44 (by decide) ?_
      exact pe_i M V rfl rfl hr hlk rfl ⟨rfl, I, A.wk (by decide)⟩ ⟨Nat.le_refl _, Nat.le_refl _⟩ dX12_nextY_53
  · skip
    have k_0 : (0 : Int32).toInt = 0 := rfl
    have c_6 := pi_ne c_6
    refine lv_aload_n hx hb dX12_nextY_9 rfl (lv_at hl 0 rfl) ?_
    refine pg_r M V 12 67 (sm_this S) pC12 fk12_67 (sm_some S).2.2 lkF_X12_135 dX12_nextY_10 ?_
    refine lv_iload_n hx hb dX12_nextY_13 rfl (lv_at hl 1 rfl) ?_
    refine pa_z M V (sm_some S).1 (by rw [(sm_some S).2.1]; exact pi_in (by omega)) dX12_nextY_14 ?_
    refine lv_topi (fun v6 ev6 => ?_)
    have tv6 : 0 ≤ v6.toInt ∧ v6.toInt ≤ 1 := by rw [ev6]; exact I.get (sm_some S).1 _
    refine lv_if_eq (tgt := 27) hx hb dX12_nextY_15 (by decide) (fun c_15 => ?_) (fun c_15 => ?_)
    · skip
      have c_15 := pi_eq.mp c_15
      refine lv_aload_n hx hb dX12_nextY_27 rfl (lv_at hl 0 rfl) ?_
      refine pg_r M V 12 67 (sm_this S) pC12 fk12_67 (sm_some S).2.2 lkF_X12_135 dX12_nextY_28 ?_
      refine lv_iload_n hx hb dX12_nextY_31 rfl (lv_at hl 1 rfl) ?_
      refine pa_zv M V (v := v6) (sm_some S).1 (by rw [(sm_some S).2.1]; exact pi_in (by omega)) ev6.symm dX12_nextY_32 ?_
      refine lv_if_eq (tgt := 47) hx hb dX12_nextY_33 (by decide) (fun c_33 => ?_) (fun c_33 => ?_)
      · skip
        have c_33 := pi_eq.mp c_33
        refine lv_aload_n hx hb dX12_nextY_47 rfl (lv_at hl 0 rfl) ?_
        refine pg_r M V 12 60 (sm_this S) pC12 fk12_60 (sm_firstY S).2.2 lkF_X12_114 dX12_nextY_48 ?_
        refine lv_iload_n hx hb dX12_nextY_51 rfl (lv_at hl 1 rfl) ?_
        refine pa_i M V (sm_firstY S).1 (by rw [(sm_firstY S).2.1]; exact pi_in (by omega)) dX12_nextY_52 ?_
        refine lv_topi (fun v7 ev7 => ?_)
        exact pe_i M V rfl rfl hr hlk rfl ⟨rfl, I, A.wk (by decide)⟩ ⟨Nat.le_refl _, Nat.le_refl _⟩ dX12_nextY_53
      · skip
        have c_33 := pi_ne c_33
        refine lv_aload_n hx hb dX12_nextY_36 rfl (lv_at hl 0 rfl) ?_
        refine pg_r M V 12 64 (sm_this S) pC12 fk12_64 (sm_lineBottom S).2.2 lkF_X12_126 dX12_nextY_37 ?_
        refine lv_iload_n hx hb dX12_nextY_40 rfl (lv_at hl 1 rfl) ?_
        refine pa_i M V (sm_lineBottom S).1 (by rw [(sm_lineBottom S).2.1]; exact pi_in (by omega)) dX12_nextY_41 ?_
        refine lv_topi (fun v8 ev8 => ?_)
        refine lv_iconst (v := 4) hx hb dX12_nextY_42 (by decide) ?_
        refine lv_iadd hx hb dX12_nextY_43 ?_
        refine lv_topi (fun v9 ev9 => ?_)
        refine lv_goto (tgt := 53) hx hb dX12_nextY_44 (by decide) ?_
        exact pe_i M V rfl rfl hr hlk rfl ⟨rfl, I, A.wk (by decide)⟩ ⟨Nat.le_refl _, Nat.le_refl _⟩ dX12_nextY_53
    · skip
      have c_15 := pi_ne c_15
      refine lv_aload_n hx hb dX12_nextY_18 rfl (lv_at hl 0 rfl) ?_
      refine pg_r M V 12 63 (sm_this S) pC12 fk12_63 (sm_lineTop S).2.2 lkF_X12_123 dX12_nextY_19 ?_
      refine lv_iload_n hx hb dX12_nextY_22 rfl (lv_at hl 1 rfl) ?_
      refine pa_i M V (sm_lineTop S).1 (by rw [(sm_lineTop S).2.1]; exact pi_in (by omega)) dX12_nextY_23 ?_
      refine lv_topi (fun v10 ev10 => ?_)
      refine lv_goto (tgt := 53) hx hb dX12_nextY_24 (by decide) ?_
      exact pe_i M V rfl rfl hr hlk rfl ⟨rfl, I, A.wk (by decide)⟩ ⟨Nat.le_refl _, Nat.le_refl _⟩ dX12_nextY_53
theorem dX12_put_0 : decode cX12_put 0 = .ok (.aload_n 0, 1) := by decide +kernel
theorem dX12_put_1 : decode cX12_put 1 = .ok (.getfield 150, 3) := by decide +kernel
theorem dX12_put_4 : decode cX12_put 4 = .ok (.iconst 0, 1) := by decide +kernel
theorem dX12_put_5 : decode cX12_put 5 = .ok (.iload_n 3, 1) := by decide +kernel
theorem dX12_put_6 : decode cX12_put 6 = .ok (.iastore, 1) := by decide +kernel
theorem dX12_put_7 : decode cX12_put 7 = .ok (.aload_n 0, 1) := by decide +kernel
theorem dX12_put_8 : decode cX12_put 8 = .ok (.getfield 150, 3) := by decide +kernel
theorem dX12_put_11 : decode cX12_put 11 = .ok (.iconst 1, 1) := by decide +kernel
theorem dX12_put_12 : decode cX12_put 12 = .ok (.iload 4, 2) := by decide +kernel
theorem dX12_put_14 : decode cX12_put 14 = .ok (.iastore, 1) := by decide +kernel
theorem dX12_put_15 : decode cX12_put 15 = .ok (.aload_n 0, 1) := by decide +kernel
theorem dX12_put_16 : decode cX12_put 16 = .ok (.getfield 150, 3) := by decide +kernel
theorem dX12_put_19 : decode cX12_put 19 = .ok (.iconst 2, 1) := by decide +kernel
theorem dX12_put_20 : decode cX12_put 20 = .ok (.iload_n 3, 1) := by decide +kernel
theorem dX12_put_21 : decode cX12_put 21 = .ok (.iload 5, 2) := by decide +kernel
theorem dX12_put_23 : decode cX12_put 23 = .ok (.iadd, 1) := by decide +kernel
theorem dX12_put_24 : decode cX12_put 24 = .ok (.iastore, 1) := by decide +kernel
theorem dX12_put_25 : decode cX12_put 25 = .ok (.aload_n 0, 1) := by decide +kernel
theorem dX12_put_26 : decode cX12_put 26 = .ok (.getfield 150, 3) := by decide +kernel
theorem dX12_put_29 : decode cX12_put 29 = .ok (.iconst 3, 1) := by decide +kernel
theorem dX12_put_30 : decode cX12_put 30 = .ok (.iload 4, 2) := by decide +kernel
theorem dX12_put_32 : decode cX12_put 32 = .ok (.iload 6, 2) := by decide +kernel
theorem dX12_put_34 : decode cX12_put 34 = .ok (.iadd, 1) := by decide +kernel
theorem dX12_put_35 : decode cX12_put 35 = .ok (.iastore, 1) := by decide +kernel
theorem dX12_put_36 : decode cX12_put 36 = .ok (.iload_n 2, 1) := by decide +kernel
theorem dX12_put_37 : decode cX12_put 37 = .ok (.ifCond .ne 19, 3) := by decide +kernel
theorem dX12_put_40 : decode cX12_put 40 = .ok (.aload_n 0, 1) := by decide +kernel
theorem dX12_put_41 : decode cX12_put 41 = .ok (.getfield 123, 3) := by decide +kernel
theorem dX12_put_44 : decode cX12_put 44 = .ok (.iload_n 1, 1) := by decide +kernel
theorem dX12_put_45 : decode cX12_put 45 = .ok (.iload 4, 2) := by decide +kernel
theorem dX12_put_47 : decode cX12_put 47 = .ok (.iastore, 1) := by decide +kernel
theorem dX12_put_48 : decode cX12_put 48 = .ok (.aload_n 0, 1) := by decide +kernel
theorem dX12_put_49 : decode cX12_put 49 = .ok (.getfield 126, 3) := by decide +kernel
theorem dX12_put_52 : decode cX12_put 52 = .ok (.iload_n 1, 1) := by decide +kernel
theorem dX12_put_53 : decode cX12_put 53 = .ok (.iload 4, 2) := by decide +kernel
theorem dX12_put_55 : decode cX12_put 55 = .ok (.iastore, 1) := by decide +kernel
theorem dX12_put_56 : decode cX12_put 56 = .ok (.aload_n 0, 1) := by decide +kernel
theorem dX12_put_57 : decode cX12_put 57 = .ok (.getfield 126, 3) := by decide +kernel
theorem dX12_put_60 : decode cX12_put 60 = .ok (.iload_n 1, 1) := by decide +kernel
theorem dX12_put_61 : decode cX12_put 61 = .ok (.aload_n 0, 1) := by decide +kernel
theorem dX12_put_62 : decode cX12_put 62 = .ok (.getfield 126, 3) := by decide +kernel
theorem dX12_put_65 : decode cX12_put 65 = .ok (.iload_n 1, 1) := by decide +kernel
theorem dX12_put_66 : decode cX12_put 66 = .ok (.iaload, 1) := by decide +kernel
theorem dX12_put_67 : decode cX12_put 67 = .ok (.iload 4, 2) := by decide +kernel
theorem dX12_put_69 : decode cX12_put 69 = .ok (.iload 6, 2) := by decide +kernel
theorem dX12_put_71 : decode cX12_put 71 = .ok (.iadd, 1) := by decide +kernel
theorem dX12_put_72 : decode cX12_put 72 = .ok (.invokestatic 182, 3) := by decide +kernel
theorem dX12_put_75 : decode cX12_put 75 = .ok (.iastore, 1) := by decide +kernel
theorem dX12_put_76 : decode cX12_put 76 = .ok (.aload_n 0, 1) := by decide +kernel
theorem dX12_put_77 : decode cX12_put 77 = .ok (.getfield 120, 3) := by decide +kernel
theorem dX12_put_80 : decode cX12_put 80 = .ok (.iload_n 1, 1) := by decide +kernel
theorem dX12_put_81 : decode cX12_put 81 = .ok (.iload_n 3, 1) := by decide +kernel
theorem dX12_put_82 : decode cX12_put 82 = .ok (.iload 5, 2) := by decide +kernel
theorem dX12_put_84 : decode cX12_put 84 = .ok (.iadd, 1) := by decide +kernel
theorem dX12_put_85 : decode cX12_put 85 = .ok (.iastore, 1) := by decide +kernel
theorem dX12_put_86 : decode cX12_put 86 = .ok (.aload_n 0, 1) := by decide +kernel
theorem dX12_put_87 : decode cX12_put 87 = .ok (.getfield 129, 3) := by decide +kernel
theorem dX12_put_90 : decode cX12_put 90 = .ok (.iload_n 1, 1) := by decide +kernel
theorem dX12_put_91 : decode cX12_put 91 = .ok (.aload_n 0, 1) := by decide +kernel
theorem dX12_put_92 : decode cX12_put 92 = .ok (.getfield 129, 3) := by decide +kernel
theorem dX12_put_95 : decode cX12_put 95 = .ok (.iload_n 1, 1) := by decide +kernel
theorem dX12_put_96 : decode cX12_put 96 = .ok (.iaload, 1) := by decide +kernel
theorem dX12_put_97 : decode cX12_put 97 = .ok (.iload_n 3, 1) := by decide +kernel
theorem dX12_put_98 : decode cX12_put 98 = .ok (.iload 5, 2) := by decide +kernel
theorem dX12_put_100 : decode cX12_put 100 = .ok (.iadd, 1) := by decide +kernel
theorem dX12_put_101 : decode cX12_put 101 = .ok (.invokestatic 182, 3) := by decide +kernel
theorem dX12_put_104 : decode cX12_put 104 = .ok (.iastore, 1) := by decide +kernel
theorem dX12_put_105 : decode cX12_put 105 = .ok (.aload_n 0, 1) := by decide +kernel
theorem dX12_put_106 : decode cX12_put 106 = .ok (.getfield 132, 3) := by decide +kernel
theorem dX12_put_109 : decode cX12_put 109 = .ok (.iload_n 1, 1) := by decide +kernel
theorem dX12_put_110 : decode cX12_put 110 = .ok (.aload_n 0, 1) := by decide +kernel
theorem dX12_put_111 : decode cX12_put 111 = .ok (.getfield 132, 3) := by decide +kernel
theorem dX12_put_114 : decode cX12_put 114 = .ok (.iload_n 1, 1) := by decide +kernel
theorem dX12_put_115 : decode cX12_put 115 = .ok (.iaload, 1) := by decide +kernel
theorem dX12_put_116 : decode cX12_put 116 = .ok (.iload 4, 2) := by decide +kernel
theorem dX12_put_118 : decode cX12_put 118 = .ok (.iload 6, 2) := by decide +kernel
theorem dX12_put_120 : decode cX12_put 120 = .ok (.iadd, 1) := by decide +kernel
theorem dX12_put_121 : decode cX12_put 121 = .ok (.invokestatic 182, 3) := by decide +kernel
theorem dX12_put_124 : decode cX12_put 124 = .ok (.iastore, 1) := by decide +kernel
theorem dX12_put_125 : decode cX12_put 125 = .ok (.aload_n 0, 1) := by decide +kernel
theorem dX12_put_126 : decode cX12_put 126 = .ok (.getfield 135, 3) := by decide +kernel
theorem dX12_put_129 : decode cX12_put 129 = .ok (.iload_n 1, 1) := by decide +kernel
theorem dX12_put_130 : decode cX12_put 130 = .ok (.iconst 1, 1) := by decide +kernel
theorem dX12_put_131 : decode cX12_put 131 = .ok (.bastore, 1) := by decide +kernel
theorem dX12_put_132 : decode cX12_put 132 = .ok (.return_, 1) := by decide +kernel
set_option maxHeartbeats 4000000 in
set_option maxRecDepth 100000 in
theorem m_X12_put (l : Launch) {Z : pZ} (S : pSh Z) {h : pH} (I : Iv Z h) (a : Int32) (behind : Int32) (left : Int32) (top : Int32) (width : Int32) (tall : Int32) (ha : 0 ≤ a.toInt ∧ a.toInt ≤ 39) : pMet l yX12_put cX12_put 7 none 1 0 0 21 Z h [.ref (zB Z + 137), .int a, .int behind, .int left, .int top, .int width, .int tall] (pQv Z (fun Z1 h1 => Z = Z1 ∧ Iv Z h1 ∧ agr [(180, 1000), (172, 1000), (173, 1000), (171, 1000), (174, 1000), (175, 1000), (176, 1000)] h h1)) := by
  refine pOfW (lv := [(0, .ref (zB Z + 137)), (1, .int a), (2, .int behind), (3, .int left), (4, .int top), (5, .int width), (6, .int tall)]) (by decide) (Nat.le_of_ble_eq_true rfl) rfl ?_
  intro p e s m below meth c ls M hr hlk hnm V hl
  have hx := M.1.1
  have hb := M.1.2.1
  have A : agr [] h h := agr.rf
  refine lv_aload_n hx hb dX12_put_0 rfl (lv_at hl 0 rfl) ?_
  refine pg_r M V 12 73 (sm_this S) pC12 fk12_73 (sm_item S).2.2 lkF_X12_150 dX12_put_1 ?_
  refine lv_iconst (v := 0) hx hb dX12_put_4 (by decide) ?_
  refine lv_iload_n hx hb dX12_put_5 rfl (lv_at hl 3 rfl) ?_
  have k_0 : (0 : Int32).toInt = 0 := rfl
  refine ps_i M V (sm_item S).1 (by rw [(sm_item S).2.1]; exact pi_in (by omega)) dX12_put_6 (fun H locs V => ?_)
  have A := A.wk (l3 := [(180, 1000)]) (by decide)
  have A := A.upA (o := 180) (k := (0 : Int32).toNatClampNeg) (v := left) (by decide)
  have I := I.up (k := (0 : Int32).toNatClampNeg) (v := left) (sm_item S).1 (pi_full _)
  refine lv_aload_n hx hb dX12_put_7 rfl (lv_at hl 0 rfl) ?_
  refine pg_r M V 12 73 (sm_this S) pC12 fk12_73 (sm_item S).2.2 lkF_X12_150 dX12_put_8 ?_
  refine lv_iconst (v := 1) hx hb dX12_put_11 (by decide) ?_
  refine lv_iload hx hb dX12_put_12 (lv_at hl 4 rfl) ?_
  have k_1 : (1 : Int32).toInt = 1 := rfl
  refine ps_i M V (sm_item S).1 (by rw [(sm_item S).2.1]; exact pi_in (by omega)) dX12_put_14 (fun H locs V => ?_)
  have A := A.upA (o := 180) (k := (1 : Int32).toNatClampNeg) (v := top) (by decide)
  have I := I.up (k := (1 : Int32).toNatClampNeg) (v := top) (sm_item S).1 (pi_full _)
  refine lv_aload_n hx hb dX12_put_15 rfl (lv_at hl 0 rfl) ?_
  refine pg_r M V 12 73 (sm_this S) pC12 fk12_73 (sm_item S).2.2 lkF_X12_150 dX12_put_16 ?_
  refine lv_iconst (v := 2) hx hb dX12_put_19 (by decide) ?_
  refine lv_iload_n hx hb dX12_put_20 rfl (lv_at hl 3 rfl) ?_
  refine lv_iload hx hb dX12_put_21 (lv_at hl 5 rfl) ?_
  refine lv_iadd hx hb dX12_put_23 ?_
  refine lv_topi (fun v1 ev1 => ?_)
  have k_2 : (2 : Int32).toInt = 2 := rfl
  refine ps_i M V (sm_item S).1 (by rw [(sm_item S).2.1]; exact pi_in (by omega)) dX12_put_24 (fun H locs V => ?_)
  have A := A.upA (o := 180) (k := (2 : Int32).toNatClampNeg) (v := v1) (by decide)
  have I := I.up (k := (2 : Int32).toNatClampNeg) (v := v1) (sm_item S).1 (pi_full _)
  refine lv_aload_n hx hb dX12_put_25 rfl (lv_at hl 0 rfl) ?_
  refine pg_r M V 12 73 (sm_this S) pC12 fk12_73 (sm_item S).2.2 lkF_X12_150 dX12_put_26 ?_
  refine lv_iconst (v := 3) hx hb dX12_put_29 (by decide) ?_
  refine lv_iload hx hb dX12_put_30 (lv_at hl 4 rfl) ?_
  refine lv_iload hx hb dX12_put_32 (lv_at hl 6 rfl) ?_
  refine lv_iadd hx hb dX12_put_34 ?_
  refine lv_topi (fun v2 ev2 => ?_)
  have k_3 : (3 : Int32).toInt = 3 := rfl
  refine ps_i M V (sm_item S).1 (by rw [(sm_item S).2.1]; exact pi_in (by omega)) dX12_put_35 (fun H locs V => ?_)
  have A := A.upA (o := 180) (k := (3 : Int32).toNatClampNeg) (v := v2) (by decide)
  have I := I.up (k := (3 : Int32).toNatClampNeg) (v := v2) (sm_item S).1 (pi_full _)
  refine lv_iload_n hx hb dX12_put_36 rfl (lv_at hl 2 rfl) ?_
  refine lv_if_ne (tgt := 56) hx hb dX12_put_37 (by decide) (fun c_37 => ?_) (fun c_37 => ?_)
  · skip
    have c_37 := pi_ne c_37
    refine lv_aload_n hx hb dX12_put_56 rfl (lv_at hl 0 rfl) ?_
    refine pg_r M V 12 64 (sm_this S) pC12 fk12_64 (sm_lineBottom S).2.2 lkF_X12_126 dX12_put_57 ?_
    refine lv_iload_n hx hb dX12_put_60 rfl (lv_at hl 1 rfl) ?_
    refine lv_aload_n hx hb dX12_put_61 rfl (lv_at hl 0 rfl) ?_
    refine pg_r M V 12 64 (sm_this S) pC12 fk12_64 (sm_lineBottom S).2.2 lkF_X12_126 dX12_put_62 ?_
    refine lv_iload_n hx hb dX12_put_65 rfl (lv_at hl 1 rfl) ?_
    refine pa_i M V (sm_lineBottom S).1 (by rw [(sm_lineBottom S).2.1]; exact pi_in (by omega)) dX12_put_66 ?_
    refine lv_topi (fun v3 ev3 => ?_)
    refine lv_iload hx hb dX12_put_67 (lv_at hl 4 rfl) ?_
    refine lv_iload hx hb dX12_put_69 (lv_at hl 6 rfl) ?_
    refine lv_iadd hx hb dX12_put_71 ?_
    refine lv_topi (fun v4 ev4 => ?_)
    refine pk_i (pr_S M V (m_X12_max l (Z := Z) (h := _) v3 v4) km_X12_max lkM_X12_182 rfl hl.1 rfl (Nat.le_of_ble_eq_true rfl) ⟨Nat.le_of_ble_eq_true rfl, Nat.le_of_ble_eq_true rfl⟩ ⟨Nat.le_of_ble_eq_true rfl, Nat.le_of_ble_eq_true rfl⟩ dX12_put_72) V (fun r5 Zr5 hr5 H locs pr5 _ _ V => ?_)
    obtain ⟨rfl, rfl, fr5_0, fr5_1, fr5_2⟩ := pr5
    refine ps_i M V (sm_lineBottom S).1 (by rw [(sm_lineBottom S).2.1]; exact pi_in (by omega)) dX12_put_75 (fun H locs V => ?_)
    have A := A.wk (l3 := [(180, 1000), (173, 1000)]) (by decide)
    have A := A.upA (o := 173) (k := a.toNatClampNeg) (v := r5) (by decide)
    have I := I.up (k := a.toNatClampNeg) (v := r5) (sm_lineBottom S).1 (pi_full _)
    refine lv_aload_n hx hb dX12_put_76 rfl (lv_at hl 0 rfl) ?_
    refine pg_r M V 12 62 (sm_this S) pC12 fk12_62 (sm_endX S).2.2 lkF_X12_120 dX12_put_77 ?_
    refine lv_iload_n hx hb dX12_put_80 rfl (lv_at hl 1 rfl) ?_
    refine lv_iload_n hx hb dX12_put_81 rfl (lv_at hl 3 rfl) ?_
    refine lv_iload hx hb dX12_put_82 (lv_at hl 5 rfl) ?_
    refine lv_iadd hx hb dX12_put_84 ?_
    refine lv_topi (fun v6 ev6 => ?_)
    refine ps_i M V (sm_endX S).1 (by rw [(sm_endX S).2.1]; exact pi_in (by omega)) dX12_put_85 (fun H locs V => ?_)
    have A := A.wk (l3 := [(180, 1000), (173, 1000), (171, 1000)]) (by decide)
    have A := A.upA (o := 171) (k := a.toNatClampNeg) (v := v6) (by decide)
    have I := I.up (k := a.toNatClampNeg) (v := v6) (sm_endX S).1 (pi_full _)
    refine lv_aload_n hx hb dX12_put_86 rfl (lv_at hl 0 rfl) ?_
    refine pg_r M V 12 65 (sm_this S) pC12 fk12_65 (sm_farX S).2.2 lkF_X12_129 dX12_put_87 ?_
    refine lv_iload_n hx hb dX12_put_90 rfl (lv_at hl 1 rfl) ?_
    refine lv_aload_n hx hb dX12_put_91 rfl (lv_at hl 0 rfl) ?_
    refine pg_r M V 12 65 (sm_this S) pC12 fk12_65 (sm_farX S).2.2 lkF_X12_129 dX12_put_92 ?_
    refine lv_iload_n hx hb dX12_put_95 rfl (lv_at hl 1 rfl) ?_
    refine pa_i M V (sm_farX S).1 (by rw [(sm_farX S).2.1]; exact pi_in (by omega)) dX12_put_96 ?_
    refine lv_topi (fun v7 ev7 => ?_)
    refine lv_iload_n hx hb dX12_put_97 rfl (lv_at hl 3 rfl) ?_
    refine lv_iload hx hb dX12_put_98 (lv_at hl 5 rfl) ?_
    refine lv_iadd hx hb dX12_put_100 ?_
    refine lv_topi (fun v8 ev8 => ?_)
    refine pk_i (pr_S M V (m_X12_max l (Z := Z) (h := _) v7 v8) km_X12_max lkM_X12_182 rfl hl.1 rfl (Nat.le_of_ble_eq_true rfl) ⟨Nat.le_of_ble_eq_true rfl, Nat.le_of_ble_eq_true rfl⟩ ⟨Nat.le_of_ble_eq_true rfl, Nat.le_of_ble_eq_true rfl⟩ dX12_put_101) V (fun r9 Zr9 hr9 H locs pr9 _ _ V => ?_)
    obtain ⟨rfl, rfl, fr9_0, fr9_1, fr9_2⟩ := pr9
    refine ps_i M V (sm_farX S).1 (by rw [(sm_farX S).2.1]; exact pi_in (by omega)) dX12_put_104 (fun H locs V => ?_)
    have A := A.wk (l3 := [(180, 1000), (173, 1000), (171, 1000), (174, 1000)]) (by decide)
    have A := A.upA (o := 174) (k := a.toNatClampNeg) (v := r9) (by decide)
    have I := I.up (k := a.toNatClampNeg) (v := r9) (sm_farX S).1 (pi_full _)
    refine lv_aload_n hx hb dX12_put_105 rfl (lv_at hl 0 rfl) ?_
    refine pg_r M V 12 66 (sm_this S) pC12 fk12_66 (sm_farY S).2.2 lkF_X12_132 dX12_put_106 ?_
    refine lv_iload_n hx hb dX12_put_109 rfl (lv_at hl 1 rfl) ?_
    refine lv_aload_n hx hb dX12_put_110 rfl (lv_at hl 0 rfl) ?_
    refine pg_r M V 12 66 (sm_this S) pC12 fk12_66 (sm_farY S).2.2 lkF_X12_132 dX12_put_111 ?_
    refine lv_iload_n hx hb dX12_put_114 rfl (lv_at hl 1 rfl) ?_
    refine pa_i M V (sm_farY S).1 (by rw [(sm_farY S).2.1]; exact pi_in (by omega)) dX12_put_115 ?_
    refine lv_topi (fun v10 ev10 => ?_)
    refine lv_iload hx hb dX12_put_116 (lv_at hl 4 rfl) ?_
    refine lv_iload hx hb dX12_put_118 (lv_at hl 6 rfl) ?_
    refine lv_iadd hx hb dX12_put_120 ?_
    refine lv_topi (fun v11 ev11 => ?_)
    refine pk_i (pr_S M V (m_X12_max l (Z := Z) (h := _) v10 v11) km_X12_max lkM_X12_182 rfl hl.1 rfl (Nat.le_of_ble_eq_true rfl) ⟨Nat.le_of_ble_eq_true rfl, Nat.le_of_ble_eq_true rfl⟩ ⟨Nat.le_of_ble_eq_true rfl, Nat.le_of_ble_eq_true rfl⟩ dX12_put_121) V (fun r12 Zr12 hr12 H locs pr12 _ _ V => ?_)
    obtain ⟨rfl, rfl, fr12_0, fr12_1, fr12_2⟩ := pr12
    refine ps_i M V (sm_farY S).1 (by rw [(sm_farY S).2.1]; exact pi_in (by omega)) dX12_put_124 (fun H locs V => ?_)
    have A := A.wk (l3 := [(180, 1000), (173, 1000), (171, 1000), (174, 1000), (175, 1000)]) (by decide)
    have A := A.upA (o := 175) (k := a.toNatClampNeg) (v := r12) (by decide)
    have I := I.up (k := a.toNatClampNeg) (v := r12) (sm_farY S).1 (pi_full _)
    refine lv_aload_n hx hb dX12_put_125 rfl (lv_at hl 0 rfl) ?_
    refine pg_r M V 12 67 (sm_this S) pC12 fk12_67 (sm_some S).2.2 lkF_X12_135 dX12_put_126 ?_
    refine lv_iload_n hx hb dX12_put_129 rfl (lv_at hl 1 rfl) ?_
    refine lv_iconst (v := 1) hx hb dX12_put_130 (by decide) ?_
    refine ps_z M V (sm_some S).1 (by rw [(sm_some S).2.1]; exact pi_in (by omega)) (pi_z (by omega)) dX12_put_131 (fun H locs V => ?_)
    have A := A.wk (l3 := [(180, 1000), (173, 1000), (171, 1000), (174, 1000), (175, 1000), (176, 1000)]) (by decide)
    have A := A.upA (o := 176) (k := a.toNatClampNeg) (v := (1 : Int32)) (by decide)
    have I := I.up (k := a.toNatClampNeg) (v := (1 : Int32)) (sm_some S).1 (show (0 : Int) ≤ (1 : Int32).toInt ∧ (1 : Int32).toInt ≤ (1 : Int) by omega)
    exact pe_v M V rfl rfl hr hlk ⟨rfl, I, A.wk (by decide)⟩ ⟨Nat.le_refl _, Nat.le_refl _⟩ dX12_put_132
  · skip
    have c_37 := pi_eq.mp c_37
    refine lv_aload_n hx hb dX12_put_40 rfl (lv_at hl 0 rfl) ?_
    refine pg_r M V 12 63 (sm_this S) pC12 fk12_63 (sm_lineTop S).2.2 lkF_X12_123 dX12_put_41 ?_
    refine lv_iload_n hx hb dX12_put_44 rfl (lv_at hl 1 rfl) ?_
    refine lv_iload hx hb dX12_put_45 (lv_at hl 4 rfl) ?_
    refine ps_i M V (sm_lineTop S).1 (by rw [(sm_lineTop S).2.1]; exact pi_in (by omega)) dX12_put_47 (fun H locs V => ?_)
    have A := A.wk (l3 := [(180, 1000), (172, 1000)]) (by decide)
    have A := A.upA (o := 172) (k := a.toNatClampNeg) (v := top) (by decide)
    have I := I.up (k := a.toNatClampNeg) (v := top) (sm_lineTop S).1 (pi_full _)
    refine lv_aload_n hx hb dX12_put_48 rfl (lv_at hl 0 rfl) ?_
    refine pg_r M V 12 64 (sm_this S) pC12 fk12_64 (sm_lineBottom S).2.2 lkF_X12_126 dX12_put_49 ?_
    refine lv_iload_n hx hb dX12_put_52 rfl (lv_at hl 1 rfl) ?_
    refine lv_iload hx hb dX12_put_53 (lv_at hl 4 rfl) ?_
    refine ps_i M V (sm_lineBottom S).1 (by rw [(sm_lineBottom S).2.1]; exact pi_in (by omega)) dX12_put_55 (fun H locs V => ?_)
    have A := A.wk (l3 := [(180, 1000), (172, 1000), (173, 1000)]) (by decide)
    have A := A.upA (o := 173) (k := a.toNatClampNeg) (v := top) (by decide)
    have I := I.up (k := a.toNatClampNeg) (v := top) (sm_lineBottom S).1 (pi_full _)
    refine lv_aload_n hx hb dX12_put_56 rfl (lv_at hl 0 rfl) ?_
    refine pg_r M V 12 64 (sm_this S) pC12 fk12_64 (sm_lineBottom S).2.2 lkF_X12_126 dX12_put_57 ?_
    refine lv_iload_n hx hb dX12_put_60 rfl (lv_at hl 1 rfl) ?_
    refine lv_aload_n hx hb dX12_put_61 rfl (lv_at hl 0 rfl) ?_
    refine pg_r M V 12 64 (sm_this S) pC12 fk12_64 (sm_lineBottom S).2.2 lkF_X12_126 dX12_put_62 ?_
    refine lv_iload_n hx hb dX12_put_65 rfl (lv_at hl 1 rfl) ?_
    refine pa_iv M V (v := top) (sm_lineBottom S).1 (by rw [(sm_lineBottom S).2.1]; exact pi_in (by omega)) u2_at dX12_put_66 ?_
    refine lv_iload hx hb dX12_put_67 (lv_at hl 4 rfl) ?_
    refine lv_iload hx hb dX12_put_69 (lv_at hl 6 rfl) ?_
    refine lv_iadd hx hb dX12_put_71 ?_
    refine lv_topi (fun v13 ev13 => ?_)
    refine pk_i (pr_S M V (m_X12_max l (Z := Z) (h := _) top v13) km_X12_max lkM_X12_182 rfl hl.1 rfl (Nat.le_of_ble_eq_true rfl) ⟨Nat.le_of_ble_eq_true rfl, Nat.le_of_ble_eq_true rfl⟩ ⟨Nat.le_of_ble_eq_true rfl, Nat.le_of_ble_eq_true rfl⟩ dX12_put_72) V (fun r14 Zr14 hr14 H locs pr14 _ _ V => ?_)
    obtain ⟨rfl, rfl, fr14_0, fr14_1, fr14_2⟩ := pr14
    refine ps_i M V (sm_lineBottom S).1 (by rw [(sm_lineBottom S).2.1]; exact pi_in (by omega)) dX12_put_75 (fun H locs V => ?_)
    have A := A.upA (o := 173) (k := a.toNatClampNeg) (v := r14) (by decide)
    have I := I.up (k := a.toNatClampNeg) (v := r14) (sm_lineBottom S).1 (pi_full _)
    refine lv_aload_n hx hb dX12_put_76 rfl (lv_at hl 0 rfl) ?_
    refine pg_r M V 12 62 (sm_this S) pC12 fk12_62 (sm_endX S).2.2 lkF_X12_120 dX12_put_77 ?_
    refine lv_iload_n hx hb dX12_put_80 rfl (lv_at hl 1 rfl) ?_
    refine lv_iload_n hx hb dX12_put_81 rfl (lv_at hl 3 rfl) ?_
    refine lv_iload hx hb dX12_put_82 (lv_at hl 5 rfl) ?_
    refine lv_iadd hx hb dX12_put_84 ?_
    refine lv_topi (fun v15 ev15 => ?_)
    refine ps_i M V (sm_endX S).1 (by rw [(sm_endX S).2.1]; exact pi_in (by omega)) dX12_put_85 (fun H locs V => ?_)
    have A := A.wk (l3 := [(180, 1000), (172, 1000), (173, 1000), (171, 1000)]) (by decide)
    have A := A.upA (o := 171) (k := a.toNatClampNeg) (v := v15) (by decide)
    have I := I.up (k := a.toNatClampNeg) (v := v15) (sm_endX S).1 (pi_full _)
    refine lv_aload_n hx hb dX12_put_86 rfl (lv_at hl 0 rfl) ?_
    refine pg_r M V 12 65 (sm_this S) pC12 fk12_65 (sm_farX S).2.2 lkF_X12_129 dX12_put_87 ?_
    refine lv_iload_n hx hb dX12_put_90 rfl (lv_at hl 1 rfl) ?_
    refine lv_aload_n hx hb dX12_put_91 rfl (lv_at hl 0 rfl) ?_
    refine pg_r M V 12 65 (sm_this S) pC12 fk12_65 (sm_farX S).2.2 lkF_X12_129 dX12_put_92 ?_
    refine lv_iload_n hx hb dX12_put_95 rfl (lv_at hl 1 rfl) ?_
    refine pa_i M V (sm_farX S).1 (by rw [(sm_farX S).2.1]; exact pi_in (by omega)) dX12_put_96 ?_
    refine lv_topi (fun v16 ev16 => ?_)
    refine lv_iload_n hx hb dX12_put_97 rfl (lv_at hl 3 rfl) ?_
    refine lv_iload hx hb dX12_put_98 (lv_at hl 5 rfl) ?_
    refine lv_iadd hx hb dX12_put_100 ?_
    refine lv_topi (fun v17 ev17 => ?_)
    refine pk_i (pr_S M V (m_X12_max l (Z := Z) (h := _) v16 v17) km_X12_max lkM_X12_182 rfl hl.1 rfl (Nat.le_of_ble_eq_true rfl) ⟨Nat.le_of_ble_eq_true rfl, Nat.le_of_ble_eq_true rfl⟩ ⟨Nat.le_of_ble_eq_true rfl, Nat.le_of_ble_eq_true rfl⟩ dX12_put_101) V (fun r18 Zr18 hr18 H locs pr18 _ _ V => ?_)
    obtain ⟨rfl, rfl, fr18_0, fr18_1, fr18_2⟩ := pr18
    refine ps_i M V (sm_farX S).1 (by rw [(sm_farX S).2.1]; exact pi_in (by omega)) dX12_put_104 (fun H locs V => ?_)
    have A := A.wk (l3 := [(180, 1000), (172, 1000), (173, 1000), (171, 1000), (174, 1000)]) (by decide)
    have A := A.upA (o := 174) (k := a.toNatClampNeg) (v := r18) (by decide)
    have I := I.up (k := a.toNatClampNeg) (v := r18) (sm_farX S).1 (pi_full _)
    refine lv_aload_n hx hb dX12_put_105 rfl (lv_at hl 0 rfl) ?_
    refine pg_r M V 12 66 (sm_this S) pC12 fk12_66 (sm_farY S).2.2 lkF_X12_132 dX12_put_106 ?_
    refine lv_iload_n hx hb dX12_put_109 rfl (lv_at hl 1 rfl) ?_
    refine lv_aload_n hx hb dX12_put_110 rfl (lv_at hl 0 rfl) ?_
    refine pg_r M V 12 66 (sm_this S) pC12 fk12_66 (sm_farY S).2.2 lkF_X12_132 dX12_put_111 ?_
    refine lv_iload_n hx hb dX12_put_114 rfl (lv_at hl 1 rfl) ?_
    refine pa_i M V (sm_farY S).1 (by rw [(sm_farY S).2.1]; exact pi_in (by omega)) dX12_put_115 ?_
    refine lv_topi (fun v19 ev19 => ?_)
    refine lv_iload hx hb dX12_put_116 (lv_at hl 4 rfl) ?_
    refine lv_iload hx hb dX12_put_118 (lv_at hl 6 rfl) ?_
    refine lv_iadd hx hb dX12_put_120 ?_
    refine lv_topi (fun v20 ev20 => ?_)
    refine pk_i (pr_S M V (m_X12_max l (Z := Z) (h := _) v19 v20) km_X12_max lkM_X12_182 rfl hl.1 rfl (Nat.le_of_ble_eq_true rfl) ⟨Nat.le_of_ble_eq_true rfl, Nat.le_of_ble_eq_true rfl⟩ ⟨Nat.le_of_ble_eq_true rfl, Nat.le_of_ble_eq_true rfl⟩ dX12_put_121) V (fun r21 Zr21 hr21 H locs pr21 _ _ V => ?_)
    obtain ⟨rfl, rfl, fr21_0, fr21_1, fr21_2⟩ := pr21
    refine ps_i M V (sm_farY S).1 (by rw [(sm_farY S).2.1]; exact pi_in (by omega)) dX12_put_124 (fun H locs V => ?_)
    have A := A.wk (l3 := [(180, 1000), (172, 1000), (173, 1000), (171, 1000), (174, 1000), (175, 1000)]) (by decide)
    have A := A.upA (o := 175) (k := a.toNatClampNeg) (v := r21) (by decide)
    have I := I.up (k := a.toNatClampNeg) (v := r21) (sm_farY S).1 (pi_full _)
    refine lv_aload_n hx hb dX12_put_125 rfl (lv_at hl 0 rfl) ?_
    refine pg_r M V 12 67 (sm_this S) pC12 fk12_67 (sm_some S).2.2 lkF_X12_135 dX12_put_126 ?_
    refine lv_iload_n hx hb dX12_put_129 rfl (lv_at hl 1 rfl) ?_
    refine lv_iconst (v := 1) hx hb dX12_put_130 (by decide) ?_
    refine ps_z M V (sm_some S).1 (by rw [(sm_some S).2.1]; exact pi_in (by omega)) (pi_z (by omega)) dX12_put_131 (fun H locs V => ?_)
    have A := A.wk (l3 := [(180, 1000), (172, 1000), (173, 1000), (171, 1000), (174, 1000), (175, 1000), (176, 1000)]) (by decide)
    have A := A.upA (o := 176) (k := a.toNatClampNeg) (v := (1 : Int32)) (by decide)
    have I := I.up (k := a.toNatClampNeg) (v := (1 : Int32)) (sm_some S).1 (show (0 : Int) ≤ (1 : Int32).toInt ∧ (1 : Int32).toInt ≤ (1 : Int) by omega)
    exact pe_v M V rfl rfl hr hlk ⟨rfl, I, A.wk (by decide)⟩ ⟨Nat.le_refl _, Nat.le_refl _⟩ dX12_put_132
theorem dX12_idOf_0 : decode cX12_idOf 0 = .ok (.bipush 31, 2) := by decide +kernel
theorem dX12_idOf_2 : decode cX12_idOf 2 = .ok (.aload_n 0, 1) := by decide +kernel
theorem dX12_idOf_3 : decode cX12_idOf 3 = .ok (.getfield 108, 3) := by decide +kernel
theorem dX12_idOf_6 : decode cX12_idOf 6 = .ok (.aload_n 0, 1) := by decide +kernel
theorem dX12_idOf_7 : decode cX12_idOf 7 = .ok (.getfield 282, 3) := by decide +kernel
theorem dX12_idOf_10 : decode cX12_idOf 10 = .ok (.iconst 1, 1) := by decide +kernel
theorem dX12_idOf_11 : decode cX12_idOf 11 = .ok (.isub, 1) := by decide +kernel
theorem dX12_idOf_12 : decode cX12_idOf 12 = .ok (.iaload, 1) := by decide +kernel
theorem dX12_idOf_13 : decode cX12_idOf 13 = .ok (.imul, 1) := by decide +kernel
theorem dX12_idOf_14 : decode cX12_idOf 14 = .ok (.iconst 1, 1) := by decide +kernel
theorem dX12_idOf_15 : decode cX12_idOf 15 = .ok (.iadd, 1) := by decide +kernel
theorem dX12_idOf_16 : decode cX12_idOf 16 = .ok (.iload_n 1, 1) := by decide +kernel
theorem dX12_idOf_17 : decode cX12_idOf 17 = .ok (.iadd, 1) := by decide +kernel
theorem dX12_idOf_18 : decode cX12_idOf 18 = .ok (.istore_n 2, 1) := by decide +kernel
theorem dX12_idOf_19 : decode cX12_idOf 19 = .ok (.iload_n 2, 1) := by decide +kernel
theorem dX12_idOf_20 : decode cX12_idOf 20 = .ok (.ifCond .ne 7, 3) := by decide +kernel
theorem dX12_idOf_23 : decode cX12_idOf 23 = .ok (.iconst 1, 1) := by decide +kernel
theorem dX12_idOf_24 : decode cX12_idOf 24 = .ok (.goto 4, 3) := by decide +kernel
theorem dX12_idOf_27 : decode cX12_idOf 27 = .ok (.iload_n 2, 1) := by decide +kernel
theorem dX12_idOf_28 : decode cX12_idOf 28 = .ok (.ireturn, 1) := by decide +kernel
set_option maxHeartbeats 4000000 in
set_option maxRecDepth 100000 in
theorem m_X12_idOf (l : Launch) {Z : pZ} (S : pSh Z) {h : pH} (I : Iv Z h) (label : Int32) (hp : 1 ≤ (h 137 58).toInt) : pMet l yX12_idOf cX12_idOf 3 (some .int) 0 0 0 0 Z h [.ref (zB Z + 137), .int label] (pQi Z (fun r Z1 h1 => Z = Z1 ∧ Iv Z h1 ∧ agr [] h h1)) := by
  refine pOfW (lv := [(0, .ref (zB Z + 137)), (1, .int label)]) (by decide) (Nat.le_of_ble_eq_true rfl) rfl ?_
  intro p e s m below meth c ls M hr hlk hnm V hl
  have hx := M.1.1
  have hb := M.1.2.1
  have A : agr [] h h := agr.rf
  have i_58 : 0 ≤ (h 137 58).toInt ∧ (h 137 58).toInt ≤ 40 := I.get (sm_this S) 58
  refine lv_bipush (v := 31) hx hb dX12_idOf_0 (by decide) ?_
  refine lv_aload_n hx hb dX12_idOf_2 rfl (lv_at hl 0 rfl) ?_
  refine pg_r M V 12 57 (sm_this S) pC12 fk12_57 (sm_pile S).2.2 lkF_X12_108 dX12_idOf_3 ?_
  refine lv_aload_n hx hb dX12_idOf_6 rfl (lv_at hl 0 rfl) ?_
  refine pg_i M V 12 58 (sm_this S) pC12 fk12_58 lkF_X12_282 dX12_idOf_7 ?_
  refine lv_topi (fun v1 ev1 => ?_)
  have tv1 : 0 ≤ v1.toInt ∧ v1.toInt ≤ 40 := by rw [ev1]; exact I.get (sm_this S) 58
  have uv1 : v1.toInt = (h 137 58).toInt := congrArg Int32.toInt ev1
  refine lv_iconst (v := 1) hx hb dX12_idOf_10 (by decide) ?_
  refine lv_isub hx hb dX12_idOf_11 ?_
  refine lv_topi (fun v2 ev2 => ?_)
  have k_1 : (1 : Int32).toInt = 1 := rfl
  have tv2 : v2.toInt = v1.toInt - 1 := by rw [ev2]; have z9 := pi_sub (x := v1) (y := (1 : Int32)); rw [k_1] at z9; exact z9 (by omega)
  refine pa_i M V (sm_pile S).1 (by rw [(sm_pile S).2.1]; exact pi_in (by omega)) dX12_idOf_12 ?_
  refine lv_topi (fun v3 ev3 => ?_)
  refine lv_imul hx hb dX12_idOf_13 ?_
  refine lv_topi (fun v4 ev4 => ?_)
  refine lv_iconst (v := 1) hx hb dX12_idOf_14 (by decide) ?_
  refine lv_iadd hx hb dX12_idOf_15 ?_
  refine lv_topi (fun v5 ev5 => ?_)
  refine lv_iload_n hx hb dX12_idOf_16 rfl (lv_at hl 1 rfl) ?_
  refine lv_iadd hx hb dX12_idOf_17 ?_
  refine lv_topi (fun v6 ev6 => ?_)
  refine lv_istore_n (lv' := [(2, .int v6), (0, .ref (zB Z + 137)), (1, .int label)]) hx hb dX12_idOf_18 rfl hl (by decide) rfl (fun ls hl => ?_)
  refine lv_iload_n hx hb dX12_idOf_19 rfl (lv_at hl 0 rfl) ?_
  refine lv_if_ne (tgt := 27) hx hb dX12_idOf_20 (by decide) (fun c_20 => ?_) (fun c_20 => ?_)
  · skip
    have k_0 : (0 : Int32).toInt = 0 := rfl
    have c_20 := pi_ne c_20
    refine lv_iload_n hx hb dX12_idOf_27 rfl (lv_at hl 0 rfl) ?_
    exact pe_i M V rfl rfl hr hlk rfl ⟨rfl, I, A.wk (by decide)⟩ ⟨Nat.le_refl _, Nat.le_refl _⟩ dX12_idOf_28
  · skip
    have k_0 : (0 : Int32).toInt = 0 := rfl
    have c_20 := pi_eq.mp c_20
    refine lv_iconst (v := 1) hx hb dX12_idOf_23 (by decide) ?_
    refine lv_goto (tgt := 28) hx hb dX12_idOf_24 (by decide) ?_
    exact pe_i M V rfl rfl hr hlk rfl ⟨rfl, I, A.wk (by decide)⟩ ⟨Nat.le_refl _, Nat.le_refl _⟩ dX12_idOf_28
theorem dX12_lay_0 : decode cX12_lay 0 = .ok (.aload_n 0, 1) := by decide +kernel
theorem dX12_lay_1 : decode cX12_lay 1 = .ok (.getfield 285, 3) := by decide +kernel
theorem dX12_lay_4 : decode cX12_lay 4 = .ok (.iconst 1, 1) := by decide +kernel
theorem dX12_lay_5 : decode cX12_lay 5 = .ok (.isub, 1) := by decide +kernel
theorem dX12_lay_6 : decode cX12_lay 6 = .ok (.istore 4, 2) := by decide +kernel
theorem dX12_lay_8 : decode cX12_lay 8 = .ok (.aload_n 0, 1) := by decide +kernel
theorem dX12_lay_9 : decode cX12_lay 9 = .ok (.getfield 138, 3) := by decide +kernel
theorem dX12_lay_12 : decode cX12_lay 12 = .ok (.iload 4, 2) := by decide +kernel
theorem dX12_lay_14 : decode cX12_lay 14 = .ok (.baload, 1) := by decide +kernel
theorem dX12_lay_15 : decode cX12_lay 15 = .ok (.ifCond .eq 17, 3) := by decide +kernel
theorem dX12_lay_18 : decode cX12_lay 18 = .ok (.aload_n 0, 1) := by decide +kernel
theorem dX12_lay_19 : decode cX12_lay 19 = .ok (.getfield 135, 3) := by decide +kernel
theorem dX12_lay_22 : decode cX12_lay 22 = .ok (.iload 4, 2) := by decide +kernel
theorem dX12_lay_24 : decode cX12_lay 24 = .ok (.baload, 1) := by decide +kernel
theorem dX12_lay_25 : decode cX12_lay 25 = .ok (.ifCond .eq 7, 3) := by decide +kernel
theorem dX12_lay_28 : decode cX12_lay 28 = .ok (.iconst 1, 1) := by decide +kernel
theorem dX12_lay_29 : decode cX12_lay 29 = .ok (.goto 4, 3) := by decide +kernel
theorem dX12_lay_32 : decode cX12_lay 32 = .ok (.iconst 0, 1) := by decide +kernel
theorem dX12_lay_33 : decode cX12_lay 33 = .ok (.istore 5, 2) := by decide +kernel
theorem dX12_lay_35 : decode cX12_lay 35 = .ok (.aload_n 0, 1) := by decide +kernel
theorem dX12_lay_36 : decode cX12_lay 36 = .ok (.iload 4, 2) := by decide +kernel
theorem dX12_lay_38 : decode cX12_lay 38 = .ok (.iload 5, 2) := by decide +kernel
theorem dX12_lay_40 : decode cX12_lay 40 = .ok (.aload_n 0, 1) := by decide +kernel
theorem dX12_lay_41 : decode cX12_lay 41 = .ok (.iload 4, 2) := by decide +kernel
theorem dX12_lay_43 : decode cX12_lay 43 = .ok (.invokevirtual 350, 3) := by decide +kernel
theorem dX12_lay_46 : decode cX12_lay 46 = .ok (.aload_n 0, 1) := by decide +kernel
theorem dX12_lay_47 : decode cX12_lay 47 = .ok (.iload 4, 2) := by decide +kernel
theorem dX12_lay_49 : decode cX12_lay 49 = .ok (.invokevirtual 353, 3) := by decide +kernel
theorem dX12_lay_52 : decode cX12_lay 52 = .ok (.iload_n 2, 1) := by decide +kernel
theorem dX12_lay_53 : decode cX12_lay 53 = .ok (.iload_n 3, 1) := by decide +kernel
theorem dX12_lay_54 : decode cX12_lay 54 = .ok (.invokevirtual 346, 3) := by decide +kernel
theorem dX12_lay_57 : decode cX12_lay 57 = .ok (.aload_n 0, 1) := by decide +kernel
theorem dX12_lay_58 : decode cX12_lay 58 = .ok (.getfield 138, 3) := by decide +kernel
theorem dX12_lay_61 : decode cX12_lay 61 = .ok (.iload 4, 2) := by decide +kernel
theorem dX12_lay_63 : decode cX12_lay 63 = .ok (.iconst 0, 1) := by decide +kernel
theorem dX12_lay_64 : decode cX12_lay 64 = .ok (.bastore, 1) := by decide +kernel
theorem dX12_lay_65 : decode cX12_lay 65 = .ok (.aload_n 0, 1) := by decide +kernel
theorem dX12_lay_66 : decode cX12_lay 66 = .ok (.iload_n 1, 1) := by decide +kernel
theorem dX12_lay_67 : decode cX12_lay 67 = .ok (.invokevirtual 356, 3) := by decide +kernel
theorem dX12_lay_70 : decode cX12_lay 70 = .ok (.istore 6, 2) := by decide +kernel
theorem dX12_lay_72 : decode cX12_lay 72 = .ok (.aload_n 0, 1) := by decide +kernel
theorem dX12_lay_73 : decode cX12_lay 73 = .ok (.iload 6, 2) := by decide +kernel
theorem dX12_lay_75 : decode cX12_lay 75 = .ok (.invokevirtual 324, 3) := by decide +kernel
theorem dX12_lay_78 : decode cX12_lay 78 = .ok (.iload 6, 2) := by decide +kernel
theorem dX12_lay_80 : decode cX12_lay 80 = .ok (.ireturn, 1) := by decide +kernel
set_option maxHeartbeats 4000000 in
set_option maxRecDepth 100000 in
theorem m_X12_lay (l : Launch) {Z : pZ} (S : pSh Z) {h : pH} (I : Iv Z h) (label : Int32) (width : Int32) (tall : Int32) (hp : 1 ≤ (h 137 58).toInt) (ha : 1 ≤ (h 137 70).toInt) (ht : (h 137 25).toInt ≤ 599) : pMet l yX12_lay cX12_lay 7 (some .int) 2 0 0 47 Z h [.ref (zB Z + 137), .int label, .int width, .int tall] (pQi Z (fun r Z1 h1 => Z = Z1 ∧ Iv Z h1 ∧ agr [(180, 1000), (172, 1000), (173, 1000), (171, 1000), (174, 1000), (175, 1000), (176, 1000), (177, 1000), (137, 25), (143, 1000)] h h1 ∧ ((h 137 25).toInt + (1) ≤ (h1 137 25).toInt ∧ (h1 137 25).toInt ≤ (h 137 25).toInt + (1)))) := by
  refine pOfW (lv := [(0, .ref (zB Z + 137)), (1, .int label), (2, .int width), (3, .int tall)]) (by decide) (Nat.le_of_ble_eq_true rfl) rfl ?_
  intro p e s m below meth c ls M hr hlk hnm V hl
  have hx := M.1.1
  have hb := M.1.2.1
  have A : agr [] h h := agr.rf
  have i_58 : 0 ≤ (h 137 58).toInt ∧ (h 137 58).toInt ≤ 40 := I.get (sm_this S) 58
  have i_70 : 0 ≤ (h 137 70).toInt ∧ (h 137 70).toInt ≤ 40 := I.get (sm_this S) 70
  have i_25 : 0 ≤ (h 137 25).toInt ∧ (h 137 25).toInt ≤ 600 := I.get (sm_this S) 25
  refine lv_aload_n hx hb dX12_lay_0 rfl (lv_at hl 0 rfl) ?_
  refine pg_i M V 12 70 (sm_this S) pC12 fk12_70 lkF_X12_285 dX12_lay_1 ?_
  refine lv_topi (fun v1 ev1 => ?_)
  have tv1 : 0 ≤ v1.toInt ∧ v1.toInt ≤ 40 := by rw [ev1]; exact I.get (sm_this S) 70
  have uv1 : v1.toInt = (h 137 70).toInt := congrArg Int32.toInt ev1
  refine lv_iconst (v := 1) hx hb dX12_lay_4 (by decide) ?_
  refine lv_isub hx hb dX12_lay_5 ?_
  refine lv_topi (fun v2 ev2 => ?_)
  refine lv_istore (lv' := [(4, .int v2), (0, .ref (zB Z + 137)), (1, .int label), (2, .int width), (3, .int tall)]) hx hb dX12_lay_6 hl (by decide) rfl (fun ls hl => ?_)
  refine lv_aload_n hx hb dX12_lay_8 rfl (lv_at hl 1 rfl) ?_
  refine pg_r M V 12 68 (sm_this S) pC12 fk12_68 (sm_near S).2.2 lkF_X12_138 dX12_lay_9 ?_
  refine lv_iload hx hb dX12_lay_12 (lv_at hl 0 rfl) ?_
  have k_1 : (1 : Int32).toInt = 1 := rfl
  have tv2 : v2.toInt = v1.toInt - 1 := by rw [ev2]; have z9 := pi_sub (x := v1) (y := (1 : Int32)); rw [k_1] at z9; exact z9 (by omega)
  refine pa_z M V (sm_near S).1 (by rw [(sm_near S).2.1]; exact pi_in (by omega)) dX12_lay_14 ?_
  refine lv_topi (fun v3 ev3 => ?_)
  have tv3 : 0 ≤ v3.toInt ∧ v3.toInt ≤ 1 := by rw [ev3]; exact I.get (sm_near S).1 _
  refine lv_if_eq (tgt := 32) hx hb dX12_lay_15 (by decide) (fun c_15 => ?_) (fun c_15 => ?_)
  · skip
    have k_0 : (0 : Int32).toInt = 0 := rfl
    have c_15 := pi_eq.mp c_15
    refine lv_iconst (v := 0) hx hb dX12_lay_32 (by decide) ?_
    refine lv_istore (lv' := [(5, .int (0 : Int32)), (4, .int v2), (0, .ref (zB Z + 137)), (1, .int label), (2, .int width), (3, .int tall)]) hx hb dX12_lay_33 hl (by decide) rfl (fun ls hl => ?_)
    refine lv_aload_n hx hb dX12_lay_35 rfl (lv_at hl 2 rfl) ?_
    refine lv_iload hx hb dX12_lay_36 (lv_at hl 1 rfl) ?_
    refine lv_iload hx hb dX12_lay_38 (lv_at hl 0 rfl) ?_
    refine lv_aload_n hx hb dX12_lay_40 rfl (lv_at hl 2 rfl) ?_
    refine lv_iload hx hb dX12_lay_41 (lv_at hl 1 rfl) ?_
    refine pk_i (pr_V M V (m_X12_nextX l S I v2 (by omega)) km_X12_nextX (sm_this S) pC12 lkM_X12_350 rfl hl.1 rfl (Nat.le_of_ble_eq_true rfl) ⟨Nat.le_of_ble_eq_true rfl, Nat.le_of_ble_eq_true rfl⟩ ⟨Nat.le_of_ble_eq_true rfl, Nat.le_of_ble_eq_true rfl⟩ dX12_lay_43) V (fun r4 Zr4 hr4 H locs pr4 _ _ V => ?_)
    obtain ⟨rfl, I, pA_r4⟩ := pr4
    have A := A.tr pA_r4 (by decide)
    have w_r4_58 : (hr4 137 58).toInt = (h 137 58).toInt := congrArg Int32.toInt (pA_r4.get 137 58 (by decide))
    have w_r4_70 : (hr4 137 70).toInt = (h 137 70).toInt := congrArg Int32.toInt (pA_r4.get 137 70 (by decide))
    have w_r4_25 : (hr4 137 25).toInt = (h 137 25).toInt := congrArg Int32.toInt (pA_r4.get 137 25 (by decide))
    refine lv_aload_n hx hb dX12_lay_46 rfl (lv_at hl 2 rfl) ?_
    refine lv_iload hx hb dX12_lay_47 (lv_at hl 1 rfl) ?_
    refine pk_i (pr_V M V (m_X12_nextY l S I v2 (by omega)) km_X12_nextY (sm_this S) pC12 lkM_X12_353 rfl hl.1 rfl (Nat.le_of_ble_eq_true rfl) ⟨Nat.le_of_ble_eq_true rfl, Nat.le_of_ble_eq_true rfl⟩ ⟨Nat.le_of_ble_eq_true rfl, Nat.le_of_ble_eq_true rfl⟩ dX12_lay_49) V (fun r5 Zr5 hr5 H locs pr5 _ _ V => ?_)
    obtain ⟨rfl, I, pA_r5⟩ := pr5
    have A := A.tr pA_r5 (by decide)
    have w_r5_58 : (hr5 137 58).toInt = (hr4 137 58).toInt := congrArg Int32.toInt (pA_r5.get 137 58 (by decide))
    have w_r5_70 : (hr5 137 70).toInt = (hr4 137 70).toInt := congrArg Int32.toInt (pA_r5.get 137 70 (by decide))
    have w_r5_25 : (hr5 137 25).toInt = (hr4 137 25).toInt := congrArg Int32.toInt (pA_r5.get 137 25 (by decide))
    refine lv_iload_n hx hb dX12_lay_52 rfl (lv_at hl 4 rfl) ?_
    refine lv_iload_n hx hb dX12_lay_53 rfl (lv_at hl 5 rfl) ?_
    refine pk_v (pr_V M V (m_X12_put l S I v2 (0 : Int32) r4 r5 width tall (by omega)) km_X12_put (sm_this S) pC12 lkM_X12_346 rfl hl.1 rfl (Nat.le_of_ble_eq_true rfl) ⟨Nat.le_of_ble_eq_true rfl, Nat.le_of_ble_eq_true rfl⟩ ⟨Nat.le_of_ble_eq_true rfl, Nat.le_of_ble_eq_true rfl⟩ dX12_lay_54) V (fun Zr6 hr6 H locs pr6 _ _ V => ?_)
    obtain ⟨rfl, I, pA_r6⟩ := pr6
    have A := A.wk (l3 := [(180, 1000), (172, 1000), (173, 1000), (171, 1000), (174, 1000), (175, 1000), (176, 1000)]) (by decide)
    have A := A.tr pA_r6 (by decide)
    have w_r6_58 : (hr6 137 58).toInt = (hr5 137 58).toInt := congrArg Int32.toInt (pA_r6.get 137 58 (by decide))
    have w_r6_70 : (hr6 137 70).toInt = (hr5 137 70).toInt := congrArg Int32.toInt (pA_r6.get 137 70 (by decide))
    have w_r6_25 : (hr6 137 25).toInt = (hr5 137 25).toInt := congrArg Int32.toInt (pA_r6.get 137 25 (by decide))
    refine lv_aload_n hx hb dX12_lay_57 rfl (lv_at hl 2 rfl) ?_
    refine pg_r M V 12 68 (sm_this S) pC12 fk12_68 (sm_near S).2.2 lkF_X12_138 dX12_lay_58 ?_
    refine lv_iload hx hb dX12_lay_61 (lv_at hl 1 rfl) ?_
    refine lv_iconst (v := 0) hx hb dX12_lay_63 (by decide) ?_
    refine ps_z M V (sm_near S).1 (by rw [(sm_near S).2.1]; exact pi_in (by omega)) (pi_z (by omega)) dX12_lay_64 (fun H locs V => ?_)
    have A := A.wk (l3 := [(180, 1000), (172, 1000), (173, 1000), (171, 1000), (174, 1000), (175, 1000), (176, 1000), (177, 1000)]) (by decide)
    have A := A.upA (o := 177) (k := v2.toNatClampNeg) (v := (0 : Int32)) (by decide)
    have I := I.up (k := v2.toNatClampNeg) (v := (0 : Int32)) (sm_near S).1 (show (0 : Int) ≤ (0 : Int32).toInt ∧ (0 : Int32).toInt ≤ (1 : Int) by omega)
    refine lv_aload_n hx hb dX12_lay_65 rfl (lv_at hl 2 rfl) ?_
    refine lv_iload_n hx hb dX12_lay_66 rfl (lv_at hl 3 rfl) ?_
    refine pk_i (pr_V M V (m_X12_idOf l S I label (show 1 ≤ (hr6 137 58).toInt by omega)) km_X12_idOf (sm_this S) pC12 lkM_X12_356 rfl hl.1 rfl (Nat.le_of_ble_eq_true rfl) ⟨Nat.le_of_ble_eq_true rfl, Nat.le_of_ble_eq_true rfl⟩ ⟨Nat.le_of_ble_eq_true rfl, Nat.le_of_ble_eq_true rfl⟩ dX12_lay_67) V (fun r7 Zr7 hr7 H locs pr7 _ _ V => ?_)
    obtain ⟨rfl, I, pA_r7⟩ := pr7
    have A := A.tr pA_r7 (by decide)
    have w_r7_58 : (hr7 137 58).toInt = (hr6 137 58).toInt := congrArg Int32.toInt (pA_r7.get 137 58 (by decide))
    have w_r7_70 : (hr7 137 70).toInt = (hr6 137 70).toInt := congrArg Int32.toInt (pA_r7.get 137 70 (by decide))
    have w_r7_25 : (hr7 137 25).toInt = (hr6 137 25).toInt := congrArg Int32.toInt (pA_r7.get 137 25 (by decide))
    refine lv_istore (lv' := [(6, .int r7), (5, .int (0 : Int32)), (4, .int v2), (0, .ref (zB Z + 137)), (1, .int label), (2, .int width), (3, .int tall)]) hx hb dX12_lay_70 hl (by decide) rfl (fun ls hl => ?_)
    refine lv_aload_n hx hb dX12_lay_72 rfl (lv_at hl 3 rfl) ?_
    refine lv_iload hx hb dX12_lay_73 (lv_at hl 0 rfl) ?_
    refine pk_v (pr_V M V (m_X12_tell l S I r7 (show (hr7 137 25).toInt ≤ 599 by omega)) km_X12_tell (sm_this S) pC12 lkM_X12_324 rfl hl.1 rfl (Nat.le_of_ble_eq_true rfl) ⟨Nat.le_of_ble_eq_true rfl, Nat.le_of_ble_eq_true rfl⟩ ⟨Nat.le_of_ble_eq_true rfl, Nat.le_of_ble_eq_true rfl⟩ dX12_lay_75) V (fun Zr8 hr8 H locs pr8 _ _ V => ?_)
    obtain ⟨rfl, I, pA_r8, fr8_0⟩ := pr8
    have fr8_0 : (hr7 137 25).toInt + (1) ≤ (hr8 137 25).toInt ∧ (hr8 137 25).toInt ≤ (hr7 137 25).toInt + (1) := fr8_0
    have A := A.wk (l3 := [(180, 1000), (172, 1000), (173, 1000), (171, 1000), (174, 1000), (175, 1000), (176, 1000), (177, 1000), (137, 25), (143, 1000)]) (by decide)
    have A := A.tr pA_r8 (by decide)
    have w_r8_58 : (hr8 137 58).toInt = (hr7 137 58).toInt := congrArg Int32.toInt (pA_r8.get 137 58 (by decide))
    have w_r8_70 : (hr8 137 70).toInt = (hr7 137 70).toInt := congrArg Int32.toInt (pA_r8.get 137 70 (by decide))
    refine lv_iload hx hb dX12_lay_78 (lv_at hl 0 rfl) ?_
    exact pe_i M V rfl rfl hr hlk rfl ⟨rfl, I, A.wk (by decide), (show (h 137 25).toInt + (1) ≤ (hr8 137 25).toInt ∧ (hr8 137 25).toInt ≤ (h 137 25).toInt + (1) by omega)⟩ ⟨Nat.le_refl _, Nat.le_refl _⟩ dX12_lay_80
  · skip
    have k_0 : (0 : Int32).toInt = 0 := rfl
    have c_15 := pi_ne c_15
    refine lv_aload_n hx hb dX12_lay_18 rfl (lv_at hl 1 rfl) ?_
    refine pg_r M V 12 67 (sm_this S) pC12 fk12_67 (sm_some S).2.2 lkF_X12_135 dX12_lay_19 ?_
    refine lv_iload hx hb dX12_lay_22 (lv_at hl 0 rfl) ?_
    refine pa_z M V (sm_some S).1 (by rw [(sm_some S).2.1]; exact pi_in (by omega)) dX12_lay_24 ?_
    refine lv_topi (fun v9 ev9 => ?_)
    have tv9 : 0 ≤ v9.toInt ∧ v9.toInt ≤ 1 := by rw [ev9]; exact I.get (sm_some S).1 _
    refine lv_if_eq (tgt := 32) hx hb dX12_lay_25 (by decide) (fun c_25 => ?_) (fun c_25 => ?_)
    · skip
      have c_25 := pi_eq.mp c_25
      refine lv_iconst (v := 0) hx hb dX12_lay_32 (by decide) ?_
      refine lv_istore (lv' := [(5, .int (0 : Int32)), (4, .int v2), (0, .ref (zB Z + 137)), (1, .int label), (2, .int width), (3, .int tall)]) hx hb dX12_lay_33 hl (by decide) rfl (fun ls hl => ?_)
      refine lv_aload_n hx hb dX12_lay_35 rfl (lv_at hl 2 rfl) ?_
      refine lv_iload hx hb dX12_lay_36 (lv_at hl 1 rfl) ?_
      refine lv_iload hx hb dX12_lay_38 (lv_at hl 0 rfl) ?_
      refine lv_aload_n hx hb dX12_lay_40 rfl (lv_at hl 2 rfl) ?_
      refine lv_iload hx hb dX12_lay_41 (lv_at hl 1 rfl) ?_
      refine pk_i (pr_V M V (m_X12_nextX l S I v2 (by omega)) km_X12_nextX (sm_this S) pC12 lkM_X12_350 rfl hl.1 rfl (Nat.le_of_ble_eq_true rfl) ⟨Nat.le_of_ble_eq_true rfl, Nat.le_of_ble_eq_true rfl⟩ ⟨Nat.le_of_ble_eq_true rfl, Nat.le_of_ble_eq_true rfl⟩ dX12_lay_43) V (fun r10 Zr10 hr10 H locs pr10 _ _ V => ?_)
      obtain ⟨rfl, I, pA_r10⟩ := pr10
      have A := A.tr pA_r10 (by decide)
      have w_r10_58 : (hr10 137 58).toInt = (h 137 58).toInt := congrArg Int32.toInt (pA_r10.get 137 58 (by decide))
      have w_r10_70 : (hr10 137 70).toInt = (h 137 70).toInt := congrArg Int32.toInt (pA_r10.get 137 70 (by decide))
      have w_r10_25 : (hr10 137 25).toInt = (h 137 25).toInt := congrArg Int32.toInt (pA_r10.get 137 25 (by decide))
      refine lv_aload_n hx hb dX12_lay_46 rfl (lv_at hl 2 rfl) ?_
      refine lv_iload hx hb dX12_lay_47 (lv_at hl 1 rfl) ?_
      refine pk_i (pr_V M V (m_X12_nextY l S I v2 (by omega)) km_X12_nextY (sm_this S) pC12 lkM_X12_353 rfl hl.1 rfl (Nat.le_of_ble_eq_true rfl) ⟨Nat.le_of_ble_eq_true rfl, Nat.le_of_ble_eq_true rfl⟩ ⟨Nat.le_of_ble_eq_true rfl, Nat.le_of_ble_eq_true rfl⟩ dX12_lay_49) V (fun r11 Zr11 hr11 H locs pr11 _ _ V => ?_)
      obtain ⟨rfl, I, pA_r11⟩ := pr11
      have A := A.tr pA_r11 (by decide)
      have w_r11_58 : (hr11 137 58).toInt = (hr10 137 58).toInt := congrArg Int32.toInt (pA_r11.get 137 58 (by decide))
      have w_r11_70 : (hr11 137 70).toInt = (hr10 137 70).toInt := congrArg Int32.toInt (pA_r11.get 137 70 (by decide))
      have w_r11_25 : (hr11 137 25).toInt = (hr10 137 25).toInt := congrArg Int32.toInt (pA_r11.get 137 25 (by decide))
      refine lv_iload_n hx hb dX12_lay_52 rfl (lv_at hl 4 rfl) ?_
      refine lv_iload_n hx hb dX12_lay_53 rfl (lv_at hl 5 rfl) ?_
      refine pk_v (pr_V M V (m_X12_put l S I v2 (0 : Int32) r10 r11 width tall (by omega)) km_X12_put (sm_this S) pC12 lkM_X12_346 rfl hl.1 rfl (Nat.le_of_ble_eq_true rfl) ⟨Nat.le_of_ble_eq_true rfl, Nat.le_of_ble_eq_true rfl⟩ ⟨Nat.le_of_ble_eq_true rfl, Nat.le_of_ble_eq_true rfl⟩ dX12_lay_54) V (fun Zr12 hr12 H locs pr12 _ _ V => ?_)
      obtain ⟨rfl, I, pA_r12⟩ := pr12
      have A := A.wk (l3 := [(180, 1000), (172, 1000), (173, 1000), (171, 1000), (174, 1000), (175, 1000), (176, 1000)]) (by decide)
      have A := A.tr pA_r12 (by decide)
      have w_r12_58 : (hr12 137 58).toInt = (hr11 137 58).toInt := congrArg Int32.toInt (pA_r12.get 137 58 (by decide))
      have w_r12_70 : (hr12 137 70).toInt = (hr11 137 70).toInt := congrArg Int32.toInt (pA_r12.get 137 70 (by decide))
      have w_r12_25 : (hr12 137 25).toInt = (hr11 137 25).toInt := congrArg Int32.toInt (pA_r12.get 137 25 (by decide))
      refine lv_aload_n hx hb dX12_lay_57 rfl (lv_at hl 2 rfl) ?_
      refine pg_r M V 12 68 (sm_this S) pC12 fk12_68 (sm_near S).2.2 lkF_X12_138 dX12_lay_58 ?_
      refine lv_iload hx hb dX12_lay_61 (lv_at hl 1 rfl) ?_
      refine lv_iconst (v := 0) hx hb dX12_lay_63 (by decide) ?_
      refine ps_z M V (sm_near S).1 (by rw [(sm_near S).2.1]; exact pi_in (by omega)) (pi_z (by omega)) dX12_lay_64 (fun H locs V => ?_)
      have A := A.wk (l3 := [(180, 1000), (172, 1000), (173, 1000), (171, 1000), (174, 1000), (175, 1000), (176, 1000), (177, 1000)]) (by decide)
      have A := A.upA (o := 177) (k := v2.toNatClampNeg) (v := (0 : Int32)) (by decide)
      have I := I.up (k := v2.toNatClampNeg) (v := (0 : Int32)) (sm_near S).1 (show (0 : Int) ≤ (0 : Int32).toInt ∧ (0 : Int32).toInt ≤ (1 : Int) by omega)
      refine lv_aload_n hx hb dX12_lay_65 rfl (lv_at hl 2 rfl) ?_
      refine lv_iload_n hx hb dX12_lay_66 rfl (lv_at hl 3 rfl) ?_
      refine pk_i (pr_V M V (m_X12_idOf l S I label (show 1 ≤ (hr12 137 58).toInt by omega)) km_X12_idOf (sm_this S) pC12 lkM_X12_356 rfl hl.1 rfl (Nat.le_of_ble_eq_true rfl) ⟨Nat.le_of_ble_eq_true rfl, Nat.le_of_ble_eq_true rfl⟩ ⟨Nat.le_of_ble_eq_true rfl, Nat.le_of_ble_eq_true rfl⟩ dX12_lay_67) V (fun r13 Zr13 hr13 H locs pr13 _ _ V => ?_)
      obtain ⟨rfl, I, pA_r13⟩ := pr13
      have A := A.tr pA_r13 (by decide)
      have w_r13_58 : (hr13 137 58).toInt = (hr12 137 58).toInt := congrArg Int32.toInt (pA_r13.get 137 58 (by decide))
      have w_r13_70 : (hr13 137 70).toInt = (hr12 137 70).toInt := congrArg Int32.toInt (pA_r13.get 137 70 (by decide))
      have w_r13_25 : (hr13 137 25).toInt = (hr12 137 25).toInt := congrArg Int32.toInt (pA_r13.get 137 25 (by decide))
      refine lv_istore (lv' := [(6, .int r13), (5, .int (0 : Int32)), (4, .int v2), (0, .ref (zB Z + 137)), (1, .int label), (2, .int width), (3, .int tall)]) hx hb dX12_lay_70 hl (by decide) rfl (fun ls hl => ?_)
      refine lv_aload_n hx hb dX12_lay_72 rfl (lv_at hl 3 rfl) ?_
      refine lv_iload hx hb dX12_lay_73 (lv_at hl 0 rfl) ?_
      refine pk_v (pr_V M V (m_X12_tell l S I r13 (show (hr13 137 25).toInt ≤ 599 by omega)) km_X12_tell (sm_this S) pC12 lkM_X12_324 rfl hl.1 rfl (Nat.le_of_ble_eq_true rfl) ⟨Nat.le_of_ble_eq_true rfl, Nat.le_of_ble_eq_true rfl⟩ ⟨Nat.le_of_ble_eq_true rfl, Nat.le_of_ble_eq_true rfl⟩ dX12_lay_75) V (fun Zr14 hr14 H locs pr14 _ _ V => ?_)
      obtain ⟨rfl, I, pA_r14, fr14_0⟩ := pr14
      have fr14_0 : (hr13 137 25).toInt + (1) ≤ (hr14 137 25).toInt ∧ (hr14 137 25).toInt ≤ (hr13 137 25).toInt + (1) := fr14_0
      have A := A.wk (l3 := [(180, 1000), (172, 1000), (173, 1000), (171, 1000), (174, 1000), (175, 1000), (176, 1000), (177, 1000), (137, 25), (143, 1000)]) (by decide)
      have A := A.tr pA_r14 (by decide)
      have w_r14_58 : (hr14 137 58).toInt = (hr13 137 58).toInt := congrArg Int32.toInt (pA_r14.get 137 58 (by decide))
      have w_r14_70 : (hr14 137 70).toInt = (hr13 137 70).toInt := congrArg Int32.toInt (pA_r14.get 137 70 (by decide))
      refine lv_iload hx hb dX12_lay_78 (lv_at hl 0 rfl) ?_
      exact pe_i M V rfl rfl hr hlk rfl ⟨rfl, I, A.wk (by decide), (show (h 137 25).toInt + (1) ≤ (hr14 137 25).toInt ∧ (hr14 137 25).toInt ≤ (h 137 25).toInt + (1) by omega)⟩ ⟨Nat.le_refl _, Nat.le_refl _⟩ dX12_lay_80
    · skip
      have c_25 := pi_ne c_25
      refine lv_iconst (v := 1) hx hb dX12_lay_28 (by decide) ?_
      refine lv_goto (tgt := 33) hx hb dX12_lay_29 (by decide) ?_
      refine lv_istore (lv' := [(5, .int (1 : Int32)), (4, .int v2), (0, .ref (zB Z + 137)), (1, .int label), (2, .int width), (3, .int tall)]) hx hb dX12_lay_33 hl (by decide) rfl (fun ls hl => ?_)
      refine lv_aload_n hx hb dX12_lay_35 rfl (lv_at hl 2 rfl) ?_
      refine lv_iload hx hb dX12_lay_36 (lv_at hl 1 rfl) ?_
      refine lv_iload hx hb dX12_lay_38 (lv_at hl 0 rfl) ?_
      refine lv_aload_n hx hb dX12_lay_40 rfl (lv_at hl 2 rfl) ?_
      refine lv_iload hx hb dX12_lay_41 (lv_at hl 1 rfl) ?_
      refine pk_i (pr_V M V (m_X12_nextX l S I v2 (by omega)) km_X12_nextX (sm_this S) pC12 lkM_X12_350 rfl hl.1 rfl (Nat.le_of_ble_eq_true rfl) ⟨Nat.le_of_ble_eq_true rfl, Nat.le_of_ble_eq_true rfl⟩ ⟨Nat.le_of_ble_eq_true rfl, Nat.le_of_ble_eq_true rfl⟩ dX12_lay_43) V (fun r15 Zr15 hr15 H locs pr15 _ _ V => ?_)
      obtain ⟨rfl, I, pA_r15⟩ := pr15
      have A := A.tr pA_r15 (by decide)
      have w_r15_58 : (hr15 137 58).toInt = (h 137 58).toInt := congrArg Int32.toInt (pA_r15.get 137 58 (by decide))
      have w_r15_70 : (hr15 137 70).toInt = (h 137 70).toInt := congrArg Int32.toInt (pA_r15.get 137 70 (by decide))
      have w_r15_25 : (hr15 137 25).toInt = (h 137 25).toInt := congrArg Int32.toInt (pA_r15.get 137 25 (by decide))
      refine lv_aload_n hx hb dX12_lay_46 rfl (lv_at hl 2 rfl) ?_
      refine lv_iload hx hb dX12_lay_47 (lv_at hl 1 rfl) ?_
      refine pk_i (pr_V M V (m_X12_nextY l S I v2 (by omega)) km_X12_nextY (sm_this S) pC12 lkM_X12_353 rfl hl.1 rfl (Nat.le_of_ble_eq_true rfl) ⟨Nat.le_of_ble_eq_true rfl, Nat.le_of_ble_eq_true rfl⟩ ⟨Nat.le_of_ble_eq_true rfl, Nat.le_of_ble_eq_true rfl⟩ dX12_lay_49) V (fun r16 Zr16 hr16 H locs pr16 _ _ V => ?_)
      obtain ⟨rfl, I, pA_r16⟩ := pr16
      have A := A.tr pA_r16 (by decide)
      have w_r16_58 : (hr16 137 58).toInt = (hr15 137 58).toInt := congrArg Int32.toInt (pA_r16.get 137 58 (by decide))
      have w_r16_70 : (hr16 137 70).toInt = (hr15 137 70).toInt := congrArg Int32.toInt (pA_r16.get 137 70 (by decide))
      have w_r16_25 : (hr16 137 25).toInt = (hr15 137 25).toInt := congrArg Int32.toInt (pA_r16.get 137 25 (by decide))
      refine lv_iload_n hx hb dX12_lay_52 rfl (lv_at hl 4 rfl) ?_
      refine lv_iload_n hx hb dX12_lay_53 rfl (lv_at hl 5 rfl) ?_
      refine pk_v (pr_V M V (m_X12_put l S I v2 (1 : Int32) r15 r16 width tall (by omega)) km_X12_put (sm_this S) pC12 lkM_X12_346 rfl hl.1 rfl (Nat.le_of_ble_eq_true rfl) ⟨Nat.le_of_ble_eq_true rfl, Nat.le_of_ble_eq_true rfl⟩ ⟨Nat.le_of_ble_eq_true rfl, Nat.le_of_ble_eq_true rfl⟩ dX12_lay_54) V (fun Zr17 hr17 H locs pr17 _ _ V => ?_)
      obtain ⟨rfl, I, pA_r17⟩ := pr17
      have A := A.wk (l3 := [(180, 1000), (172, 1000), (173, 1000), (171, 1000), (174, 1000), (175, 1000), (176, 1000)]) (by decide)
      have A := A.tr pA_r17 (by decide)
      have w_r17_58 : (hr17 137 58).toInt = (hr16 137 58).toInt := congrArg Int32.toInt (pA_r17.get 137 58 (by decide))
      have w_r17_70 : (hr17 137 70).toInt = (hr16 137 70).toInt := congrArg Int32.toInt (pA_r17.get 137 70 (by decide))
      have w_r17_25 : (hr17 137 25).toInt = (hr16 137 25).toInt := congrArg Int32.toInt (pA_r17.get 137 25 (by decide))
      refine lv_aload_n hx hb dX12_lay_57 rfl (lv_at hl 2 rfl) ?_
      refine pg_r M V 12 68 (sm_this S) pC12 fk12_68 (sm_near S).2.2 lkF_X12_138 dX12_lay_58 ?_
      refine lv_iload hx hb dX12_lay_61 (lv_at hl 1 rfl) ?_
      refine lv_iconst (v := 0) hx hb dX12_lay_63 (by decide) ?_
      refine ps_z M V (sm_near S).1 (by rw [(sm_near S).2.1]; exact pi_in (by omega)) (pi_z (by omega)) dX12_lay_64 (fun H locs V => ?_)
      have A := A.wk (l3 := [(180, 1000), (172, 1000), (173, 1000), (171, 1000), (174, 1000), (175, 1000), (176, 1000), (177, 1000)]) (by decide)
      have A := A.upA (o := 177) (k := v2.toNatClampNeg) (v := (0 : Int32)) (by decide)
      have I := I.up (k := v2.toNatClampNeg) (v := (0 : Int32)) (sm_near S).1 (show (0 : Int) ≤ (0 : Int32).toInt ∧ (0 : Int32).toInt ≤ (1 : Int) by omega)
      refine lv_aload_n hx hb dX12_lay_65 rfl (lv_at hl 2 rfl) ?_
      refine lv_iload_n hx hb dX12_lay_66 rfl (lv_at hl 3 rfl) ?_
      refine pk_i (pr_V M V (m_X12_idOf l S I label (show 1 ≤ (hr17 137 58).toInt by omega)) km_X12_idOf (sm_this S) pC12 lkM_X12_356 rfl hl.1 rfl (Nat.le_of_ble_eq_true rfl) ⟨Nat.le_of_ble_eq_true rfl, Nat.le_of_ble_eq_true rfl⟩ ⟨Nat.le_of_ble_eq_true rfl, Nat.le_of_ble_eq_true rfl⟩ dX12_lay_67) V (fun r18 Zr18 hr18 H locs pr18 _ _ V => ?_)
      obtain ⟨rfl, I, pA_r18⟩ := pr18
      have A := A.tr pA_r18 (by decide)
      have w_r18_58 : (hr18 137 58).toInt = (hr17 137 58).toInt := congrArg Int32.toInt (pA_r18.get 137 58 (by decide))
      have w_r18_70 : (hr18 137 70).toInt = (hr17 137 70).toInt := congrArg Int32.toInt (pA_r18.get 137 70 (by decide))
      have w_r18_25 : (hr18 137 25).toInt = (hr17 137 25).toInt := congrArg Int32.toInt (pA_r18.get 137 25 (by decide))
      refine lv_istore (lv' := [(6, .int r18), (5, .int (1 : Int32)), (4, .int v2), (0, .ref (zB Z + 137)), (1, .int label), (2, .int width), (3, .int tall)]) hx hb dX12_lay_70 hl (by decide) rfl (fun ls hl => ?_)
      refine lv_aload_n hx hb dX12_lay_72 rfl (lv_at hl 3 rfl) ?_
      refine lv_iload hx hb dX12_lay_73 (lv_at hl 0 rfl) ?_
      refine pk_v (pr_V M V (m_X12_tell l S I r18 (show (hr18 137 25).toInt ≤ 599 by omega)) km_X12_tell (sm_this S) pC12 lkM_X12_324 rfl hl.1 rfl (Nat.le_of_ble_eq_true rfl) ⟨Nat.le_of_ble_eq_true rfl, Nat.le_of_ble_eq_true rfl⟩ ⟨Nat.le_of_ble_eq_true rfl, Nat.le_of_ble_eq_true rfl⟩ dX12_lay_75) V (fun Zr19 hr19 H locs pr19 _ _ V => ?_)
      obtain ⟨rfl, I, pA_r19, fr19_0⟩ := pr19
      have fr19_0 : (hr18 137 25).toInt + (1) ≤ (hr19 137 25).toInt ∧ (hr19 137 25).toInt ≤ (hr18 137 25).toInt + (1) := fr19_0
      have A := A.wk (l3 := [(180, 1000), (172, 1000), (173, 1000), (171, 1000), (174, 1000), (175, 1000), (176, 1000), (177, 1000), (137, 25), (143, 1000)]) (by decide)
      have A := A.tr pA_r19 (by decide)
      have w_r19_58 : (hr19 137 58).toInt = (hr18 137 58).toInt := congrArg Int32.toInt (pA_r19.get 137 58 (by decide))
      have w_r19_70 : (hr19 137 70).toInt = (hr18 137 70).toInt := congrArg Int32.toInt (pA_r19.get 137 70 (by decide))
      refine lv_iload hx hb dX12_lay_78 (lv_at hl 0 rfl) ?_
      exact pe_i M V rfl rfl hr hlk rfl ⟨rfl, I, A.wk (by decide), (show (h 137 25).toInt + (1) ≤ (hr19 137 25).toInt ∧ (hr19 137 25).toInt ≤ (h 137 25).toInt + (1) by omega)⟩ ⟨Nat.le_refl _, Nat.le_refl _⟩ dX12_lay_80
theorem dX12_quad_0 : decode cX12_quad 0 = .ok (.iload_n 1, 1) := by decide +kernel
theorem dX12_quad_1 : decode cX12_quad 1 = .ok (.iload 7, 2) := by decide +kernel
theorem dX12_quad_3 : decode cX12_quad 3 = .ok (.invokestatic 182, 3) := by decide +kernel
theorem dX12_quad_6 : decode cX12_quad 6 = .ok (.iload_n 3, 1) := by decide +kernel
theorem dX12_quad_7 : decode cX12_quad 7 = .ok (.iload 9, 2) := by decide +kernel
theorem dX12_quad_9 : decode cX12_quad 9 = .ok (.invokestatic 178, 3) := by decide +kernel
theorem dX12_quad_12 : decode cX12_quad 12 = .ok (.if_icmp .ge 19, 3) := by decide +kernel
theorem dX12_quad_15 : decode cX12_quad 15 = .ok (.iload_n 2, 1) := by decide +kernel
theorem dX12_quad_16 : decode cX12_quad 16 = .ok (.iload 8, 2) := by decide +kernel
theorem dX12_quad_18 : decode cX12_quad 18 = .ok (.invokestatic 182, 3) := by decide +kernel
theorem dX12_quad_21 : decode cX12_quad 21 = .ok (.iload 4, 2) := by decide +kernel
theorem dX12_quad_23 : decode cX12_quad 23 = .ok (.iload 10, 2) := by decide +kernel
theorem dX12_quad_25 : decode cX12_quad 25 = .ok (.invokestatic 178, 3) := by decide +kernel
theorem dX12_quad_28 : decode cX12_quad 28 = .ok (.if_icmp .lt 4, 3) := by decide +kernel
theorem dX12_quad_31 : decode cX12_quad 31 = .ok (.return_, 1) := by decide +kernel
theorem dX12_quad_32 : decode cX12_quad 32 = .ok (.bipush 11, 2) := by decide +kernel
theorem dX12_quad_34 : decode cX12_quad 34 = .ok (.aload_n 0, 1) := by decide +kernel
theorem dX12_quad_35 : decode cX12_quad 35 = .ok (.getfield 288, 3) := by decide +kernel
theorem dX12_quad_38 : decode cX12_quad 38 = .ok (.imul, 1) := by decide +kernel
theorem dX12_quad_39 : decode cX12_quad 39 = .ok (.istore 11, 2) := by decide +kernel
theorem dX12_quad_41 : decode cX12_quad 41 = .ok (.aload_n 0, 1) := by decide +kernel
theorem dX12_quad_42 : decode cX12_quad 42 = .ok (.getfield 169, 3) := by decide +kernel
theorem dX12_quad_45 : decode cX12_quad 45 = .ok (.iload 11, 2) := by decide +kernel
theorem dX12_quad_47 : decode cX12_quad 47 = .ok (.aload_n 0, 1) := by decide +kernel
theorem dX12_quad_48 : decode cX12_quad 48 = .ok (.getfield 144, 3) := by decide +kernel
theorem dX12_quad_51 : decode cX12_quad 51 = .ok (.iastore, 1) := by decide +kernel
theorem dX12_quad_52 : decode cX12_quad 52 = .ok (.aload_n 0, 1) := by decide +kernel
theorem dX12_quad_53 : decode cX12_quad 53 = .ok (.getfield 169, 3) := by decide +kernel
theorem dX12_quad_56 : decode cX12_quad 56 = .ok (.iload 11, 2) := by decide +kernel
theorem dX12_quad_58 : decode cX12_quad 58 = .ok (.iconst 1, 1) := by decide +kernel
theorem dX12_quad_59 : decode cX12_quad 59 = .ok (.iadd, 1) := by decide +kernel
theorem dX12_quad_60 : decode cX12_quad 60 = .ok (.iload_n 1, 1) := by decide +kernel
theorem dX12_quad_61 : decode cX12_quad 61 = .ok (.iastore, 1) := by decide +kernel
theorem dX12_quad_62 : decode cX12_quad 62 = .ok (.aload_n 0, 1) := by decide +kernel
theorem dX12_quad_63 : decode cX12_quad 63 = .ok (.getfield 169, 3) := by decide +kernel
theorem dX12_quad_66 : decode cX12_quad 66 = .ok (.iload 11, 2) := by decide +kernel
theorem dX12_quad_68 : decode cX12_quad 68 = .ok (.iconst 2, 1) := by decide +kernel
theorem dX12_quad_69 : decode cX12_quad 69 = .ok (.iadd, 1) := by decide +kernel
theorem dX12_quad_70 : decode cX12_quad 70 = .ok (.iload_n 2, 1) := by decide +kernel
theorem dX12_quad_71 : decode cX12_quad 71 = .ok (.iastore, 1) := by decide +kernel
theorem dX12_quad_72 : decode cX12_quad 72 = .ok (.aload_n 0, 1) := by decide +kernel
theorem dX12_quad_73 : decode cX12_quad 73 = .ok (.getfield 169, 3) := by decide +kernel
theorem dX12_quad_76 : decode cX12_quad 76 = .ok (.iload 11, 2) := by decide +kernel
theorem dX12_quad_78 : decode cX12_quad 78 = .ok (.iconst 3, 1) := by decide +kernel
theorem dX12_quad_79 : decode cX12_quad 79 = .ok (.iadd, 1) := by decide +kernel
theorem dX12_quad_80 : decode cX12_quad 80 = .ok (.iload_n 3, 1) := by decide +kernel
theorem dX12_quad_81 : decode cX12_quad 81 = .ok (.iastore, 1) := by decide +kernel
theorem dX12_quad_82 : decode cX12_quad 82 = .ok (.aload_n 0, 1) := by decide +kernel
theorem dX12_quad_83 : decode cX12_quad 83 = .ok (.getfield 169, 3) := by decide +kernel
theorem dX12_quad_86 : decode cX12_quad 86 = .ok (.iload 11, 2) := by decide +kernel
theorem dX12_quad_88 : decode cX12_quad 88 = .ok (.iconst 4, 1) := by decide +kernel
theorem dX12_quad_89 : decode cX12_quad 89 = .ok (.iadd, 1) := by decide +kernel
theorem dX12_quad_90 : decode cX12_quad 90 = .ok (.iload 4, 2) := by decide +kernel
theorem dX12_quad_92 : decode cX12_quad 92 = .ok (.iastore, 1) := by decide +kernel
theorem dX12_quad_93 : decode cX12_quad 93 = .ok (.aload_n 0, 1) := by decide +kernel
theorem dX12_quad_94 : decode cX12_quad 94 = .ok (.getfield 169, 3) := by decide +kernel
theorem dX12_quad_97 : decode cX12_quad 97 = .ok (.iload 11, 2) := by decide +kernel
theorem dX12_quad_99 : decode cX12_quad 99 = .ok (.iconst 5, 1) := by decide +kernel
theorem dX12_quad_100 : decode cX12_quad 100 = .ok (.iadd, 1) := by decide +kernel
theorem dX12_quad_101 : decode cX12_quad 101 = .ok (.iload 5, 2) := by decide +kernel
theorem dX12_quad_103 : decode cX12_quad 103 = .ok (.iastore, 1) := by decide +kernel
theorem dX12_quad_104 : decode cX12_quad 104 = .ok (.aload_n 0, 1) := by decide +kernel
theorem dX12_quad_105 : decode cX12_quad 105 = .ok (.getfield 169, 3) := by decide +kernel
theorem dX12_quad_108 : decode cX12_quad 108 = .ok (.iload 11, 2) := by decide +kernel
theorem dX12_quad_110 : decode cX12_quad 110 = .ok (.bipush 6, 2) := by decide +kernel
theorem dX12_quad_112 : decode cX12_quad 112 = .ok (.iadd, 1) := by decide +kernel
theorem dX12_quad_113 : decode cX12_quad 113 = .ok (.iload 6, 2) := by decide +kernel
theorem dX12_quad_115 : decode cX12_quad 115 = .ok (.iastore, 1) := by decide +kernel
theorem dX12_quad_116 : decode cX12_quad 116 = .ok (.aload_n 0, 1) := by decide +kernel
theorem dX12_quad_117 : decode cX12_quad 117 = .ok (.getfield 169, 3) := by decide +kernel
theorem dX12_quad_120 : decode cX12_quad 120 = .ok (.iload 11, 2) := by decide +kernel
theorem dX12_quad_122 : decode cX12_quad 122 = .ok (.bipush 7, 2) := by decide +kernel
theorem dX12_quad_124 : decode cX12_quad 124 = .ok (.iadd, 1) := by decide +kernel
theorem dX12_quad_125 : decode cX12_quad 125 = .ok (.iload 7, 2) := by decide +kernel
theorem dX12_quad_127 : decode cX12_quad 127 = .ok (.iastore, 1) := by decide +kernel
theorem dX12_quad_128 : decode cX12_quad 128 = .ok (.aload_n 0, 1) := by decide +kernel
theorem dX12_quad_129 : decode cX12_quad 129 = .ok (.getfield 169, 3) := by decide +kernel
theorem dX12_quad_132 : decode cX12_quad 132 = .ok (.iload 11, 2) := by decide +kernel
theorem dX12_quad_134 : decode cX12_quad 134 = .ok (.bipush 8, 2) := by decide +kernel
theorem dX12_quad_136 : decode cX12_quad 136 = .ok (.iadd, 1) := by decide +kernel
theorem dX12_quad_137 : decode cX12_quad 137 = .ok (.iload 8, 2) := by decide +kernel
theorem dX12_quad_139 : decode cX12_quad 139 = .ok (.iastore, 1) := by decide +kernel
theorem dX12_quad_140 : decode cX12_quad 140 = .ok (.aload_n 0, 1) := by decide +kernel
theorem dX12_quad_141 : decode cX12_quad 141 = .ok (.getfield 169, 3) := by decide +kernel
theorem dX12_quad_144 : decode cX12_quad 144 = .ok (.iload 11, 2) := by decide +kernel
theorem dX12_quad_146 : decode cX12_quad 146 = .ok (.bipush 9, 2) := by decide +kernel
theorem dX12_quad_148 : decode cX12_quad 148 = .ok (.iadd, 1) := by decide +kernel
theorem dX12_quad_149 : decode cX12_quad 149 = .ok (.iload 9, 2) := by decide +kernel
theorem dX12_quad_151 : decode cX12_quad 151 = .ok (.iastore, 1) := by decide +kernel
theorem dX12_quad_152 : decode cX12_quad 152 = .ok (.aload_n 0, 1) := by decide +kernel
theorem dX12_quad_153 : decode cX12_quad 153 = .ok (.getfield 169, 3) := by decide +kernel
theorem dX12_quad_156 : decode cX12_quad 156 = .ok (.iload 11, 2) := by decide +kernel
theorem dX12_quad_158 : decode cX12_quad 158 = .ok (.bipush 10, 2) := by decide +kernel
theorem dX12_quad_160 : decode cX12_quad 160 = .ok (.iadd, 1) := by decide +kernel
theorem dX12_quad_161 : decode cX12_quad 161 = .ok (.iload 10, 2) := by decide +kernel
theorem dX12_quad_163 : decode cX12_quad 163 = .ok (.iastore, 1) := by decide +kernel
theorem dX12_quad_164 : decode cX12_quad 164 = .ok (.aload_n 0, 1) := by decide +kernel
theorem dX12_quad_165 : decode cX12_quad 165 = .ok (.dup, 1) := by decide +kernel
theorem dX12_quad_166 : decode cX12_quad 166 = .ok (.getfield 288, 3) := by decide +kernel
theorem dX12_quad_169 : decode cX12_quad 169 = .ok (.iconst 1, 1) := by decide +kernel
theorem dX12_quad_170 : decode cX12_quad 170 = .ok (.iadd, 1) := by decide +kernel
theorem dX12_quad_171 : decode cX12_quad 171 = .ok (.putfield 288, 3) := by decide +kernel
theorem dX12_quad_174 : decode cX12_quad 174 = .ok (.return_, 1) := by decide +kernel
set_option maxHeartbeats 4000000 in
set_option maxRecDepth 100000 in
theorem m_X12_quad (l : Launch) {Z : pZ} (S : pSh Z) {h : pH} (I : Iv Z h) (left : Int32) (top : Int32) (right : Int32) (bottom : Int32) (colour : Int32) (texture : Int32) (cl : Int32) (ct : Int32) (cr : Int32) (cb : Int32) (hp : (h 137 82).toInt ≤ 6999) : pMet l yX12_quad cX12_quad 12 none 1 0 0 21 Z h [.ref (zB Z + 137), .int left, .int top, .int right, .int bottom, .int colour, .int texture, .int cl, .int ct, .int cr, .int cb] (pQv Z (fun Z1 h1 => Z = Z1 ∧ Iv Z h1 ∧ agr [(137, 82), (186, 1000)] h h1 ∧ ((h 137 82).toInt + (0) ≤ (h1 137 82).toInt ∧ (h1 137 82).toInt ≤ (h 137 82).toInt + (1)))) := by
  refine pOfW (lv := [(0, .ref (zB Z + 137)), (1, .int left), (2, .int top), (3, .int right), (4, .int bottom), (5, .int colour), (6, .int texture), (7, .int cl), (8, .int ct), (9, .int cr), (10, .int cb)]) (by decide) (Nat.le_of_ble_eq_true rfl) rfl ?_
  intro p e s m below meth c ls M hr hlk hnm V hl
  have hx := M.1.1
  have hb := M.1.2.1
  have A : agr [] h h := agr.rf
  have i_82 : 0 ≤ (h 137 82).toInt ∧ (h 137 82).toInt ≤ 7000 := I.get (sm_this S) 82
  refine lv_iload_n hx hb dX12_quad_0 rfl (lv_at hl 1 rfl) ?_
  refine lv_iload hx hb dX12_quad_1 (lv_at hl 7 rfl) ?_
  refine pk_i (pr_S M V (m_X12_max l (Z := Z) (h := _) left cl) km_X12_max lkM_X12_182 rfl hl.1 rfl (Nat.le_of_ble_eq_true rfl) ⟨Nat.le_of_ble_eq_true rfl, Nat.le_of_ble_eq_true rfl⟩ ⟨Nat.le_of_ble_eq_true rfl, Nat.le_of_ble_eq_true rfl⟩ dX12_quad_3) V (fun r1 Zr1 hr1 H locs pr1 _ _ V => ?_)
  obtain ⟨rfl, rfl, fr1_0, fr1_1, fr1_2⟩ := pr1
  refine lv_iload_n hx hb dX12_quad_6 rfl (lv_at hl 3 rfl) ?_
  refine lv_iload hx hb dX12_quad_7 (lv_at hl 9 rfl) ?_
  refine pk_i (pr_S M V (m_X12_min l (Z := Z) (h := _) right cr) km_X12_min lkM_X12_178 rfl hl.1 rfl (Nat.le_of_ble_eq_true rfl) ⟨Nat.le_of_ble_eq_true rfl, Nat.le_of_ble_eq_true rfl⟩ ⟨Nat.le_of_ble_eq_true rfl, Nat.le_of_ble_eq_true rfl⟩ dX12_quad_9) V (fun r2 Zr2 hr2 H locs pr2 _ _ V => ?_)
  obtain ⟨rfl, rfl, fr2_0, fr2_1, fr2_2⟩ := pr2
  refine lv_icmp_ge (tgt := 31) hx hb dX12_quad_12 (by decide) (fun c_12 => ?_) (fun c_12 => ?_)
  · skip
    have c_12 := pi_le.mp c_12
    exact pe_v M V rfl rfl hr hlk ⟨rfl, I, A.wk (by decide), (show (h 137 82).toInt + (0) ≤ (h 137 82).toInt ∧ (h 137 82).toInt ≤ (h 137 82).toInt + (1) by omega)⟩ ⟨Nat.le_refl _, Nat.le_refl _⟩ dX12_quad_31
  · skip
    have c_12 := pi_le' c_12
    refine lv_iload_n hx hb dX12_quad_15 rfl (lv_at hl 2 rfl) ?_
    refine lv_iload hx hb dX12_quad_16 (lv_at hl 8 rfl) ?_
    refine pk_i (pr_S M V (m_X12_max l (Z := Z) (h := _) top ct) km_X12_max lkM_X12_182 rfl hl.1 rfl (Nat.le_of_ble_eq_true rfl) ⟨Nat.le_of_ble_eq_true rfl, Nat.le_of_ble_eq_true rfl⟩ ⟨Nat.le_of_ble_eq_true rfl, Nat.le_of_ble_eq_true rfl⟩ dX12_quad_18) V (fun r3 Zr3 hr3 H locs pr3 _ _ V => ?_)
    obtain ⟨rfl, rfl, fr3_0, fr3_1, fr3_2⟩ := pr3
    refine lv_iload hx hb dX12_quad_21 (lv_at hl 4 rfl) ?_
    refine lv_iload hx hb dX12_quad_23 (lv_at hl 10 rfl) ?_
    refine pk_i (pr_S M V (m_X12_min l (Z := Z) (h := _) bottom cb) km_X12_min lkM_X12_178 rfl hl.1 rfl (Nat.le_of_ble_eq_true rfl) ⟨Nat.le_of_ble_eq_true rfl, Nat.le_of_ble_eq_true rfl⟩ ⟨Nat.le_of_ble_eq_true rfl, Nat.le_of_ble_eq_true rfl⟩ dX12_quad_25) V (fun r4 Zr4 hr4 H locs pr4 _ _ V => ?_)
    obtain ⟨rfl, rfl, fr4_0, fr4_1, fr4_2⟩ := pr4
    refine lv_icmp_lt (tgt := 32) hx hb dX12_quad_28 (by decide) (fun c_28 => ?_) (fun c_28 => ?_)
    · skip
      have c_28 := pi_lt.mp c_28
      refine lv_bipush (v := 11) hx hb dX12_quad_32 (by decide) ?_
      refine lv_aload_n hx hb dX12_quad_34 rfl (lv_at hl 0 rfl) ?_
      refine pg_i M V 12 82 (sm_this S) pC12 fk12_82 lkF_X12_288 dX12_quad_35 ?_
      refine lv_topi (fun v5 ev5 => ?_)
      have tv5 : 0 ≤ v5.toInt ∧ v5.toInt ≤ 7000 := by rw [ev5]; exact I.get (sm_this S) 82
      have uv5 : v5.toInt = (h 137 82).toInt := congrArg Int32.toInt ev5
      refine lv_imul hx hb dX12_quad_38 ?_
      refine lv_topi (fun v6 ev6 => ?_)
      refine lv_istore (lv' := [(11, .int v6), (0, .ref (zB Z + 137)), (1, .int left), (2, .int top), (3, .int right), (4, .int bottom), (5, .int colour), (6, .int texture), (7, .int cl), (8, .int ct), (9, .int cr), (10, .int cb)]) hx hb dX12_quad_39 hl (by decide) rfl (fun ls hl => ?_)
      refine lv_aload_n hx hb dX12_quad_41 rfl (lv_at hl 1 rfl) ?_
      refine pg_r M V 12 80 (sm_this S) pC12 fk12_80 (sm_quads S).2.2 lkF_X12_169 dX12_quad_42 ?_
      refine lv_iload hx hb dX12_quad_45 (lv_at hl 0 rfl) ?_
      refine lv_aload_n hx hb dX12_quad_47 rfl (lv_at hl 1 rfl) ?_
      refine pg_i M V 12 71 (sm_this S) pC12 fk12_71 lkF_X12_144 dX12_quad_48 ?_
      refine lv_topi (fun v7 ev7 => ?_)
      have tv7 : -1 ≤ v7.toInt ∧ v7.toInt ≤ 8 := by rw [ev7]; exact I.get (sm_this S) 71
      have k_11 : (11 : Int32).toInt = 11 := rfl
      have tv6 : v6.toInt = 11 * v5.toInt := by rw [ev6]; have z9 := pi_mul (x := (11 : Int32)) (y := v5); rw [k_11] at z9; exact z9 (by omega)
      refine ps_i M V (sm_quads S).1 (by rw [(sm_quads S).2.1]; exact pi_in (by omega)) dX12_quad_51 (fun H locs V => ?_)
      have A := A.wk (l3 := [(186, 1000)]) (by decide)
      have A := A.upA (o := 186) (k := v6.toNatClampNeg) (v := v7) (by decide)
      have I := I.up (k := v6.toNatClampNeg) (v := v7) (sm_quads S).1 (pi_full _)
      refine lv_aload_n hx hb dX12_quad_52 rfl (lv_at hl 1 rfl) ?_
      refine pg_r M V 12 80 (sm_this S) pC12 fk12_80 (sm_quads S).2.2 lkF_X12_169 dX12_quad_53 ?_
      refine lv_iload hx hb dX12_quad_56 (lv_at hl 0 rfl) ?_
      refine lv_iconst (v := 1) hx hb dX12_quad_58 (by decide) ?_
      refine lv_iadd hx hb dX12_quad_59 ?_
      refine lv_topi (fun v8 ev8 => ?_)
      refine lv_iload_n hx hb dX12_quad_60 rfl (lv_at hl 2 rfl) ?_
      have k_1 : (1 : Int32).toInt = 1 := rfl
      have tv8 : v8.toInt = v6.toInt + 1 := by rw [ev8]; have z9 := pi_add (x := v6) (y := (1 : Int32)); rw [k_1] at z9; exact z9 (by omega)
      refine ps_i M V (sm_quads S).1 (by rw [(sm_quads S).2.1]; exact pi_in (by omega)) dX12_quad_61 (fun H locs V => ?_)
      have A := A.upA (o := 186) (k := v8.toNatClampNeg) (v := left) (by decide)
      have I := I.up (k := v8.toNatClampNeg) (v := left) (sm_quads S).1 (pi_full _)
      refine lv_aload_n hx hb dX12_quad_62 rfl (lv_at hl 1 rfl) ?_
      refine pg_r M V 12 80 (sm_this S) pC12 fk12_80 (sm_quads S).2.2 lkF_X12_169 dX12_quad_63 ?_
      refine lv_iload hx hb dX12_quad_66 (lv_at hl 0 rfl) ?_
      refine lv_iconst (v := 2) hx hb dX12_quad_68 (by decide) ?_
      refine lv_iadd hx hb dX12_quad_69 ?_
      refine lv_topi (fun v9 ev9 => ?_)
      refine lv_iload_n hx hb dX12_quad_70 rfl (lv_at hl 3 rfl) ?_
      have k_2 : (2 : Int32).toInt = 2 := rfl
      have tv9 : v9.toInt = v6.toInt + 2 := by rw [ev9]; have z9 := pi_add (x := v6) (y := (2 : Int32)); rw [k_2] at z9; exact z9 (by omega)
      refine ps_i M V (sm_quads S).1 (by rw [(sm_quads S).2.1]; exact pi_in (by omega)) dX12_quad_71 (fun H locs V => ?_)
      have A := A.upA (o := 186) (k := v9.toNatClampNeg) (v := top) (by decide)
      have I := I.up (k := v9.toNatClampNeg) (v := top) (sm_quads S).1 (pi_full _)
      refine lv_aload_n hx hb dX12_quad_72 rfl (lv_at hl 1 rfl) ?_
      refine pg_r M V 12 80 (sm_this S) pC12 fk12_80 (sm_quads S).2.2 lkF_X12_169 dX12_quad_73 ?_
      refine lv_iload hx hb dX12_quad_76 (lv_at hl 0 rfl) ?_
      refine lv_iconst (v := 3) hx hb dX12_quad_78 (by decide) ?_
      refine lv_iadd hx hb dX12_quad_79 ?_
      refine lv_topi (fun v10 ev10 => ?_)
      refine lv_iload_n hx hb dX12_quad_80 rfl (lv_at hl 4 rfl) ?_
      have k_3 : (3 : Int32).toInt = 3 := rfl
      have tv10 : v10.toInt = v6.toInt + 3 := by rw [ev10]; have z9 := pi_add (x := v6) (y := (3 : Int32)); rw [k_3] at z9; exact z9 (by omega)
      refine ps_i M V (sm_quads S).1 (by rw [(sm_quads S).2.1]; exact pi_in (by omega)) dX12_quad_81 (fun H locs V => ?_)
      have A := A.upA (o := 186) (k := v10.toNatClampNeg) (v := right) (by decide)
      have I := I.up (k := v10.toNatClampNeg) (v := right) (sm_quads S).1 (pi_full _)
      refine lv_aload_n hx hb dX12_quad_82 rfl (lv_at hl 1 rfl) ?_
      refine pg_r M V 12 80 (sm_this S) pC12 fk12_80 (sm_quads S).2.2 lkF_X12_169 dX12_quad_83 ?_
      refine lv_iload hx hb dX12_quad_86 (lv_at hl 0 rfl) ?_
      refine lv_iconst (v := 4) hx hb dX12_quad_88 (by decide) ?_
      refine lv_iadd hx hb dX12_quad_89 ?_
      refine lv_topi (fun v11 ev11 => ?_)
      refine lv_iload hx hb dX12_quad_90 (lv_at hl 5 rfl) ?_
      have k_4 : (4 : Int32).toInt = 4 := rfl
      have tv11 : v11.toInt = v6.toInt + 4 := by rw [ev11]; have z9 := pi_add (x := v6) (y := (4 : Int32)); rw [k_4] at z9; exact z9 (by omega)
      refine ps_i M V (sm_quads S).1 (by rw [(sm_quads S).2.1]; exact pi_in (by omega)) dX12_quad_92 (fun H locs V => ?_)
      have A := A.upA (o := 186) (k := v11.toNatClampNeg) (v := bottom) (by decide)
      have I := I.up (k := v11.toNatClampNeg) (v := bottom) (sm_quads S).1 (pi_full _)
      refine lv_aload_n hx hb dX12_quad_93 rfl (lv_at hl 1 rfl) ?_
      refine pg_r M V 12 80 (sm_this S) pC12 fk12_80 (sm_quads S).2.2 lkF_X12_169 dX12_quad_94 ?_
      refine lv_iload hx hb dX12_quad_97 (lv_at hl 0 rfl) ?_
      refine lv_iconst (v := 5) hx hb dX12_quad_99 (by decide) ?_
      refine lv_iadd hx hb dX12_quad_100 ?_
      refine lv_topi (fun v12 ev12 => ?_)
      refine lv_iload hx hb dX12_quad_101 (lv_at hl 6 rfl) ?_
      have k_5 : (5 : Int32).toInt = 5 := rfl
      have tv12 : v12.toInt = v6.toInt + 5 := by rw [ev12]; have z9 := pi_add (x := v6) (y := (5 : Int32)); rw [k_5] at z9; exact z9 (by omega)
      refine ps_i M V (sm_quads S).1 (by rw [(sm_quads S).2.1]; exact pi_in (by omega)) dX12_quad_103 (fun H locs V => ?_)
      have A := A.upA (o := 186) (k := v12.toNatClampNeg) (v := colour) (by decide)
      have I := I.up (k := v12.toNatClampNeg) (v := colour) (sm_quads S).1 (pi_full _)
      refine lv_aload_n hx hb dX12_quad_104 rfl (lv_at hl 1 rfl) ?_
      refine pg_r M V 12 80 (sm_this S) pC12 fk12_80 (sm_quads S).2.2 lkF_X12_169 dX12_quad_105 ?_
      refine lv_iload hx hb dX12_quad_108 (lv_at hl 0 rfl) ?_
      refine lv_bipush (v := 6) hx hb dX12_quad_110 (by decide) ?_
      refine lv_iadd hx hb dX12_quad_112 ?_
      refine lv_topi (fun v13 ev13 => ?_)
      refine lv_iload hx hb dX12_quad_113 (lv_at hl 7 rfl) ?_
      have k_6 : (6 : Int32).toInt = 6 := rfl
      have tv13 : v13.toInt = v6.toInt + 6 := by rw [ev13]; have z9 := pi_add (x := v6) (y := (6 : Int32)); rw [k_6] at z9; exact z9 (by omega)
      refine ps_i M V (sm_quads S).1 (by rw [(sm_quads S).2.1]; exact pi_in (by omega)) dX12_quad_115 (fun H locs V => ?_)
      have A := A.upA (o := 186) (k := v13.toNatClampNeg) (v := texture) (by decide)
      have I := I.up (k := v13.toNatClampNeg) (v := texture) (sm_quads S).1 (pi_full _)
      refine lv_aload_n hx hb dX12_quad_116 rfl (lv_at hl 1 rfl) ?_
      refine pg_r M V 12 80 (sm_this S) pC12 fk12_80 (sm_quads S).2.2 lkF_X12_169 dX12_quad_117 ?_
      refine lv_iload hx hb dX12_quad_120 (lv_at hl 0 rfl) ?_
      refine lv_bipush (v := 7) hx hb dX12_quad_122 (by decide) ?_
      refine lv_iadd hx hb dX12_quad_124 ?_
      refine lv_topi (fun v14 ev14 => ?_)
      refine lv_iload hx hb dX12_quad_125 (lv_at hl 8 rfl) ?_
      have k_7 : (7 : Int32).toInt = 7 := rfl
      have tv14 : v14.toInt = v6.toInt + 7 := by rw [ev14]; have z9 := pi_add (x := v6) (y := (7 : Int32)); rw [k_7] at z9; exact z9 (by omega)
      refine ps_i M V (sm_quads S).1 (by rw [(sm_quads S).2.1]; exact pi_in (by omega)) dX12_quad_127 (fun H locs V => ?_)
      have A := A.upA (o := 186) (k := v14.toNatClampNeg) (v := cl) (by decide)
      have I := I.up (k := v14.toNatClampNeg) (v := cl) (sm_quads S).1 (pi_full _)
      refine lv_aload_n hx hb dX12_quad_128 rfl (lv_at hl 1 rfl) ?_
      refine pg_r M V 12 80 (sm_this S) pC12 fk12_80 (sm_quads S).2.2 lkF_X12_169 dX12_quad_129 ?_
      refine lv_iload hx hb dX12_quad_132 (lv_at hl 0 rfl) ?_
      refine lv_bipush (v := 8) hx hb dX12_quad_134 (by decide) ?_
      refine lv_iadd hx hb dX12_quad_136 ?_
      refine lv_topi (fun v15 ev15 => ?_)
      refine lv_iload hx hb dX12_quad_137 (lv_at hl 9 rfl) ?_
      have k_8 : (8 : Int32).toInt = 8 := rfl
      have tv15 : v15.toInt = v6.toInt + 8 := by rw [ev15]; have z9 := pi_add (x := v6) (y := (8 : Int32)); rw [k_8] at z9; exact z9 (by omega)
      refine ps_i M V (sm_quads S).1 (by rw [(sm_quads S).2.1]; exact pi_in (by omega)) dX12_quad_139 (fun H locs V => ?_)
      have A := A.upA (o := 186) (k := v15.toNatClampNeg) (v := ct) (by decide)
      have I := I.up (k := v15.toNatClampNeg) (v := ct) (sm_quads S).1 (pi_full _)
      refine lv_aload_n hx hb dX12_quad_140 rfl (lv_at hl 1 rfl) ?_
      refine pg_r M V 12 80 (sm_this S) pC12 fk12_80 (sm_quads S).2.2 lkF_X12_169 dX12_quad_141 ?_
      refine lv_iload hx hb dX12_quad_144 (lv_at hl 0 rfl) ?_
      refine lv_bipush (v := 9) hx hb dX12_quad_146 (by decide) ?_
      refine lv_iadd hx hb dX12_quad_148 ?_
      refine lv_topi (fun v16 ev16 => ?_)
      refine lv_iload hx hb dX12_quad_149 (lv_at hl 10 rfl) ?_
      have k_9 : (9 : Int32).toInt = 9 := rfl
      have tv16 : v16.toInt = v6.toInt + 9 := by rw [ev16]; have z9 := pi_add (x := v6) (y := (9 : Int32)); rw [k_9] at z9; exact z9 (by omega)
      refine ps_i M V (sm_quads S).1 (by rw [(sm_quads S).2.1]; exact pi_in (by omega)) dX12_quad_151 (fun H locs V => ?_)
      have A := A.upA (o := 186) (k := v16.toNatClampNeg) (v := cr) (by decide)
      have I := I.up (k := v16.toNatClampNeg) (v := cr) (sm_quads S).1 (pi_full _)
      refine lv_aload_n hx hb dX12_quad_152 rfl (lv_at hl 1 rfl) ?_
      refine pg_r M V 12 80 (sm_this S) pC12 fk12_80 (sm_quads S).2.2 lkF_X12_169 dX12_quad_153 ?_
      refine lv_iload hx hb dX12_quad_156 (lv_at hl 0 rfl) ?_
      refine lv_bipush (v := 10) hx hb dX12_quad_158 (by decide) ?_
      refine lv_iadd hx hb dX12_quad_160 ?_
      refine lv_topi (fun v17 ev17 => ?_)
      refine lv_iload hx hb dX12_quad_161 (lv_at hl 11 rfl) ?_
      have k_10 : (10 : Int32).toInt = 10 := rfl
      have tv17 : v17.toInt = v6.toInt + 10 := by rw [ev17]; have z9 := pi_add (x := v6) (y := (10 : Int32)); rw [k_10] at z9; exact z9 (by omega)
      refine ps_i M V (sm_quads S).1 (by rw [(sm_quads S).2.1]; exact pi_in (by omega)) dX12_quad_163 (fun H locs V => ?_)
      have A := A.upA (o := 186) (k := v17.toNatClampNeg) (v := cb) (by decide)
      have I := I.up (k := v17.toNatClampNeg) (v := cb) (sm_quads S).1 (pi_full _)
      refine lv_aload_n hx hb dX12_quad_164 rfl (lv_at hl 1 rfl) ?_
      refine lv_dup hx hb dX12_quad_165 rfl ?_
      refine pg_iv M V 12 82 (v := v5) (sm_this S) pC12 fk12_82 ev5.symm lkF_X12_288 dX12_quad_166 ?_
      refine lv_iconst (v := 1) hx hb dX12_quad_169 (by decide) ?_
      refine lv_iadd hx hb dX12_quad_170 ?_
      refine lv_topi (fun v18 ev18 => ?_)
      refine pp_i M V 12 82 (sm_this S) pC12 fk12_82 rfl lkF_X12_288 ⟨rfl, rfl⟩ dX12_quad_171 (fun H locs V => ?_)
      have A := A.wk (l3 := [(186, 1000), (137, 82)]) (by decide)
      have A := A.up (o := 137) (k := 82) (v := v18) (by decide)
      have tv18 : v18.toInt = v5.toInt + 1 := by rw [ev18]; have z9 := pi_add (x := v5) (y := (1 : Int32)); rw [k_1] at z9; exact z9 (by omega)
      have I := I.up (k := 82) (v := v18) (sm_this S) (show (0 : Int) ≤ v18.toInt ∧ v18.toInt ≤ (7000 : Int) by omega)
      exact pe_v M V rfl rfl hr hlk ⟨rfl, I, A.wk (by decide), (show (h 137 82).toInt + (0) ≤ v18.toInt ∧ v18.toInt ≤ (h 137 82).toInt + (1) by omega)⟩ ⟨Nat.le_refl _, Nat.le_refl _⟩ dX12_quad_174
    · skip
      have c_28 := pi_lt' c_28
      exact pe_v M V rfl rfl hr hlk ⟨rfl, I, A.wk (by decide), (show (h 137 82).toInt + (0) ≤ (h 137 82).toInt ∧ (h 137 82).toInt ≤ (h 137 82).toInt + (1) by omega)⟩ ⟨Nat.le_refl _, Nat.le_refl _⟩ dX12_quad_31
theorem dX12_quadClipped_0 : decode cX12_quadClipped 0 = .ok (.aload_n 0, 1) := by decide +kernel
theorem dX12_quadClipped_1 : decode cX12_quadClipped 1 = .ok (.iload_n 1, 1) := by decide +kernel
theorem dX12_quadClipped_2 : decode cX12_quadClipped 2 = .ok (.iload_n 2, 1) := by decide +kernel
theorem dX12_quadClipped_3 : decode cX12_quadClipped 3 = .ok (.iload_n 3, 1) := by decide +kernel
theorem dX12_quadClipped_4 : decode cX12_quadClipped 4 = .ok (.iload 4, 2) := by decide +kernel
theorem dX12_quadClipped_6 : decode cX12_quadClipped 6 = .ok (.iload 5, 2) := by decide +kernel
theorem dX12_quadClipped_8 : decode cX12_quadClipped 8 = .ok (.iload 6, 2) := by decide +kernel
theorem dX12_quadClipped_10 : decode cX12_quadClipped 10 = .ok (.aload_n 0, 1) := by decide +kernel
theorem dX12_quadClipped_11 : decode cX12_quadClipped 11 = .ok (.getfield 147, 3) := by decide +kernel
theorem dX12_quadClipped_14 : decode cX12_quadClipped 14 = .ok (.iconst 0, 1) := by decide +kernel
theorem dX12_quadClipped_15 : decode cX12_quadClipped 15 = .ok (.iaload, 1) := by decide +kernel
theorem dX12_quadClipped_16 : decode cX12_quadClipped 16 = .ok (.aload_n 0, 1) := by decide +kernel
theorem dX12_quadClipped_17 : decode cX12_quadClipped 17 = .ok (.getfield 147, 3) := by decide +kernel
theorem dX12_quadClipped_20 : decode cX12_quadClipped 20 = .ok (.iconst 1, 1) := by decide +kernel
theorem dX12_quadClipped_21 : decode cX12_quadClipped 21 = .ok (.iaload, 1) := by decide +kernel
theorem dX12_quadClipped_22 : decode cX12_quadClipped 22 = .ok (.aload_n 0, 1) := by decide +kernel
theorem dX12_quadClipped_23 : decode cX12_quadClipped 23 = .ok (.getfield 147, 3) := by decide +kernel
theorem dX12_quadClipped_26 : decode cX12_quadClipped 26 = .ok (.iconst 2, 1) := by decide +kernel
theorem dX12_quadClipped_27 : decode cX12_quadClipped 27 = .ok (.iaload, 1) := by decide +kernel
theorem dX12_quadClipped_28 : decode cX12_quadClipped 28 = .ok (.aload_n 0, 1) := by decide +kernel
theorem dX12_quadClipped_29 : decode cX12_quadClipped 29 = .ok (.getfield 147, 3) := by decide +kernel
theorem dX12_quadClipped_32 : decode cX12_quadClipped 32 = .ok (.iconst 3, 1) := by decide +kernel
theorem dX12_quadClipped_33 : decode cX12_quadClipped 33 = .ok (.iaload, 1) := by decide +kernel
theorem dX12_quadClipped_34 : decode cX12_quadClipped 34 = .ok (.invokevirtual 316, 3) := by decide +kernel
theorem dX12_quadClipped_37 : decode cX12_quadClipped 37 = .ok (.return_, 1) := by decide +kernel
set_option maxHeartbeats 4000000 in
set_option maxRecDepth 100000 in
theorem m_X12_quadClipped (l : Launch) {Z : pZ} (S : pSh Z) {h : pH} (I : Iv Z h) (left : Int32) (top : Int32) (right : Int32) (bottom : Int32) (colour : Int32) (texture : Int32) (hp : (h 137 82).toInt ≤ 6999) : pMet l yX12_quadClipped cX12_quadClipped 7 none 2 0 0 52 Z h [.ref (zB Z + 137), .int left, .int top, .int right, .int bottom, .int colour, .int texture] (pQv Z (fun Z1 h1 => Z = Z1 ∧ Iv Z h1 ∧ agr [(137, 82), (186, 1000)] h h1 ∧ ((h 137 82).toInt + (0) ≤ (h1 137 82).toInt ∧ (h1 137 82).toInt ≤ (h 137 82).toInt + (1)))) := by
  refine pOfW (lv := [(0, .ref (zB Z + 137)), (1, .int left), (2, .int top), (3, .int right), (4, .int bottom), (5, .int colour), (6, .int texture)]) (by decide) (Nat.le_of_ble_eq_true rfl) rfl ?_
  intro p e s m below meth c ls M hr hlk hnm V hl
  have hx := M.1.1
  have hb := M.1.2.1
  have A : agr [] h h := agr.rf
  have i_82 : 0 ≤ (h 137 82).toInt ∧ (h 137 82).toInt ≤ 7000 := I.get (sm_this S) 82
  refine lv_aload_n hx hb dX12_quadClipped_0 rfl (lv_at hl 0 rfl) ?_
  refine lv_iload_n hx hb dX12_quadClipped_1 rfl (lv_at hl 1 rfl) ?_
  refine lv_iload_n hx hb dX12_quadClipped_2 rfl (lv_at hl 2 rfl) ?_
  refine lv_iload_n hx hb dX12_quadClipped_3 rfl (lv_at hl 3 rfl) ?_
  refine lv_iload hx hb dX12_quadClipped_4 (lv_at hl 4 rfl) ?_
  refine lv_iload hx hb dX12_quadClipped_6 (lv_at hl 5 rfl) ?_
  refine lv_iload hx hb dX12_quadClipped_8 (lv_at hl 6 rfl) ?_
  refine lv_aload_n hx hb dX12_quadClipped_10 rfl (lv_at hl 0 rfl) ?_
  refine pg_r M V 12 72 (sm_this S) pC12 fk12_72 (sm_clip S).2.2 lkF_X12_147 dX12_quadClipped_11 ?_
  refine lv_iconst (v := 0) hx hb dX12_quadClipped_14 (by decide) ?_
  have k_0 : (0 : Int32).toInt = 0 := rfl
  refine pa_i M V (sm_clip S).1 (by rw [(sm_clip S).2.1]; exact pi_in (by omega)) dX12_quadClipped_15 ?_
  refine lv_topi (fun v1 ev1 => ?_)
  refine lv_aload_n hx hb dX12_quadClipped_16 rfl (lv_at hl 0 rfl) ?_
  refine pg_r M V 12 72 (sm_this S) pC12 fk12_72 (sm_clip S).2.2 lkF_X12_147 dX12_quadClipped_17 ?_
  refine lv_iconst (v := 1) hx hb dX12_quadClipped_20 (by decide) ?_
  have k_1 : (1 : Int32).toInt = 1 := rfl
  refine pa_i M V (sm_clip S).1 (by rw [(sm_clip S).2.1]; exact pi_in (by omega)) dX12_quadClipped_21 ?_
  refine lv_topi (fun v2 ev2 => ?_)
  refine lv_aload_n hx hb dX12_quadClipped_22 rfl (lv_at hl 0 rfl) ?_
  refine pg_r M V 12 72 (sm_this S) pC12 fk12_72 (sm_clip S).2.2 lkF_X12_147 dX12_quadClipped_23 ?_
  refine lv_iconst (v := 2) hx hb dX12_quadClipped_26 (by decide) ?_
  have k_2 : (2 : Int32).toInt = 2 := rfl
  refine pa_i M V (sm_clip S).1 (by rw [(sm_clip S).2.1]; exact pi_in (by omega)) dX12_quadClipped_27 ?_
  refine lv_topi (fun v3 ev3 => ?_)
  refine lv_aload_n hx hb dX12_quadClipped_28 rfl (lv_at hl 0 rfl) ?_
  refine pg_r M V 12 72 (sm_this S) pC12 fk12_72 (sm_clip S).2.2 lkF_X12_147 dX12_quadClipped_29 ?_
  refine lv_iconst (v := 3) hx hb dX12_quadClipped_32 (by decide) ?_
  have k_3 : (3 : Int32).toInt = 3 := rfl
  refine pa_i M V (sm_clip S).1 (by rw [(sm_clip S).2.1]; exact pi_in (by omega)) dX12_quadClipped_33 ?_
  refine lv_topi (fun v4 ev4 => ?_)
  refine pk_v (pr_V M V (m_X12_quad l S I left top right bottom colour texture v1 v2 v3 v4 (show (h 137 82).toInt ≤ 6999 by omega)) km_X12_quad (sm_this S) pC12 lkM_X12_316 rfl hl.1 rfl (Nat.le_of_ble_eq_true rfl) ⟨Nat.le_of_ble_eq_true rfl, Nat.le_of_ble_eq_true rfl⟩ ⟨Nat.le_of_ble_eq_true rfl, Nat.le_of_ble_eq_true rfl⟩ dX12_quadClipped_34) V (fun Zr5 hr5 H locs pr5 _ _ V => ?_)
  obtain ⟨rfl, I, pA_r5, fr5_0⟩ := pr5
  have fr5_0 : (h 137 82).toInt + (0) ≤ (hr5 137 82).toInt ∧ (hr5 137 82).toInt ≤ (h 137 82).toInt + (1) := fr5_0
  have A := A.wk (l3 := [(137, 82), (186, 1000)]) (by decide)
  have A := A.tr pA_r5 (by decide)
  exact pe_v M V rfl rfl hr hlk ⟨rfl, I, A.wk (by decide), (show (h 137 82).toInt + (0) ≤ (hr5 137 82).toInt ∧ (hr5 137 82).toInt ≤ (h 137 82).toInt + (1) by omega)⟩ ⟨Nat.le_refl _, Nat.le_refl _⟩ dX12_quadClipped_37
theorem dX12_shape_0 : decode cX12_shape 0 = .ok (.aload_n 0, 1) := by decide +kernel
theorem dX12_shape_1 : decode cX12_shape 1 = .ok (.aload_n 0, 1) := by decide +kernel
theorem dX12_shape_2 : decode cX12_shape 2 = .ok (.getfield 150, 3) := by decide +kernel
theorem dX12_shape_5 : decode cX12_shape 5 = .ok (.iconst 0, 1) := by decide +kernel
theorem dX12_shape_6 : decode cX12_shape 6 = .ok (.iaload, 1) := by decide +kernel
theorem dX12_shape_7 : decode cX12_shape 7 = .ok (.aload_n 0, 1) := by decide +kernel
theorem dX12_shape_8 : decode cX12_shape 8 = .ok (.getfield 150, 3) := by decide +kernel
theorem dX12_shape_11 : decode cX12_shape 11 = .ok (.iconst 1, 1) := by decide +kernel
theorem dX12_shape_12 : decode cX12_shape 12 = .ok (.iaload, 1) := by decide +kernel
theorem dX12_shape_13 : decode cX12_shape 13 = .ok (.aload_n 0, 1) := by decide +kernel
theorem dX12_shape_14 : decode cX12_shape 14 = .ok (.getfield 150, 3) := by decide +kernel
theorem dX12_shape_17 : decode cX12_shape 17 = .ok (.iconst 2, 1) := by decide +kernel
theorem dX12_shape_18 : decode cX12_shape 18 = .ok (.iaload, 1) := by decide +kernel
theorem dX12_shape_19 : decode cX12_shape 19 = .ok (.aload_n 0, 1) := by decide +kernel
theorem dX12_shape_20 : decode cX12_shape 20 = .ok (.getfield 150, 3) := by decide +kernel
theorem dX12_shape_23 : decode cX12_shape 23 = .ok (.iconst 3, 1) := by decide +kernel
theorem dX12_shape_24 : decode cX12_shape 24 = .ok (.iaload, 1) := by decide +kernel
theorem dX12_shape_25 : decode cX12_shape 25 = .ok (.iload_n 1, 1) := by decide +kernel
theorem dX12_shape_26 : decode cX12_shape 26 = .ok (.aload_n 0, 1) := by decide +kernel
theorem dX12_shape_27 : decode cX12_shape 27 = .ok (.getfield 255, 3) := by decide +kernel
theorem dX12_shape_30 : decode cX12_shape 30 = .ok (.if_icmp .ne 7, 3) := by decide +kernel
theorem dX12_shape_33 : decode cX12_shape 33 = .ok (.iconst 5, 1) := by decide +kernel
theorem dX12_shape_34 : decode cX12_shape 34 = .ok (.goto 16, 3) := by decide +kernel
theorem dX12_shape_37 : decode cX12_shape 37 = .ok (.iload_n 1, 1) := by decide +kernel
theorem dX12_shape_38 : decode cX12_shape 38 = .ok (.aload_n 0, 1) := by decide +kernel
theorem dX12_shape_39 : decode cX12_shape 39 = .ok (.getfield 264, 3) := by decide +kernel
theorem dX12_shape_42 : decode cX12_shape 42 = .ok (.if_icmp .ne 7, 3) := by decide +kernel
theorem dX12_shape_45 : decode cX12_shape 45 = .ok (.iconst 4, 1) := by decide +kernel
theorem dX12_shape_46 : decode cX12_shape 46 = .ok (.goto 4, 3) := by decide +kernel
theorem dX12_shape_49 : decode cX12_shape 49 = .ok (.iconst 3, 1) := by decide +kernel
theorem dX12_shape_50 : decode cX12_shape 50 = .ok (.iconst 0, 1) := by decide +kernel
theorem dX12_shape_51 : decode cX12_shape 51 = .ok (.invokevirtual 320, 3) := by decide +kernel
theorem dX12_shape_54 : decode cX12_shape 54 = .ok (.return_, 1) := by decide +kernel
set_option maxHeartbeats 4000000 in
set_option maxRecDepth 100000 in
theorem m_X12_shape (l : Launch) {Z : pZ} (S : pSh Z) {h : pH} (I : Iv Z h) (id : Int32) (hp : (h 137 82).toInt ≤ 6999) : pMet l yX12_shape cX12_shape 2 none 3 0 0 78 Z h [.ref (zB Z + 137), .int id] (pQv Z (fun Z1 h1 => Z = Z1 ∧ Iv Z h1 ∧ agr [(137, 82), (186, 1000)] h h1 ∧ ((h 137 82).toInt + (0) ≤ (h1 137 82).toInt ∧ (h1 137 82).toInt ≤ (h 137 82).toInt + (1)))) := by
  refine pOfW (lv := [(0, .ref (zB Z + 137)), (1, .int id)]) (by decide) (Nat.le_of_ble_eq_true rfl) rfl ?_
  intro p e s m below meth c ls M hr hlk hnm V hl
  have hx := M.1.1
  have hb := M.1.2.1
  have A : agr [] h h := agr.rf
  have i_82 : 0 ≤ (h 137 82).toInt ∧ (h 137 82).toInt ≤ 7000 := I.get (sm_this S) 82
  refine lv_aload_n hx hb dX12_shape_0 rfl (lv_at hl 0 rfl) ?_
  refine lv_aload_n hx hb dX12_shape_1 rfl (lv_at hl 0 rfl) ?_
  refine pg_r M V 12 73 (sm_this S) pC12 fk12_73 (sm_item S).2.2 lkF_X12_150 dX12_shape_2 ?_
  refine lv_iconst (v := 0) hx hb dX12_shape_5 (by decide) ?_
  have k_0 : (0 : Int32).toInt = 0 := rfl
  refine pa_i M V (sm_item S).1 (by rw [(sm_item S).2.1]; exact pi_in (by omega)) dX12_shape_6 ?_
  refine lv_topi (fun v1 ev1 => ?_)
  refine lv_aload_n hx hb dX12_shape_7 rfl (lv_at hl 0 rfl) ?_
  refine pg_r M V 12 73 (sm_this S) pC12 fk12_73 (sm_item S).2.2 lkF_X12_150 dX12_shape_8 ?_
  refine lv_iconst (v := 1) hx hb dX12_shape_11 (by decide) ?_
  have k_1 : (1 : Int32).toInt = 1 := rfl
  refine pa_i M V (sm_item S).1 (by rw [(sm_item S).2.1]; exact pi_in (by omega)) dX12_shape_12 ?_
  refine lv_topi (fun v2 ev2 => ?_)
  refine lv_aload_n hx hb dX12_shape_13 rfl (lv_at hl 0 rfl) ?_
  refine pg_r M V 12 73 (sm_this S) pC12 fk12_73 (sm_item S).2.2 lkF_X12_150 dX12_shape_14 ?_
  refine lv_iconst (v := 2) hx hb dX12_shape_17 (by decide) ?_
  have k_2 : (2 : Int32).toInt = 2 := rfl
  refine pa_i M V (sm_item S).1 (by rw [(sm_item S).2.1]; exact pi_in (by omega)) dX12_shape_18 ?_
  refine lv_topi (fun v3 ev3 => ?_)
  refine lv_aload_n hx hb dX12_shape_19 rfl (lv_at hl 0 rfl) ?_
  refine pg_r M V 12 73 (sm_this S) pC12 fk12_73 (sm_item S).2.2 lkF_X12_150 dX12_shape_20 ?_
  refine lv_iconst (v := 3) hx hb dX12_shape_23 (by decide) ?_
  have k_3 : (3 : Int32).toInt = 3 := rfl
  refine pa_i M V (sm_item S).1 (by rw [(sm_item S).2.1]; exact pi_in (by omega)) dX12_shape_24 ?_
  refine lv_topi (fun v4 ev4 => ?_)
  refine lv_iload_n hx hb dX12_shape_25 rfl (lv_at hl 1 rfl) ?_
  refine lv_aload_n hx hb dX12_shape_26 rfl (lv_at hl 0 rfl) ?_
  refine pg_i M V 12 19 (sm_this S) pC12 fk12_19 lkF_X12_255 dX12_shape_27 ?_
  refine lv_topi (fun v5 ev5 => ?_)
  refine lv_icmp_ne (tgt := 37) hx hb dX12_shape_30 (by decide) (fun c_30 => ?_) (fun c_30 => ?_)
  · skip
    have c_30 := pi_ne c_30
    refine lv_iload_n hx hb dX12_shape_37 rfl (lv_at hl 1 rfl) ?_
    refine lv_aload_n hx hb dX12_shape_38 rfl (lv_at hl 0 rfl) ?_
    refine pg_i M V 12 20 (sm_this S) pC12 fk12_20 lkF_X12_264 dX12_shape_39 ?_
    refine lv_topi (fun v6 ev6 => ?_)
    refine lv_icmp_ne (tgt := 49) hx hb dX12_shape_42 (by decide) (fun c_42 => ?_) (fun c_42 => ?_)
    · skip
      have c_42 := pi_ne c_42
      refine lv_iconst (v := 3) hx hb dX12_shape_49 (by decide) ?_
      refine lv_iconst (v := 0) hx hb dX12_shape_50 (by decide) ?_
      refine pk_v (pr_V M V (m_X12_quadClipped l S I v1 v2 v3 v4 (3 : Int32) (0 : Int32) (show (h 137 82).toInt ≤ 6999 by omega)) km_X12_quadClipped (sm_this S) pC12 lkM_X12_320 rfl hl.1 rfl (Nat.le_of_ble_eq_true rfl) ⟨Nat.le_of_ble_eq_true rfl, Nat.le_of_ble_eq_true rfl⟩ ⟨Nat.le_of_ble_eq_true rfl, Nat.le_of_ble_eq_true rfl⟩ dX12_shape_51) V (fun Zr7 hr7 H locs pr7 _ _ V => ?_)
      obtain ⟨rfl, I, pA_r7, fr7_0⟩ := pr7
      have fr7_0 : (h 137 82).toInt + (0) ≤ (hr7 137 82).toInt ∧ (hr7 137 82).toInt ≤ (h 137 82).toInt + (1) := fr7_0
      have A := A.wk (l3 := [(137, 82), (186, 1000)]) (by decide)
      have A := A.tr pA_r7 (by decide)
      exact pe_v M V rfl rfl hr hlk ⟨rfl, I, A.wk (by decide), (show (h 137 82).toInt + (0) ≤ (hr7 137 82).toInt ∧ (hr7 137 82).toInt ≤ (h 137 82).toInt + (1) by omega)⟩ ⟨Nat.le_refl _, Nat.le_refl _⟩ dX12_shape_54
    · skip
      have c_42 := pi_eq.mp c_42
      refine lv_iconst (v := 4) hx hb dX12_shape_45 (by decide) ?_
      refine lv_goto (tgt := 50) hx hb dX12_shape_46 (by decide) ?_
      refine lv_iconst (v := 0) hx hb dX12_shape_50 (by decide) ?_
      refine pk_v (pr_V M V (m_X12_quadClipped l S I v1 v2 v3 v4 (4 : Int32) (0 : Int32) (show (h 137 82).toInt ≤ 6999 by omega)) km_X12_quadClipped (sm_this S) pC12 lkM_X12_320 rfl hl.1 rfl (Nat.le_of_ble_eq_true rfl) ⟨Nat.le_of_ble_eq_true rfl, Nat.le_of_ble_eq_true rfl⟩ ⟨Nat.le_of_ble_eq_true rfl, Nat.le_of_ble_eq_true rfl⟩ dX12_shape_51) V (fun Zr8 hr8 H locs pr8 _ _ V => ?_)
      obtain ⟨rfl, I, pA_r8, fr8_0⟩ := pr8
      have fr8_0 : (h 137 82).toInt + (0) ≤ (hr8 137 82).toInt ∧ (hr8 137 82).toInt ≤ (h 137 82).toInt + (1) := fr8_0
      have A := A.wk (l3 := [(137, 82), (186, 1000)]) (by decide)
      have A := A.tr pA_r8 (by decide)
      exact pe_v M V rfl rfl hr hlk ⟨rfl, I, A.wk (by decide), (show (h 137 82).toInt + (0) ≤ (hr8 137 82).toInt ∧ (hr8 137 82).toInt ≤ (h 137 82).toInt + (1) by omega)⟩ ⟨Nat.le_refl _, Nat.le_refl _⟩ dX12_shape_54
  · skip
    have c_30 := pi_eq.mp c_30
    refine lv_iconst (v := 5) hx hb dX12_shape_33 (by decide) ?_
    refine lv_goto (tgt := 50) hx hb dX12_shape_34 (by decide) ?_
    refine lv_iconst (v := 0) hx hb dX12_shape_50 (by decide) ?_
    refine pk_v (pr_V M V (m_X12_quadClipped l S I v1 v2 v3 v4 (5 : Int32) (0 : Int32) (show (h 137 82).toInt ≤ 6999 by omega)) km_X12_quadClipped (sm_this S) pC12 lkM_X12_320 rfl hl.1 rfl (Nat.le_of_ble_eq_true rfl) ⟨Nat.le_of_ble_eq_true rfl, Nat.le_of_ble_eq_true rfl⟩ ⟨Nat.le_of_ble_eq_true rfl, Nat.le_of_ble_eq_true rfl⟩ dX12_shape_51) V (fun Zr9 hr9 H locs pr9 _ _ V => ?_)
    obtain ⟨rfl, I, pA_r9, fr9_0⟩ := pr9
    have fr9_0 : (h 137 82).toInt + (0) ≤ (hr9 137 82).toInt ∧ (hr9 137 82).toInt ≤ (h 137 82).toInt + (1) := fr9_0
    have A := A.wk (l3 := [(137, 82), (186, 1000)]) (by decide)
    have A := A.tr pA_r9 (by decide)
    exact pe_v M V rfl rfl hr hlk ⟨rfl, I, A.wk (by decide), (show (h 137 82).toInt + (0) ≤ (hr9 137 82).toInt ∧ (hr9 137 82).toInt ≤ (h 137 82).toInt + (1) by omega)⟩ ⟨Nat.le_refl _, Nat.le_refl _⟩ dX12_shape_54
