theorem dX11_begin_0 : decode cX11_begin 0 = .ok (.aload_n 0, 1) := by decide +kernel
theorem dX11_begin_1 : decode cX11_begin 1 = .ok (.aload_n 0, 1) := by decide +kernel
theorem dX11_begin_2 : decode cX11_begin 2 = .ok (.getfield 84, 3) := by decide +kernel
theorem dX11_begin_5 : decode cX11_begin 5 = .ok (.ifCond .ne 7, 3) := by decide +kernel
theorem dX11_begin_8 : decode cX11_begin 8 = .ok (.iconst 1, 1) := by decide +kernel
theorem dX11_begin_9 : decode cX11_begin 9 = .ok (.goto 4, 3) := by decide +kernel
theorem dX11_begin_12 : decode cX11_begin 12 = .ok (.iconst 0, 1) := by decide +kernel
theorem dX11_begin_13 : decode cX11_begin 13 = .ok (.invokevirtual 88, 3) := by decide +kernel
theorem dX11_begin_16 : decode cX11_begin 16 = .ok (.aload_n 0, 1) := by decide +kernel
theorem dX11_begin_17 : decode cX11_begin 17 = .ok (.getfield 10, 3) := by decide +kernel
theorem dX11_begin_20 : decode cX11_begin 20 = .ok (.invokevirtual 92, 3) := by decide +kernel
theorem dX11_begin_23 : decode cX11_begin 23 = .ok (.istore_n 1, 1) := by decide +kernel
theorem dX11_begin_24 : decode cX11_begin 24 = .ok (.aload_n 0, 1) := by decide +kernel
theorem dX11_begin_25 : decode cX11_begin 25 = .ok (.getfield 19, 3) := by decide +kernel
theorem dX11_begin_28 : decode cX11_begin 28 = .ok (.aload_n 0, 1) := by decide +kernel
theorem dX11_begin_29 : decode cX11_begin 29 = .ok (.getfield 10, 3) := by decide +kernel
theorem dX11_begin_32 : decode cX11_begin 32 = .ok (.invokevirtual 96, 3) := by decide +kernel
theorem dX11_begin_35 : decode cX11_begin 35 = .ok (.aload_n 0, 1) := by decide +kernel
theorem dX11_begin_36 : decode cX11_begin 36 = .ok (.invokevirtual 100, 3) := by decide +kernel
theorem dX11_begin_39 : decode cX11_begin 39 = .ok (.aload_n 0, 1) := by decide +kernel
theorem dX11_begin_40 : decode cX11_begin 40 = .ok (.getfield 26, 3) := by decide +kernel
theorem dX11_begin_43 : decode cX11_begin 43 = .ok (.aload_n 0, 1) := by decide +kernel
theorem dX11_begin_44 : decode cX11_begin 44 = .ok (.getfield 19, 3) := by decide +kernel
theorem dX11_begin_47 : decode cX11_begin 47 = .ok (.getfield 103, 3) := by decide +kernel
theorem dX11_begin_50 : decode cX11_begin 50 = .ok (.aload_n 0, 1) := by decide +kernel
theorem dX11_begin_51 : decode cX11_begin 51 = .ok (.getfield 10, 3) := by decide +kernel
theorem dX11_begin_54 : decode cX11_begin 54 = .ok (.invokevirtual 107, 3) := by decide +kernel
theorem dX11_begin_57 : decode cX11_begin 57 = .ok (.aload_n 0, 1) := by decide +kernel
theorem dX11_begin_58 : decode cX11_begin 58 = .ok (.getfield 19, 3) := by decide +kernel
theorem dX11_begin_61 : decode cX11_begin 61 = .ok (.invokevirtual 111, 3) := by decide +kernel
theorem dX11_begin_64 : decode cX11_begin 64 = .ok (.aload_n 0, 1) := by decide +kernel
theorem dX11_begin_65 : decode cX11_begin 65 = .ok (.getfield 26, 3) := by decide +kernel
theorem dX11_begin_68 : decode cX11_begin 68 = .ok (.iconst 0, 1) := by decide +kernel
theorem dX11_begin_69 : decode cX11_begin 69 = .ok (.putfield 114, 3) := by decide +kernel
theorem dX11_begin_72 : decode cX11_begin 72 = .ok (.aload_n 0, 1) := by decide +kernel
theorem dX11_begin_73 : decode cX11_begin 73 = .ok (.getfield 33, 3) := by decide +kernel
theorem dX11_begin_76 : decode cX11_begin 76 = .ok (.invokevirtual 117, 3) := by decide +kernel
theorem dX11_begin_79 : decode cX11_begin 79 = .ok (.aload_n 0, 1) := by decide +kernel
theorem dX11_begin_80 : decode cX11_begin 80 = .ok (.getfield 40, 3) := by decide +kernel
theorem dX11_begin_83 : decode cX11_begin 83 = .ok (.invokevirtual 120, 3) := by decide +kernel
theorem dX11_begin_86 : decode cX11_begin 86 = .ok (.aload_n 0, 1) := by decide +kernel
theorem dX11_begin_87 : decode cX11_begin 87 = .ok (.getfield 54, 3) := by decide +kernel
theorem dX11_begin_90 : decode cX11_begin 90 = .ok (.invokevirtual 123, 3) := by decide +kernel
theorem dX11_begin_93 : decode cX11_begin 93 = .ok (.aload_n 0, 1) := by decide +kernel
theorem dX11_begin_94 : decode cX11_begin 94 = .ok (.iconst 0, 1) := by decide +kernel
theorem dX11_begin_95 : decode cX11_begin 95 = .ok (.putfield 124, 3) := by decide +kernel
theorem dX11_begin_98 : decode cX11_begin 98 = .ok (.aload_n 0, 1) := by decide +kernel
theorem dX11_begin_99 : decode cX11_begin 99 = .ok (.iconst 1, 1) := by decide +kernel
theorem dX11_begin_100 : decode cX11_begin 100 = .ok (.putfield 84, 3) := by decide +kernel
theorem dX11_begin_103 : decode cX11_begin 103 = .ok (.iload_n 1, 1) := by decide +kernel
theorem dX11_begin_104 : decode cX11_begin 104 = .ok (.ireturn, 1) := by decide +kernel
set_option maxHeartbeats 4000000 in
set_option maxRecDepth 100000 in
theorem m_X11_begin (l : Launch) (hl9 : l.stackTraces = false) {Z : pZ} (S : pSh Z) {h : pH} (I : Iv Z h) (K : pSk Z) (L : pLk Z h) : xMet l yX11_begin cX11_begin 2 (some .int) 7 (gmc Z) (gms Z) 126 Z h [.ref (zB Z + 0)] (gQi Z (fun r Z1 h1 k n => pGr Z Z1 ∧ pSk Z1 ∧ Iv Z1 h1 ∧ agrD [(1, 1000), (2, 3), (2, 4), (6, 1000), (7, 1000), (8, 1000), (9, 1000), (13, 1000), (22, 6), (129, 1000), (0, 11), (0, 10), (22, 5), (36, 4), (36, 5), (122, 1000), (10, 3), (10, 4), (10, 5), (10, 6)] h h1 ∧ (k ≤ pPh Z1 - pPh Z ∧ n ≤ 2 * (pPh Z1 - pPh Z) ∧ pPh Z ≤ pPh Z1) ∧ pLk Z1 h1 ∧ ((h1 129 2).toInt ≤ (h 129 2).toInt + 0) ∧ ((h1 129 3).toInt ≤ (h 129 3).toInt + 0) ∧ ((h1 2 4).toInt ≤ (h 2 4).toInt))) (gX Z (fun E Z1 h1 k n => E = xIS ∧ pGr Z Z1 ∧ pSk Z1 ∧ Iv Z1 h1 ∧ agrD [(1, 1000), (2, 3), (2, 4), (6, 1000), (7, 1000), (8, 1000), (9, 1000), (13, 1000), (22, 6), (129, 1000), (0, 11), (0, 10), (22, 5), (36, 4), (36, 5), (122, 1000), (10, 3), (10, 4), (10, 5), (10, 6)] h h1 ∧ (k ≤ pPh Z1 - pPh Z + 1 ∧ n ≤ 2 * (pPh Z1 - pPh Z) + 6 ∧ pPh Z ≤ pPh Z1) ∧ pLk Z1 h1 ∧ ((h1 129 2).toInt ≤ (h 129 2).toInt + 0) ∧ ((h1 129 3).toInt ≤ (h 129 3).toInt + 0) ∧ ((h1 2 4).toInt ≤ (h 2 4).toInt))) := by
  refine xOfW (lv := [(0, .ref (zB Z + 0))]) (by decide) (Nat.le_of_ble_eq_true rfl) rfl ?_
  intro p e s m below meth c ls M hr hlk hnm V hl hct X
  have hx := M.1.1
  have hb := M.1.2.1
  have A : agrD [] h h := agrD.rf
  have hP0 : pPh Z ≤ pPh Z := Nat.le_refl _
  have hPm := K.ph
  have GR : pGr Z Z := pGr.rf
  have i_129_2 : 0 ≤ (h 129 2).toInt := (I.get (c_is_129 S) 2).1
  have i_129_3 : 0 ≤ (h 129 3).toInt := (I.get (c_is_129 S) 3).1
  refine W.widen (k := pPh Z - pPh Z) (n := 2 * (pPh Z - pPh Z)) (Nat.zero_le _) (Nat.zero_le _) ?_
  refine lv_aload_n hx hb dX11_begin_0 rfl (lv_at hl 0 rfl) ?_
  refine lv_aload_n hx hb dX11_begin_1 rfl (lv_at hl 0 rfl) ?_
  refine pg_i M V 11 10 (c_is_0 S) pC11 fk11_10 lkF_X11_84 dX11_begin_2 ?_
  refine lv_topi (fun v1 ev1 => ?_)
  have tv1 : 0 ≤ v1.toInt ∧ v1.toInt ≤ 1 := by rw [ev1]; exact I.get (c_is_0 S) 10
  refine lv_if_ne (tgt := 12) hx hb dX11_begin_5 (by decide) (fun c_5 => ?_) (fun c_5 => ?_)
  · skip
    have k_0 : (0 : Int32).toInt = 0 := rfl
    have c_5 := pi_ne c_5
    refine lv_iconst (v := 0) hx hb dX11_begin_12 (by decide) ?_
    refine xz_v Z rfl rfl (xr_V M V X (m_X11_requireState l hl9 S I (0 : Int32)) km_X11_requireState (c_is_0 S) pC11 lkM_X11_88 rfl hl.1 rfl (Nat.le_of_ble_eq_true rfl) ⟨Nat.le_of_ble_eq_true rfl, Nat.le_of_ble_eq_true rfl⟩ (g_rk (by omega) (by omega)) dX11_begin_13) V (fun E ce q9 yr2 hr2 H locs pr2 V w1 w2 w3 => ?_) (fun yr2 hr2 kr2 nr2 H locs pr2 V => ?_)
    · obtain ⟨hE, e2, I, pA_r2⟩ := pr2
      rw [← e2] at V
      have A := A.wk (l3 := [(0, 10), (22, 5), (36, 4), (36, 5), (122, 1000), (10, 3), (10, 4), (10, 5), (10, 6)]) (by decide)
      have A := A.tr pA_r2 (by decide)
      have L := L.congr (pA_r2.get 129 2 (by decide)) (pA_r2.get 129 3 (by decide))
      have w_r2_129_2 : (hr2 129 2).toInt = (h 129 2).toInt := congrArg Int32.toInt (pA_r2.get 129 2 (by decide))
      have w_r2_129_3 : (hr2 129 3).toInt = (h 129 3).toInt := congrArg Int32.toInt (pA_r2.get 129 3 (by decide))
      have w_r2_2_4 : (hr2 2 4).toInt = (h 2 4).toInt := congrArg Int32.toInt (pA_r2.get 2 4 (by decide))
      exact xe_out (Z' := Z) V rfl rfl hct hlk w1 w2 w3 ⟨hE, GR, K, I, A.wk (by decide), ⟨by omega, by omega, hP0⟩, L, (show (hr2 129 2).toInt ≤ (h 129 2).toInt + 0 by omega), (show (hr2 129 3).toInt ≤ (h 129 3).toInt + 0 by omega), (show (hr2 2 4).toInt ≤ (h 2 4).toInt by omega)⟩ (g_rx (by omega) (by omega) hPm)
    · obtain ⟨e2, rfl, rfl, rfl, fr2⟩ := pr2
      rw [← e2] at V
      refine lv_aload_n hx hb dX11_begin_16 rfl (lv_at hl 0 rfl) ?_
      refine pg_r M V 11 0 (c_is_0 S) pC11 fk11_0 (c_r_0_0 S) lkF_X11_10 dX11_begin_17 ?_
      refine pk_i (pr_V M V (m_X5_takeEvents l S I  ) km_X5_takeEvents (c_is_1 S) pC5 lkM_X11_92 rfl hl.1 rfl (Nat.le_of_ble_eq_true rfl) ⟨Nat.le_of_ble_eq_true rfl, Nat.le_of_ble_eq_true rfl⟩ (g_r0 (by omega) (by omega)) dX11_begin_20) V (fun r3 Zr3 hr3 H locs pr3 _ _ V => ?_)
      obtain ⟨rfl, I, pA_r3, fr3_0⟩ := pr3
      have A := A.wk (l3 := [(1, 1000), (2, 3), (2, 4), (6, 1000), (7, 1000), (8, 1000), (9, 1000)]) (by decide)
      have A := A.tr pA_r3 (by decide)
      have L := L.congr (pA_r3.get 129 2 (by decide)) (pA_r3.get 129 3 (by decide))
      have w_r3_129_2 : (hr3 129 2).toInt = (h 129 2).toInt := congrArg Int32.toInt (pA_r3.get 129 2 (by decide))
      have w_r3_129_3 : (hr3 129 3).toInt = (h 129 3).toInt := congrArg Int32.toInt (pA_r3.get 129 3 (by decide))
      refine lv_istore_n (lv' := [(1, .int r3), (0, .ref (zB Z + 0))]) hx hb dX11_begin_23 rfl hl (by decide) rfl (fun ls hl => ?_)
      refine lv_aload_n hx hb dX11_begin_24 rfl (lv_at hl 1 rfl) ?_
      refine pg_r M V 11 1 (c_is_0 S) pC11 fk11_1 (c_r_0_1 S) lkF_X11_19 dX11_begin_25 ?_
      refine lv_aload_n hx hb dX11_begin_28 rfl (lv_at hl 1 rfl) ?_
      refine pg_r M V 11 0 (c_is_0 S) pC11 fk11_0 (c_r_0_0 S) lkF_X11_10 dX11_begin_29 ?_
      refine pk_v (pr_V M V (m_X3_findHovered l S I  ) km_X3_findHovered (c_is_10 S) pC3 lkM_X11_96 rfl hl.1 rfl (Nat.le_of_ble_eq_true rfl) ⟨Nat.le_of_ble_eq_true rfl, Nat.le_of_ble_eq_true rfl⟩ (g_r0 (by omega) (by omega)) dX11_begin_32) V (fun Zr4 hr4 H locs pr4 _ _ V => ?_)
      obtain ⟨rfl, I, pA_r4⟩ := pr4
      have A := A.wk (l3 := [(1, 1000), (2, 3), (2, 4), (6, 1000), (7, 1000), (8, 1000), (9, 1000), (10, 3), (10, 4), (10, 5), (10, 6), (13, 1000)]) (by decide)
      have A := A.tr pA_r4 (by decide)
      have L := L.congr (pA_r4.get 129 2 (by decide)) (pA_r4.get 129 3 (by decide))
      have w_r4_129_2 : (hr4 129 2).toInt = (hr3 129 2).toInt := congrArg Int32.toInt (pA_r4.get 129 2 (by decide))
      have w_r4_129_3 : (hr4 129 3).toInt = (hr3 129 3).toInt := congrArg Int32.toInt (pA_r4.get 129 3 (by decide))
      have w_r4_2_4 : (hr4 2 4).toInt = (hr3 2 4).toInt := congrArg Int32.toInt (pA_r4.get 2 4 (by decide))
      refine lv_aload_n hx hb dX11_begin_35 rfl (lv_at hl 1 rfl) ?_
      refine pk_v (pr_V M V (m_X11_moveActiveWindow l S I  ) km_X11_moveActiveWindow (c_is_0 S) pC11 lkM_X11_100 rfl hl.1 rfl (Nat.le_of_ble_eq_true rfl) ⟨Nat.le_of_ble_eq_true rfl, Nat.le_of_ble_eq_true rfl⟩ (g_r0 (by omega) (by omega)) dX11_begin_36) V (fun Zr5 hr5 H locs pr5 _ _ V => ?_)
      obtain ⟨rfl, I, pA_r5⟩ := pr5
      have A := A.tr pA_r5 (by decide)
      have L := L.congr (pA_r5.get 129 2 (by decide)) (pA_r5.get 129 3 (by decide))
      have w_r5_129_2 : (hr5 129 2).toInt = (hr4 129 2).toInt := congrArg Int32.toInt (pA_r5.get 129 2 (by decide))
      have w_r5_129_3 : (hr5 129 3).toInt = (hr4 129 3).toInt := congrArg Int32.toInt (pA_r5.get 129 3 (by decide))
      have w_r5_2_4 : (hr5 2 4).toInt = (hr4 2 4).toInt := congrArg Int32.toInt (pA_r5.get 2 4 (by decide))
      refine lv_aload_n hx hb dX11_begin_39 rfl (lv_at hl 1 rfl) ?_
      refine pg_r M V 11 2 (c_is_0 S) pC11 fk11_2 (c_r_0_2 S) lkF_X11_26 dX11_begin_40 ?_
      refine lv_aload_n hx hb dX11_begin_43 rfl (lv_at hl 1 rfl) ?_
      refine pg_r M V 11 1 (c_is_0 S) pC11 fk11_1 (c_r_0_1 S) lkF_X11_19 dX11_begin_44 ?_
      refine pg_i M V 3 3 (c_is_10 S) pC3 fk3_3 lkF_X11_103 dX11_begin_47 ?_
      refine lv_topi (fun v6 ev6 => ?_)
      refine lv_aload_n hx hb dX11_begin_50 rfl (lv_at hl 1 rfl) ?_
      refine pg_r M V 11 0 (c_is_0 S) pC11 fk11_0 (c_r_0_0 S) lkF_X11_10 dX11_begin_51 ?_
      refine pk_v (pr_V M V (m_X6_findWheelKid l S I v6  ) km_X6_findWheelKid (c_is_22 S) pC6 lkM_X11_107 rfl hl.1 rfl (Nat.le_of_ble_eq_true rfl) ⟨Nat.le_of_ble_eq_true rfl, Nat.le_of_ble_eq_true rfl⟩ (g_r0 (by omega) (by omega)) dX11_begin_54) V (fun Zr7 hr7 H locs pr7 _ _ V => ?_)
      obtain ⟨rfl, I, pA_r7⟩ := pr7
      have A := A.wk (l3 := [(1, 1000), (2, 3), (2, 4), (6, 1000), (7, 1000), (8, 1000), (9, 1000), (10, 3), (10, 4), (10, 5), (10, 6), (13, 1000), (22, 6)]) (by decide)
      have A := A.tr pA_r7 (by decide)
      have L := L.congr (pA_r7.get 129 2 (by decide)) (pA_r7.get 129 3 (by decide))
      have w_r7_129_2 : (hr7 129 2).toInt = (hr5 129 2).toInt := congrArg Int32.toInt (pA_r7.get 129 2 (by decide))
      have w_r7_129_3 : (hr7 129 3).toInt = (hr5 129 3).toInt := congrArg Int32.toInt (pA_r7.get 129 3 (by decide))
      have w_r7_2_4 : (hr7 2 4).toInt = (hr5 2 4).toInt := congrArg Int32.toInt (pA_r7.get 2 4 (by decide))
      refine lv_aload_n hx hb dX11_begin_57 rfl (lv_at hl 1 rfl) ?_
      refine pg_r M V 11 1 (c_is_0 S) pC11 fk11_1 (c_r_0_1 S) lkF_X11_19 dX11_begin_58 ?_
      refine pk_v (pr_V M V (m_X3_forgetTold l S I  ) km_X3_forgetTold (c_is_10 S) pC3 lkM_X11_111 rfl hl.1 rfl (Nat.le_of_ble_eq_true rfl) ⟨Nat.le_of_ble_eq_true rfl, Nat.le_of_ble_eq_true rfl⟩ (g_r0 (by omega) (by omega)) dX11_begin_61) V (fun Zr8 hr8 H locs pr8 _ _ V => ?_)
      obtain ⟨rfl, I, pA_r8⟩ := pr8
      have A := A.tr pA_r8 (by decide)
      have L := L.congr (pA_r8.get 129 2 (by decide)) (pA_r8.get 129 3 (by decide))
      have w_r8_129_2 : (hr8 129 2).toInt = (hr7 129 2).toInt := congrArg Int32.toInt (pA_r8.get 129 2 (by decide))
      have w_r8_129_3 : (hr8 129 3).toInt = (hr7 129 3).toInt := congrArg Int32.toInt (pA_r8.get 129 3 (by decide))
      have w_r8_2_4 : (hr8 2 4).toInt = (hr7 2 4).toInt := congrArg Int32.toInt (pA_r8.get 2 4 (by decide))
      refine lv_aload_n hx hb dX11_begin_64 rfl (lv_at hl 1 rfl) ?_
      refine pg_r M V 11 2 (c_is_0 S) pC11 fk11_2 (c_r_0_2 S) lkF_X11_26 dX11_begin_65 ?_
      refine lv_iconst (v := 0) hx hb dX11_begin_68 (by decide) ?_
      refine pp_i M V 6 5 (c_is_22 S) pC6 fk6_5 rfl lkF_X11_114 ⟨rfl, rfl⟩ dX11_begin_69 (fun H locs V => ?_)
      have A := A.wk (l3 := [(1, 1000), (2, 3), (2, 4), (6, 1000), (7, 1000), (8, 1000), (9, 1000), (10, 3), (10, 4), (10, 5), (10, 6), (13, 1000), (22, 6), (22, 5)]) (by decide)
      have A := A.up (o := 22) (k := 5) (v := (0 : Int32)) (by decide)
      have I := I.up (k := 5) (v := (0 : Int32)) (c_is_22 S) (pi_full _)
      refine lv_aload_n hx hb dX11_begin_72 rfl (lv_at hl 1 rfl) ?_
      refine pg_r M V 11 3 (c_is_0 S) pC11 fk11_3 (c_r_0_3 S) lkF_X11_33 dX11_begin_73 ?_
      refine pk_v (pr_V M V (m_X8_clear l S I  ) km_X8_clear (c_is_36 S) pC8 lkM_X11_117 rfl hl.1 rfl (Nat.le_of_ble_eq_true rfl) ⟨Nat.le_of_ble_eq_true rfl, Nat.le_of_ble_eq_true rfl⟩ (g_r0 (by omega) (by omega)) dX11_begin_76) V (fun Zr9 hr9 H locs pr9 _ _ V => ?_)
      obtain ⟨rfl, I, pA_r9⟩ := pr9
      have A := A.wk (l3 := [(1, 1000), (2, 3), (2, 4), (6, 1000), (7, 1000), (8, 1000), (9, 1000), (10, 3), (10, 4), (10, 5), (10, 6), (13, 1000), (22, 6), (22, 5), (36, 4), (36, 5)]) (by decide)
      have A := A.tr pA_r9 (by decide)
      have L := L.congr (pA_r9.get 129 2 (by decide)) (pA_r9.get 129 3 (by decide))
      have w_r9_129_2 : (hr9 129 2).toInt = (hr8 129 2).toInt := congrArg Int32.toInt (pA_r9.get 129 2 (by decide))
      have w_r9_129_3 : (hr9 129 3).toInt = (hr8 129 3).toInt := congrArg Int32.toInt (pA_r9.get 129 3 (by decide))
      have w_r9_2_4 : (hr9 2 4).toInt = (hr8 2 4).toInt := congrArg Int32.toInt (pA_r9.get 2 4 (by decide))
      refine lv_aload_n hx hb dX11_begin_79 rfl (lv_at hl 1 rfl) ?_
      refine pg_r M V 11 4 (c_is_0 S) pC11 fk11_4 (c_r_0_4 S) lkF_X11_40 dX11_begin_80 ?_
      refine pk_v (pr_V M V (m_X1_startFrame l S I  ) km_X1_startFrame (c_is_122 S) pC1 lkM_X11_120 rfl hl.1 rfl (Nat.le_of_ble_eq_true rfl) ⟨Nat.le_of_ble_eq_true rfl, Nat.le_of_ble_eq_true rfl⟩ (g_r0 (by omega) (by omega)) dX11_begin_83) V (fun Zr10 hr10 H locs pr10 _ _ V => ?_)
      obtain ⟨rfl, I, pA_r10⟩ := pr10
      have A := A.wk (l3 := [(1, 1000), (2, 3), (2, 4), (6, 1000), (7, 1000), (8, 1000), (9, 1000), (10, 3), (10, 4), (10, 5), (10, 6), (13, 1000), (22, 6), (22, 5), (36, 4), (36, 5), (122, 1000)]) (by decide)
      have A := A.tr pA_r10 (by decide)
      have L := L.congr (pA_r10.get 129 2 (by decide)) (pA_r10.get 129 3 (by decide))
      have w_r10_129_2 : (hr10 129 2).toInt = (hr9 129 2).toInt := congrArg Int32.toInt (pA_r10.get 129 2 (by decide))
      have w_r10_129_3 : (hr10 129 3).toInt = (hr9 129 3).toInt := congrArg Int32.toInt (pA_r10.get 129 3 (by decide))
      have w_r10_2_4 : (hr10 2 4).toInt = (hr9 2 4).toInt := congrArg Int32.toInt (pA_r10.get 2 4 (by decide))
      refine lv_aload_n hx hb dX11_begin_86 rfl (lv_at hl 1 rfl) ?_
      refine pg_r M V 11 6 (c_is_0 S) pC11 fk11_6 (c_r_0_6 S) lkF_X11_54 dX11_begin_87 ?_
      refine pk_v (pr_V M V (m_X9_clear_129 l S I  ) km_X9_clear (c_is_129 S) pC9 lkM_X11_123 rfl hl.1 rfl (Nat.le_of_ble_eq_true rfl) ⟨Nat.le_of_ble_eq_true rfl, Nat.le_of_ble_eq_true rfl⟩ (g_r0 (by omega) (by omega)) dX11_begin_90) V (fun Zr11 hr11 H locs pr11 _ _ V => ?_)
      obtain ⟨rfl, I, pA_r11, fr11_0⟩ := pr11
      have A := A.wk (l3 := [(1, 1000), (2, 3), (2, 4), (6, 1000), (7, 1000), (8, 1000), (9, 1000), (10, 3), (10, 4), (10, 5), (10, 6), (13, 1000), (22, 6), (22, 5), (36, 4), (36, 5), (122, 1000), (129, 1000)]) (by decide)
      have A := A.tr pA_r11 (by decide)
      have L : pLk Z hr11 := ⟨by have := fr11_0; have := K.1.2.2.2; omega, by have := fr11_0; omega⟩
      have w_r11_2_4 : (hr11 2 4).toInt = (hr10 2 4).toInt := congrArg Int32.toInt (pA_r11.get 2 4 (by decide))
      refine lv_aload_n hx hb dX11_begin_93 rfl (lv_at hl 1 rfl) ?_
      refine lv_iconst (v := 0) hx hb dX11_begin_94 (by decide) ?_
      have z_95 : (0 : Int32) = 0 ∨ (0 : Int32) = 1 := pi_z (by omega)
      refine pp_i M V 11 11 (c_is_0 S) pC11 fk11_11 rfl lkF_X11_124 ⟨(pn_z z_95).1, (pn_z z_95).2.1⟩ dX11_begin_95 (fun H locs V => ?_)
      have A := A.wk (l3 := [(1, 1000), (2, 3), (2, 4), (6, 1000), (7, 1000), (8, 1000), (9, 1000), (10, 3), (10, 4), (10, 5), (10, 6), (13, 1000), (22, 6), (22, 5), (36, 4), (36, 5), (122, 1000), (129, 1000), (0, 11)]) (by decide)
      have A := A.up (o := 0) (k := 11) (v := (0 : Int32)) (by decide)
      have I := I.up (k := 11) (v := (0 : Int32)) (c_is_0 S) (show (0 : Int) ≤ (0 : Int32).toInt ∧ (0 : Int32).toInt ≤ (1 : Int) by omega)
      refine lv_aload_n hx hb dX11_begin_98 rfl (lv_at hl 1 rfl) ?_
      refine lv_iconst (v := 1) hx hb dX11_begin_99 (by decide) ?_
      have k_1 : (1 : Int32).toInt = 1 := rfl
      have z_100 : (1 : Int32) = 0 ∨ (1 : Int32) = 1 := pi_z (by omega)
      refine pp_i M V 11 10 (c_is_0 S) pC11 fk11_10 rfl lkF_X11_84 ⟨(pn_z z_100).1, (pn_z z_100).2.1⟩ dX11_begin_100 (fun H locs V => ?_)
      have A := A.wk (l3 := [(1, 1000), (2, 3), (2, 4), (6, 1000), (7, 1000), (8, 1000), (9, 1000), (10, 3), (10, 4), (10, 5), (10, 6), (13, 1000), (22, 6), (22, 5), (36, 4), (36, 5), (122, 1000), (129, 1000), (0, 11), (0, 10)]) (by decide)
      have A := A.up (o := 0) (k := 10) (v := (1 : Int32)) (by decide)
      have I := I.up (k := 10) (v := (1 : Int32)) (c_is_0 S) (show (0 : Int) ≤ (1 : Int32).toInt ∧ (1 : Int32).toInt ≤ (1 : Int) by omega)
      refine lv_iload_n hx hb dX11_begin_103 rfl (lv_at hl 0 rfl) ?_
      exact vx_ret (ge_i (Z := Z) (Z' := Z) M V rfl rfl hr hlk rfl ⟨GR, K, I, A.wk (by decide), ⟨by omega, by omega, hP0⟩, L, (show (hr11 129 2).toInt ≤ (h 129 2).toInt + 0 by omega), (show (hr11 129 3).toInt ≤ (h 129 3).toInt + 0 by omega), (show (hr11 2 4).toInt ≤ (h 2 4).toInt by omega)⟩ (g_re (by omega) (by omega) hPm) dX11_begin_104)
  · skip
    have k_0 : (0 : Int32).toInt = 0 := rfl
    have c_5 := pi_eq.mp c_5
    refine lv_iconst (v := 1) hx hb dX11_begin_8 (by decide) ?_
    refine lv_goto (tgt := 13) hx hb dX11_begin_9 (by decide) ?_
    have k_1 : (1 : Int32).toInt = 1 := rfl
    refine xz_v Z rfl rfl (xr_V M V X (m_X11_requireState l hl9 S I (1 : Int32)) km_X11_requireState (c_is_0 S) pC11 lkM_X11_88 rfl hl.1 rfl (Nat.le_of_ble_eq_true rfl) ⟨Nat.le_of_ble_eq_true rfl, Nat.le_of_ble_eq_true rfl⟩ (g_rk (by omega) (by omega)) dX11_begin_13) V (fun E ce q9 yr12 hr12 H locs pr12 V w1 w2 w3 => ?_) (fun yr12 hr12 kr12 nr12 H locs pr12 V => ?_)
    · obtain ⟨hE, e2, I, pA_r12⟩ := pr12
      rw [← e2] at V
      have A := A.wk (l3 := [(0, 10), (22, 5), (36, 4), (36, 5), (122, 1000), (10, 3), (10, 4), (10, 5), (10, 6)]) (by decide)
      have A := A.tr pA_r12 (by decide)
      have L := L.congr (pA_r12.get 129 2 (by decide)) (pA_r12.get 129 3 (by decide))
      have w_r12_129_2 : (hr12 129 2).toInt = (h 129 2).toInt := congrArg Int32.toInt (pA_r12.get 129 2 (by decide))
      have w_r12_129_3 : (hr12 129 3).toInt = (h 129 3).toInt := congrArg Int32.toInt (pA_r12.get 129 3 (by decide))
      have w_r12_2_4 : (hr12 2 4).toInt = (h 2 4).toInt := congrArg Int32.toInt (pA_r12.get 2 4 (by decide))
      exact xe_out (Z' := Z) V rfl rfl hct hlk w1 w2 w3 ⟨hE, GR, K, I, A.wk (by decide), ⟨by omega, by omega, hP0⟩, L, (show (hr12 129 2).toInt ≤ (h 129 2).toInt + 0 by omega), (show (hr12 129 3).toInt ≤ (h 129 3).toInt + 0 by omega), (show (hr12 2 4).toInt ≤ (h 2 4).toInt by omega)⟩ (g_rx (by omega) (by omega) hPm)
    · obtain ⟨e2, rfl, rfl, rfl, fr12⟩ := pr12
      rw [← e2] at V
      refine lv_aload_n hx hb dX11_begin_16 rfl (lv_at hl 0 rfl) ?_
      refine pg_r M V 11 0 (c_is_0 S) pC11 fk11_0 (c_r_0_0 S) lkF_X11_10 dX11_begin_17 ?_
      refine pk_i (pr_V M V (m_X5_takeEvents l S I  ) km_X5_takeEvents (c_is_1 S) pC5 lkM_X11_92 rfl hl.1 rfl (Nat.le_of_ble_eq_true rfl) ⟨Nat.le_of_ble_eq_true rfl, Nat.le_of_ble_eq_true rfl⟩ (g_r0 (by omega) (by omega)) dX11_begin_20) V (fun r13 Zr13 hr13 H locs pr13 _ _ V => ?_)
      obtain ⟨rfl, I, pA_r13, fr13_0⟩ := pr13
      have A := A.wk (l3 := [(1, 1000), (2, 3), (2, 4), (6, 1000), (7, 1000), (8, 1000), (9, 1000)]) (by decide)
      have A := A.tr pA_r13 (by decide)
      have L := L.congr (pA_r13.get 129 2 (by decide)) (pA_r13.get 129 3 (by decide))
      have w_r13_129_2 : (hr13 129 2).toInt = (h 129 2).toInt := congrArg Int32.toInt (pA_r13.get 129 2 (by decide))
      have w_r13_129_3 : (hr13 129 3).toInt = (h 129 3).toInt := congrArg Int32.toInt (pA_r13.get 129 3 (by decide))
      refine lv_istore_n (lv' := [(1, .int r13), (0, .ref (zB Z + 0))]) hx hb dX11_begin_23 rfl hl (by decide) rfl (fun ls hl => ?_)
      refine lv_aload_n hx hb dX11_begin_24 rfl (lv_at hl 1 rfl) ?_
      refine pg_r M V 11 1 (c_is_0 S) pC11 fk11_1 (c_r_0_1 S) lkF_X11_19 dX11_begin_25 ?_
      refine lv_aload_n hx hb dX11_begin_28 rfl (lv_at hl 1 rfl) ?_
      refine pg_r M V 11 0 (c_is_0 S) pC11 fk11_0 (c_r_0_0 S) lkF_X11_10 dX11_begin_29 ?_
      refine pk_v (pr_V M V (m_X3_findHovered l S I  ) km_X3_findHovered (c_is_10 S) pC3 lkM_X11_96 rfl hl.1 rfl (Nat.le_of_ble_eq_true rfl) ⟨Nat.le_of_ble_eq_true rfl, Nat.le_of_ble_eq_true rfl⟩ (g_r0 (by omega) (by omega)) dX11_begin_32) V (fun Zr14 hr14 H locs pr14 _ _ V => ?_)
      obtain ⟨rfl, I, pA_r14⟩ := pr14
      have A := A.wk (l3 := [(1, 1000), (2, 3), (2, 4), (6, 1000), (7, 1000), (8, 1000), (9, 1000), (10, 3), (10, 4), (10, 5), (10, 6), (13, 1000)]) (by decide)
      have A := A.tr pA_r14 (by decide)
      have L := L.congr (pA_r14.get 129 2 (by decide)) (pA_r14.get 129 3 (by decide))
      have w_r14_129_2 : (hr14 129 2).toInt = (hr13 129 2).toInt := congrArg Int32.toInt (pA_r14.get 129 2 (by decide))
      have w_r14_129_3 : (hr14 129 3).toInt = (hr13 129 3).toInt := congrArg Int32.toInt (pA_r14.get 129 3 (by decide))
      have w_r14_2_4 : (hr14 2 4).toInt = (hr13 2 4).toInt := congrArg Int32.toInt (pA_r14.get 2 4 (by decide))
      refine lv_aload_n hx hb dX11_begin_35 rfl (lv_at hl 1 rfl) ?_
      refine pk_v (pr_V M V (m_X11_moveActiveWindow l S I  ) km_X11_moveActiveWindow (c_is_0 S) pC11 lkM_X11_100 rfl hl.1 rfl (Nat.le_of_ble_eq_true rfl) ⟨Nat.le_of_ble_eq_true rfl, Nat.le_of_ble_eq_true rfl⟩ (g_r0 (by omega) (by omega)) dX11_begin_36) V (fun Zr15 hr15 H locs pr15 _ _ V => ?_)
      obtain ⟨rfl, I, pA_r15⟩ := pr15
      have A := A.tr pA_r15 (by decide)
      have L := L.congr (pA_r15.get 129 2 (by decide)) (pA_r15.get 129 3 (by decide))
      have w_r15_129_2 : (hr15 129 2).toInt = (hr14 129 2).toInt := congrArg Int32.toInt (pA_r15.get 129 2 (by decide))
      have w_r15_129_3 : (hr15 129 3).toInt = (hr14 129 3).toInt := congrArg Int32.toInt (pA_r15.get 129 3 (by decide))
      have w_r15_2_4 : (hr15 2 4).toInt = (hr14 2 4).toInt := congrArg Int32.toInt (pA_r15.get 2 4 (by decide))
      refine lv_aload_n hx hb dX11_begin_39 rfl (lv_at hl 1 rfl) ?_
      refine pg_r M V 11 2 (c_is_0 S) pC11 fk11_2 (c_r_0_2 S) lkF_X11_26 dX11_begin_40 ?_
      refine lv_aload_n hx hb dX11_begin_43 rfl (lv_at hl 1 rfl) ?_
      refine pg_r M V 11 1 (c_is_0 S) pC11 fk11_1 (c_r_0_1 S) lkF_X11_19 dX11_begin_44 ?_
      refine pg_i M V 3 3 (c_is_10 S) pC3 fk3_3 lkF_X11_103 dX11_begin_47 ?_
      refine lv_topi (fun v16 ev16 => ?_)
      refine lv_aload_n hx hb dX11_begin_50 rfl (lv_at hl 1 rfl) ?_
      refine pg_r M V 11 0 (c_is_0 S) pC11 fk11_0 (c_r_0_0 S) lkF_X11_10 dX11_begin_51 ?_
      refine pk_v (pr_V M V (m_X6_findWheelKid l S I v16  ) km_X6_findWheelKid (c_is_22 S) pC6 lkM_X11_107 rfl hl.1 rfl (Nat.le_of_ble_eq_true rfl) ⟨Nat.le_of_ble_eq_true rfl, Nat.le_of_ble_eq_true rfl⟩ (g_r0 (by omega) (by omega)) dX11_begin_54) V (fun Zr17 hr17 H locs pr17 _ _ V => ?_)
      obtain ⟨rfl, I, pA_r17⟩ := pr17
      have A := A.wk (l3 := [(1, 1000), (2, 3), (2, 4), (6, 1000), (7, 1000), (8, 1000), (9, 1000), (10, 3), (10, 4), (10, 5), (10, 6), (13, 1000), (22, 6)]) (by decide)
      have A := A.tr pA_r17 (by decide)
      have L := L.congr (pA_r17.get 129 2 (by decide)) (pA_r17.get 129 3 (by decide))
      have w_r17_129_2 : (hr17 129 2).toInt = (hr15 129 2).toInt := congrArg Int32.toInt (pA_r17.get 129 2 (by decide))
      have w_r17_129_3 : (hr17 129 3).toInt = (hr15 129 3).toInt := congrArg Int32.toInt (pA_r17.get 129 3 (by decide))
      have w_r17_2_4 : (hr17 2 4).toInt = (hr15 2 4).toInt := congrArg Int32.toInt (pA_r17.get 2 4 (by decide))
      refine lv_aload_n hx hb dX11_begin_57 rfl (lv_at hl 1 rfl) ?_
      refine pg_r M V 11 1 (c_is_0 S) pC11 fk11_1 (c_r_0_1 S) lkF_X11_19 dX11_begin_58 ?_
      refine pk_v (pr_V M V (m_X3_forgetTold l S I  ) km_X3_forgetTold (c_is_10 S) pC3 lkM_X11_111 rfl hl.1 rfl (Nat.le_of_ble_eq_true rfl) ⟨Nat.le_of_ble_eq_true rfl, Nat.le_of_ble_eq_true rfl⟩ (g_r0 (by omega) (by omega)) dX11_begin_61) V (fun Zr18 hr18 H locs pr18 _ _ V => ?_)
      obtain ⟨rfl, I, pA_r18⟩ := pr18
      have A := A.tr pA_r18 (by decide)
      have L := L.congr (pA_r18.get 129 2 (by decide)) (pA_r18.get 129 3 (by decide))
      have w_r18_129_2 : (hr18 129 2).toInt = (hr17 129 2).toInt := congrArg Int32.toInt (pA_r18.get 129 2 (by decide))
      have w_r18_129_3 : (hr18 129 3).toInt = (hr17 129 3).toInt := congrArg Int32.toInt (pA_r18.get 129 3 (by decide))
      have w_r18_2_4 : (hr18 2 4).toInt = (hr17 2 4).toInt := congrArg Int32.toInt (pA_r18.get 2 4 (by decide))
      refine lv_aload_n hx hb dX11_begin_64 rfl (lv_at hl 1 rfl) ?_
      refine pg_r M V 11 2 (c_is_0 S) pC11 fk11_2 (c_r_0_2 S) lkF_X11_26 dX11_begin_65 ?_
      refine lv_iconst (v := 0) hx hb dX11_begin_68 (by decide) ?_
      refine pp_i M V 6 5 (c_is_22 S) pC6 fk6_5 rfl lkF_X11_114 ⟨rfl, rfl⟩ dX11_begin_69 (fun H locs V => ?_)
      have A := A.wk (l3 := [(1, 1000), (2, 3), (2, 4), (6, 1000), (7, 1000), (8, 1000), (9, 1000), (10, 3), (10, 4), (10, 5), (10, 6), (13, 1000), (22, 6), (22, 5)]) (by decide)
      have A := A.up (o := 22) (k := 5) (v := (0 : Int32)) (by decide)
      have I := I.up (k := 5) (v := (0 : Int32)) (c_is_22 S) (pi_full _)
      refine lv_aload_n hx hb dX11_begin_72 rfl (lv_at hl 1 rfl) ?_
      refine pg_r M V 11 3 (c_is_0 S) pC11 fk11_3 (c_r_0_3 S) lkF_X11_33 dX11_begin_73 ?_
      refine pk_v (pr_V M V (m_X8_clear l S I  ) km_X8_clear (c_is_36 S) pC8 lkM_X11_117 rfl hl.1 rfl (Nat.le_of_ble_eq_true rfl) ⟨Nat.le_of_ble_eq_true rfl, Nat.le_of_ble_eq_true rfl⟩ (g_r0 (by omega) (by omega)) dX11_begin_76) V (fun Zr19 hr19 H locs pr19 _ _ V => ?_)
      obtain ⟨rfl, I, pA_r19⟩ := pr19
      have A := A.wk (l3 := [(1, 1000), (2, 3), (2, 4), (6, 1000), (7, 1000), (8, 1000), (9, 1000), (10, 3), (10, 4), (10, 5), (10, 6), (13, 1000), (22, 6), (22, 5), (36, 4), (36, 5)]) (by decide)
      have A := A.tr pA_r19 (by decide)
      have L := L.congr (pA_r19.get 129 2 (by decide)) (pA_r19.get 129 3 (by decide))
      have w_r19_129_2 : (hr19 129 2).toInt = (hr18 129 2).toInt := congrArg Int32.toInt (pA_r19.get 129 2 (by decide))
      have w_r19_129_3 : (hr19 129 3).toInt = (hr18 129 3).toInt := congrArg Int32.toInt (pA_r19.get 129 3 (by decide))
      have w_r19_2_4 : (hr19 2 4).toInt = (hr18 2 4).toInt := congrArg Int32.toInt (pA_r19.get 2 4 (by decide))
      refine lv_aload_n hx hb dX11_begin_79 rfl (lv_at hl 1 rfl) ?_
      refine pg_r M V 11 4 (c_is_0 S) pC11 fk11_4 (c_r_0_4 S) lkF_X11_40 dX11_begin_80 ?_
      refine pk_v (pr_V M V (m_X1_startFrame l S I  ) km_X1_startFrame (c_is_122 S) pC1 lkM_X11_120 rfl hl.1 rfl (Nat.le_of_ble_eq_true rfl) ⟨Nat.le_of_ble_eq_true rfl, Nat.le_of_ble_eq_true rfl⟩ (g_r0 (by omega) (by omega)) dX11_begin_83) V (fun Zr20 hr20 H locs pr20 _ _ V => ?_)
      obtain ⟨rfl, I, pA_r20⟩ := pr20
      have A := A.wk (l3 := [(1, 1000), (2, 3), (2, 4), (6, 1000), (7, 1000), (8, 1000), (9, 1000), (10, 3), (10, 4), (10, 5), (10, 6), (13, 1000), (22, 6), (22, 5), (36, 4), (36, 5), (122, 1000)]) (by decide)
      have A := A.tr pA_r20 (by decide)
      have L := L.congr (pA_r20.get 129 2 (by decide)) (pA_r20.get 129 3 (by decide))
      have w_r20_129_2 : (hr20 129 2).toInt = (hr19 129 2).toInt := congrArg Int32.toInt (pA_r20.get 129 2 (by decide))
      have w_r20_129_3 : (hr20 129 3).toInt = (hr19 129 3).toInt := congrArg Int32.toInt (pA_r20.get 129 3 (by decide))
      have w_r20_2_4 : (hr20 2 4).toInt = (hr19 2 4).toInt := congrArg Int32.toInt (pA_r20.get 2 4 (by decide))
      refine lv_aload_n hx hb dX11_begin_86 rfl (lv_at hl 1 rfl) ?_
      refine pg_r M V 11 6 (c_is_0 S) pC11 fk11_6 (c_r_0_6 S) lkF_X11_54 dX11_begin_87 ?_
      refine pk_v (pr_V M V (m_X9_clear_129 l S I  ) km_X9_clear (c_is_129 S) pC9 lkM_X11_123 rfl hl.1 rfl (Nat.le_of_ble_eq_true rfl) ⟨Nat.le_of_ble_eq_true rfl, Nat.le_of_ble_eq_true rfl⟩ (g_r0 (by omega) (by omega)) dX11_begin_90) V (fun Zr21 hr21 H locs pr21 _ _ V => ?_)
      obtain ⟨rfl, I, pA_r21, fr21_0⟩ := pr21
      have A := A.wk (l3 := [(1, 1000), (2, 3), (2, 4), (6, 1000), (7, 1000), (8, 1000), (9, 1000), (10, 3), (10, 4), (10, 5), (10, 6), (13, 1000), (22, 6), (22, 5), (36, 4), (36, 5), (122, 1000), (129, 1000)]) (by decide)
      have A := A.tr pA_r21 (by decide)
      have L : pLk Z hr21 := ⟨by have := fr21_0; have := K.1.2.2.2; omega, by have := fr21_0; omega⟩
      have w_r21_2_4 : (hr21 2 4).toInt = (hr20 2 4).toInt := congrArg Int32.toInt (pA_r21.get 2 4 (by decide))
      refine lv_aload_n hx hb dX11_begin_93 rfl (lv_at hl 1 rfl) ?_
      refine lv_iconst (v := 0) hx hb dX11_begin_94 (by decide) ?_
      have z_95 : (0 : Int32) = 0 ∨ (0 : Int32) = 1 := pi_z (by omega)
      refine pp_i M V 11 11 (c_is_0 S) pC11 fk11_11 rfl lkF_X11_124 ⟨(pn_z z_95).1, (pn_z z_95).2.1⟩ dX11_begin_95 (fun H locs V => ?_)
      have A := A.wk (l3 := [(1, 1000), (2, 3), (2, 4), (6, 1000), (7, 1000), (8, 1000), (9, 1000), (10, 3), (10, 4), (10, 5), (10, 6), (13, 1000), (22, 6), (22, 5), (36, 4), (36, 5), (122, 1000), (129, 1000), (0, 11)]) (by decide)
      have A := A.up (o := 0) (k := 11) (v := (0 : Int32)) (by decide)
      have I := I.up (k := 11) (v := (0 : Int32)) (c_is_0 S) (show (0 : Int) ≤ (0 : Int32).toInt ∧ (0 : Int32).toInt ≤ (1 : Int) by omega)
      refine lv_aload_n hx hb dX11_begin_98 rfl (lv_at hl 1 rfl) ?_
      refine lv_iconst (v := 1) hx hb dX11_begin_99 (by decide) ?_
      have z_100 : (1 : Int32) = 0 ∨ (1 : Int32) = 1 := pi_z (by omega)
      refine pp_i M V 11 10 (c_is_0 S) pC11 fk11_10 rfl lkF_X11_84 ⟨(pn_z z_100).1, (pn_z z_100).2.1⟩ dX11_begin_100 (fun H locs V => ?_)
      have A := A.wk (l3 := [(1, 1000), (2, 3), (2, 4), (6, 1000), (7, 1000), (8, 1000), (9, 1000), (10, 3), (10, 4), (10, 5), (10, 6), (13, 1000), (22, 6), (22, 5), (36, 4), (36, 5), (122, 1000), (129, 1000), (0, 11), (0, 10)]) (by decide)
      have A := A.up (o := 0) (k := 10) (v := (1 : Int32)) (by decide)
      have I := I.up (k := 10) (v := (1 : Int32)) (c_is_0 S) (show (0 : Int) ≤ (1 : Int32).toInt ∧ (1 : Int32).toInt ≤ (1 : Int) by omega)
      refine lv_iload_n hx hb dX11_begin_103 rfl (lv_at hl 0 rfl) ?_
      exact vx_ret (ge_i (Z := Z) (Z' := Z) M V rfl rfl hr hlk rfl ⟨GR, K, I, A.wk (by decide), ⟨by omega, by omega, hP0⟩, L, (show (hr21 129 2).toInt ≤ (h 129 2).toInt + 0 by omega), (show (hr21 129 3).toInt ≤ (h 129 3).toInt + 0 by omega), (show (hr21 2 4).toInt ≤ (h 2 4).toInt by omega)⟩ (g_re (by omega) (by omega) hPm) dX11_begin_104)
theorem dX11_end_0 : decode cX11_end 0 = .ok (.aload_n 0, 1) := by decide +kernel
theorem dX11_end_1 : decode cX11_end 1 = .ok (.aload_n 0, 1) := by decide +kernel
theorem dX11_end_2 : decode cX11_end 2 = .ok (.getfield 84, 3) := by decide +kernel
theorem dX11_end_5 : decode cX11_end 5 = .ok (.ifCond .eq 17, 3) := by decide +kernel
theorem dX11_end_8 : decode cX11_end 8 = .ok (.aload_n 0, 1) := by decide +kernel
theorem dX11_end_9 : decode cX11_end 9 = .ok (.getfield 33, 3) := by decide +kernel
theorem dX11_end_12 : decode cX11_end 12 = .ok (.getfield 127, 3) := by decide +kernel
theorem dX11_end_15 : decode cX11_end 15 = .ok (.ifCond .ne 7, 3) := by decide +kernel
theorem dX11_end_18 : decode cX11_end 18 = .ok (.iconst 1, 1) := by decide +kernel
theorem dX11_end_19 : decode cX11_end 19 = .ok (.goto 4, 3) := by decide +kernel
theorem dX11_end_22 : decode cX11_end 22 = .ok (.iconst 0, 1) := by decide +kernel
theorem dX11_end_23 : decode cX11_end 23 = .ok (.invokevirtual 88, 3) := by decide +kernel
theorem dX11_end_26 : decode cX11_end 26 = .ok (.aload_n 0, 1) := by decide +kernel
theorem dX11_end_27 : decode cX11_end 27 = .ok (.getfield 40, 3) := by decide +kernel
theorem dX11_end_30 : decode cX11_end 30 = .ok (.aload_n 0, 1) := by decide +kernel
theorem dX11_end_31 : decode cX11_end 31 = .ok (.getfield 10, 3) := by decide +kernel
theorem dX11_end_34 : decode cX11_end 34 = .ok (.invokevirtual 130, 3) := by decide +kernel
theorem dX11_end_37 : decode cX11_end 37 = .ok (.aload_n 0, 1) := by decide +kernel
theorem dX11_end_38 : decode cX11_end 38 = .ok (.getfield 19, 3) := by decide +kernel
theorem dX11_end_41 : decode cX11_end 41 = .ok (.invokevirtual 133, 3) := by decide +kernel
theorem dX11_end_44 : decode cX11_end 44 = .ok (.aload_n 0, 1) := by decide +kernel
theorem dX11_end_45 : decode cX11_end 45 = .ok (.invokevirtual 136, 3) := by decide +kernel
theorem dX11_end_48 : decode cX11_end 48 = .ok (.aload_n 0, 1) := by decide +kernel
theorem dX11_end_49 : decode cX11_end 49 = .ok (.iconst 0, 1) := by decide +kernel
theorem dX11_end_50 : decode cX11_end 50 = .ok (.putfield 84, 3) := by decide +kernel
theorem dX11_end_53 : decode cX11_end 53 = .ok (.aload_n 0, 1) := by decide +kernel
theorem dX11_end_54 : decode cX11_end 54 = .ok (.getfield 58, 3) := by decide +kernel
theorem dX11_end_57 : decode cX11_end 57 = .ok (.getfield 139, 3) := by decide +kernel
theorem dX11_end_60 : decode cX11_end 60 = .ok (.ireturn, 1) := by decide +kernel
set_option maxHeartbeats 4000000 in
set_option maxRecDepth 100000 in
theorem m_X11_end (l : Launch) (hl9 : l.stackTraces = false) {Z : pZ} (S : pSh Z) {h : pH} (I : Iv Z h) (K : pSk Z) (L : pLk Z h) (hq : (h 129 2).toInt ≤ 990 ∧ (h 129 3).toInt ≤ 990) : xMet l yX11_end cX11_end 1 (some .int) 7 (gmc Z) (gms Z) 135 Z h [.ref (zB Z + 0)] (gQi Z (fun r Z1 h1 k n => pGr Z Z1 ∧ pSk Z1 ∧ Iv Z1 h1 ∧ agrD [(132, 1000), (0, 10), (22, 5), (36, 4), (36, 5), (122, 1000), (10, 3), (10, 4), (10, 5), (10, 6)] h h1 ∧ (k ≤ pPh Z1 - pPh Z ∧ n ≤ 2 * (pPh Z1 - pPh Z) ∧ pPh Z ≤ pPh Z1) ∧ pLk Z1 h1 ∧ ((h1 129 2).toInt ≤ (h 129 2).toInt + 0) ∧ ((h1 129 3).toInt ≤ (h 129 3).toInt + 0))) (gX Z (fun E Z1 h1 k n => E = xIS ∧ pGr Z Z1 ∧ pSk Z1 ∧ Iv Z1 h1 ∧ agrD [(132, 1000), (0, 10), (22, 5), (36, 4), (36, 5), (122, 1000), (10, 3), (10, 4), (10, 5), (10, 6)] h h1 ∧ (k ≤ pPh Z1 - pPh Z + 1 ∧ n ≤ 2 * (pPh Z1 - pPh Z) + 6 ∧ pPh Z ≤ pPh Z1) ∧ pLk Z1 h1 ∧ ((h1 129 2).toInt ≤ (h 129 2).toInt + 0) ∧ ((h1 129 3).toInt ≤ (h 129 3).toInt + 0))) := by
  refine xOfW (lv := [(0, .ref (zB Z + 0))]) (by decide) (Nat.le_of_ble_eq_true rfl) rfl ?_
  intro p e s m below meth c ls M hr hlk hnm V hl hct X
  have hx := M.1.1
  have hb := M.1.2.1
  have A : agrD [] h h := agrD.rf
  have hP0 : pPh Z ≤ pPh Z := Nat.le_refl _
  have hPm := K.ph
  have GR : pGr Z Z := pGr.rf
  have J_23 : ∀ (y23_0 : Int32) (hJ : pH) (H : Heap) (locs : List Loc) (ls : Array Slot), pV Z hJ s.heap H locs → Iv Z hJ → pLk Z hJ → agrD [] h hJ → lv_has ls 1 [(0, .ref (zB Z + 0))] → (0 ≤ y23_0.toInt ∧ y23_0.toInt ≤ 1) → W p l e (pRm 7 (gmc Z) (gms Z) 135) s m ([.ref (zB Z + 0)] : List Value).toArray below meth c H locs (pPh Z - pPh Z) (2 * (pPh Z - pPh Z)) (vx_MQ below (gQi Z (fun r Z1 h1 k n => pGr Z Z1 ∧ pSk Z1 ∧ Iv Z1 h1 ∧ agrD [(132, 1000), (0, 10), (22, 5), (36, 4), (36, 5), (122, 1000), (10, 3), (10, 4), (10, 5), (10, 6)] h h1 ∧ (k ≤ pPh Z1 - pPh Z ∧ n ≤ 2 * (pPh Z1 - pPh Z) ∧ pPh Z ≤ pPh Z1) ∧ pLk Z1 h1 ∧ ((h1 129 2).toInt ≤ (h 129 2).toInt + 0) ∧ ((h1 129 3).toInt ≤ (h 129 3).toInt + 0))) (gX Z (fun E Z1 h1 k n => E = xIS ∧ pGr Z Z1 ∧ pSk Z1 ∧ Iv Z1 h1 ∧ agrD [(132, 1000), (0, 10), (22, 5), (36, 4), (36, 5), (122, 1000), (10, 3), (10, 4), (10, 5), (10, 6)] h h1 ∧ (k ≤ pPh Z1 - pPh Z + 1 ∧ n ≤ 2 * (pPh Z1 - pPh Z) + 6 ∧ pPh Z ≤ pPh Z1) ∧ pLk Z1 h1 ∧ ((h1 129 2).toInt ≤ (h 129 2).toInt + 0) ∧ ((h1 129 3).toInt ≤ (h 129 3).toInt + 0))) ([.ref (zB Z + 0)] : List Value).toArray s (gmc Z) (gms Z) (pA (zB Z))) (F0 m 23 ls [.int y23_0, .ref (zB Z + 0)]) := by
    intro y23_0 hJ H locs ls V I L A hl gs_23_0
    have wJ_129_2 : (hJ 129 2).toInt = (h 129 2).toInt := congrArg Int32.toInt (A.get 129 2 (by decide))
    have wJ_129_3 : (hJ 129 3).toInt = (h 129 3).toInt := congrArg Int32.toInt (A.get 129 3 (by decide))
    refine xz_v Z rfl rfl (xr_V M V X (m_X11_requireState l hl9 S I y23_0) km_X11_requireState (c_is_0 S) pC11 lkM_X11_88 rfl hl.1 rfl (Nat.le_of_ble_eq_true rfl) ⟨Nat.le_of_ble_eq_true rfl, Nat.le_of_ble_eq_true rfl⟩ (g_rk (by omega) (by omega)) dX11_end_23) V (fun E ce q9 yr1 hr1 H locs pr1 V w1 w2 w3 => ?_) (fun yr1 hr1 kr1 nr1 H locs pr1 V => ?_)
    · obtain ⟨hE, e2, I, pA_r1⟩ := pr1
      rw [← e2] at V
      have A := A.wk (l3 := [(0, 10), (22, 5), (36, 4), (36, 5), (122, 1000), (10, 3), (10, 4), (10, 5), (10, 6)]) (by decide)
      have A := A.tr pA_r1 (by decide)
      have L := L.congr (pA_r1.get 129 2 (by decide)) (pA_r1.get 129 3 (by decide))
      have w_r1_129_2 : (hr1 129 2).toInt = (hJ 129 2).toInt := congrArg Int32.toInt (pA_r1.get 129 2 (by decide))
      have w_r1_129_3 : (hr1 129 3).toInt = (hJ 129 3).toInt := congrArg Int32.toInt (pA_r1.get 129 3 (by decide))
      exact xe_out (Z' := Z) V rfl rfl hct hlk w1 w2 w3 ⟨hE, GR, K, I, A.wk (by decide), ⟨by omega, by omega, hP0⟩, L, (show (hr1 129 2).toInt ≤ (h 129 2).toInt + 0 by omega), (show (hr1 129 3).toInt ≤ (h 129 3).toInt + 0 by omega)⟩ (g_rx (by omega) (by omega) hPm)
    · obtain ⟨e2, rfl, rfl, rfl, fr1⟩ := pr1
      rw [← e2] at V
      refine lv_aload_n hx hb dX11_end_26 rfl (lv_at hl 0 rfl) ?_
      refine pg_r M V 11 4 (c_is_0 S) pC11 fk11_4 (c_r_0_4 S) lkF_X11_40 dX11_end_27 ?_
      refine lv_aload_n hx hb dX11_end_30 rfl (lv_at hl 0 rfl) ?_
      refine pg_r M V 11 0 (c_is_0 S) pC11 fk11_0 (c_r_0_0 S) lkF_X11_10 dX11_end_31 ?_
      refine pk_v (pr_V M V (m_X1_finishFrame l S I  ) km_X1_finishFrame (c_is_122 S) pC1 lkM_X11_130 rfl hl.1 rfl (Nat.le_of_ble_eq_true rfl) ⟨Nat.le_of_ble_eq_true rfl, Nat.le_of_ble_eq_true rfl⟩ (g_r0 (by omega) (by omega)) dX11_end_34) V (fun Zr2 hr2 H locs pr2 _ _ V => ?_)
      obtain ⟨rfl, I, pA_r2⟩ := pr2
      have A := A.wk (l3 := [(122, 1000)]) (by decide)
      have A := A.tr pA_r2 (by decide)
      have L := L.congr (pA_r2.get 129 2 (by decide)) (pA_r2.get 129 3 (by decide))
      have w_r2_129_2 : (hr2 129 2).toInt = (hJ 129 2).toInt := congrArg Int32.toInt (pA_r2.get 129 2 (by decide))
      have w_r2_129_3 : (hr2 129 3).toInt = (hJ 129 3).toInt := congrArg Int32.toInt (pA_r2.get 129 3 (by decide))
      refine lv_aload_n hx hb dX11_end_37 rfl (lv_at hl 0 rfl) ?_
      refine pg_r M V 11 1 (c_is_0 S) pC11 fk11_1 (c_r_0_1 S) lkF_X11_19 dX11_end_38 ?_
      refine pk_v (pr_V M V (m_X3_closeUntoldPopup l S I  ) km_X3_closeUntoldPopup (c_is_10 S) pC3 lkM_X11_133 rfl hl.1 rfl (Nat.le_of_ble_eq_true rfl) ⟨Nat.le_of_ble_eq_true rfl, Nat.le_of_ble_eq_true rfl⟩ (g_r0 (by omega) (by omega)) dX11_end_41) V (fun Zr3 hr3 H locs pr3 _ _ V => ?_)
      obtain ⟨rfl, I, pA_r3⟩ := pr3
      have A := A.wk (l3 := [(122, 1000), (10, 3), (10, 4), (10, 5), (10, 6)]) (by decide)
      have A := A.tr pA_r3 (by decide)
      have L := L.congr (pA_r3.get 129 2 (by decide)) (pA_r3.get 129 3 (by decide))
      have w_r3_129_2 : (hr3 129 2).toInt = (hr2 129 2).toInt := congrArg Int32.toInt (pA_r3.get 129 2 (by decide))
      have w_r3_129_3 : (hr3 129 3).toInt = (hr2 129 3).toInt := congrArg Int32.toInt (pA_r3.get 129 3 (by decide))
      refine lv_aload_n hx hb dX11_end_44 rfl (lv_at hl 0 rfl) ?_
      refine gz_v Z rfl rfl (pr_V M V (m_X11_composeDrawing l S I  K L (by omega)) km_X11_composeDrawing (c_is_0 S) pC11 lkM_X11_136 rfl hl.1 rfl (Nat.le_of_ble_eq_true rfl) ⟨Nat.le_of_ble_eq_true rfl, Nat.le_of_ble_eq_true rfl⟩ (g_rg (by omega) (by omega) hP0 hPm) dX11_end_45) V (fun yr4 hr4 kr4 nr4 H locs pr4 V => ?_)
      obtain ⟨gr4, K, I, pA_r4, br4, L⟩ := pr4
      have A := A.wk (l3 := [(122, 1000), (10, 3), (10, 4), (10, 5), (10, 6), (132, 1000)]) (by decide)
      have A := A.tr pA_r4 (by decide)
      have S := S.gr (Z1 := (gW Z yr4)) rfl gr4
      have M := pM.to (gW Z yr4) rfl M
      have GR := GR.tr gr4
      have hP0 : pPh Z ≤ pPh (gW Z yr4) := by omega
      have hPm := K.ph
      refine W.widen (k := pPh (gW Z yr4) - pPh Z) (n := 2 * (pPh (gW Z yr4) - pPh Z)) (by omega) (by omega) ?_
      have w_r4_129_2 : (hr4 129 2).toInt = (hr3 129 2).toInt := congrArg Int32.toInt (pA_r4.get 129 2 (by decide))
      have w_r4_129_3 : (hr4 129 3).toInt = (hr3 129 3).toInt := congrArg Int32.toInt (pA_r4.get 129 3 (by decide))
      refine lv_aload_n hx hb dX11_end_48 rfl (lv_at hl 0 rfl) ?_
      refine lv_iconst (v := 0) hx hb dX11_end_49 (by decide) ?_
      have k_0 : (0 : Int32).toInt = 0 := rfl
      have z_50 : (0 : Int32) = 0 ∨ (0 : Int32) = 1 := pi_z (by omega)
      refine pp_i (Z := (gW Z yr4)) M V 11 10 (c_is_0 S) pC11 fk11_10 rfl lkF_X11_84 ⟨(pn_z z_50).1, (pn_z z_50).2.1⟩ dX11_end_50 (fun H locs V => ?_)
      have A := A.wk (l3 := [(122, 1000), (10, 3), (10, 4), (10, 5), (10, 6), (132, 1000), (0, 10)]) (by decide)
      have A := A.up (o := 0) (k := 10) (v := (0 : Int32)) (by decide)
      have I := I.up (k := 10) (v := (0 : Int32)) (c_is_0 S) (show (0 : Int) ≤ (0 : Int32).toInt ∧ (0 : Int32).toInt ≤ (1 : Int) by omega)
      refine lv_aload_n hx hb dX11_end_53 rfl (lv_at hl 0 rfl) ?_
      refine pg_r (Z := (gW Z yr4)) M V 11 7 (c_is_0 S) pC11 fk11_7 (c_r_0_7 S) lkF_X11_58 dX11_end_54 ?_
      refine pg_i (Z := (gW Z yr4)) M V 9 3 (c_is_132 S) pC9 fk9_3 lkF_X11_139 dX11_end_57 ?_
      refine lv_topi (fun v5 ev5 => ?_)
      have tv5 : 0 ≤ v5.toInt ∧ v5.toInt ≤ 9000 := by rw [ev5]; exact I.get (c_is_132 S) 3
      exact vx_ret (ge_i (Z := Z) (Z' := (gW Z yr4)) M V rfl rfl hr hlk rfl ⟨GR, K, I, A.wk (by decide), ⟨by omega, by omega, hP0⟩, L, (show (hr4 129 2).toInt ≤ (h 129 2).toInt + 0 by omega), (show (hr4 129 3).toInt ≤ (h 129 3).toInt + 0 by omega)⟩ (g_re (by omega) (by omega) hPm) dX11_end_60)
  have J_22 : ∀ (hJ : pH) (H : Heap) (locs : List Loc) (ls : Array Slot), pV Z hJ s.heap H locs → Iv Z hJ → pLk Z hJ → agrD [] h hJ → lv_has ls 1 [(0, .ref (zB Z + 0))] → W p l e (pRm 7 (gmc Z) (gms Z) 135) s m ([.ref (zB Z + 0)] : List Value).toArray below meth c H locs (pPh Z - pPh Z) (2 * (pPh Z - pPh Z)) (vx_MQ below (gQi Z (fun r Z1 h1 k n => pGr Z Z1 ∧ pSk Z1 ∧ Iv Z1 h1 ∧ agrD [(132, 1000), (0, 10), (22, 5), (36, 4), (36, 5), (122, 1000), (10, 3), (10, 4), (10, 5), (10, 6)] h h1 ∧ (k ≤ pPh Z1 - pPh Z ∧ n ≤ 2 * (pPh Z1 - pPh Z) ∧ pPh Z ≤ pPh Z1) ∧ pLk Z1 h1 ∧ ((h1 129 2).toInt ≤ (h 129 2).toInt + 0) ∧ ((h1 129 3).toInt ≤ (h 129 3).toInt + 0))) (gX Z (fun E Z1 h1 k n => E = xIS ∧ pGr Z Z1 ∧ pSk Z1 ∧ Iv Z1 h1 ∧ agrD [(132, 1000), (0, 10), (22, 5), (36, 4), (36, 5), (122, 1000), (10, 3), (10, 4), (10, 5), (10, 6)] h h1 ∧ (k ≤ pPh Z1 - pPh Z + 1 ∧ n ≤ 2 * (pPh Z1 - pPh Z) + 6 ∧ pPh Z ≤ pPh Z1) ∧ pLk Z1 h1 ∧ ((h1 129 2).toInt ≤ (h 129 2).toInt + 0) ∧ ((h1 129 3).toInt ≤ (h 129 3).toInt + 0))) ([.ref (zB Z + 0)] : List Value).toArray s (gmc Z) (gms Z) (pA (zB Z))) (F0 m 22 ls [.ref (zB Z + 0)]) := by
    intro hJ H locs ls V I L A hl
    have wJ_129_2 : (hJ 129 2).toInt = (h 129 2).toInt := congrArg Int32.toInt (A.get 129 2 (by decide))
    have wJ_129_3 : (hJ 129 3).toInt = (h 129 3).toInt := congrArg Int32.toInt (A.get 129 3 (by decide))
    refine lv_iconst (v := 0) hx hb dX11_end_22 (by decide) ?_
    have k_0 : (0 : Int32).toInt = 0 := rfl
    exact J_23 (0 : Int32) _ _ _ _ V I L (A.wk (by decide)) (lv_sub hl [0] rfl) (by omega) 
  refine W.widen (k := pPh Z - pPh Z) (n := 2 * (pPh Z - pPh Z)) (Nat.zero_le _) (Nat.zero_le _) ?_
  refine lv_aload_n hx hb dX11_end_0 rfl (lv_at hl 0 rfl) ?_
  refine lv_aload_n hx hb dX11_end_1 rfl (lv_at hl 0 rfl) ?_
  refine pg_i M V 11 10 (c_is_0 S) pC11 fk11_10 lkF_X11_84 dX11_end_2 ?_
  refine lv_topi (fun v6 ev6 => ?_)
  have tv6 : 0 ≤ v6.toInt ∧ v6.toInt ≤ 1 := by rw [ev6]; exact I.get (c_is_0 S) 10
  refine lv_if_eq (tgt := 22) hx hb dX11_end_5 (by decide) (fun c_5 => ?_) (fun c_5 => ?_)
  · skip
    have k_0 : (0 : Int32).toInt = 0 := rfl
    have c_5 := pi_eq.mp c_5
    exact J_22 _ _ _ _ V I L (A.wk (by decide)) (lv_sub hl [0] rfl) 
  · skip
    have k_0 : (0 : Int32).toInt = 0 := rfl
    have c_5 := pi_ne c_5
    refine lv_aload_n hx hb dX11_end_8 rfl (lv_at hl 0 rfl) ?_
    refine pg_r M V 11 3 (c_is_0 S) pC11 fk11_3 (c_r_0_3 S) lkF_X11_33 dX11_end_9 ?_
    refine pg_i M V 8 4 (c_is_36 S) pC8 fk8_4 lkF_X11_127 dX11_end_12 ?_
    refine lv_topi (fun v7 ev7 => ?_)
    have tv7 : 0 ≤ v7.toInt ∧ v7.toInt ≤ 40 := by rw [ev7]; exact I.get (c_is_36 S) 4
    refine lv_if_ne (tgt := 22) hx hb dX11_end_15 (by decide) (fun c_15 => ?_) (fun c_15 => ?_)
    · skip
      have c_15 := pi_ne c_15
      exact J_22 _ _ _ _ V I L (A.wk (by decide)) (lv_sub hl [0] rfl) 
    · skip
      have c_15 := pi_eq.mp c_15
      refine lv_iconst (v := 1) hx hb dX11_end_18 (by decide) ?_
      refine lv_goto (tgt := 23) hx hb dX11_end_19 (by decide) ?_
      have k_1 : (1 : Int32).toInt = 1 := rfl
      exact J_23 (1 : Int32) _ _ _ _ V I L (A.wk (by decide)) (lv_sub hl [0] rfl) (by omega) 
theorem dX11_window_0 : decode cX11_window 0 = .ok (.aload_n 0, 1) := by decide +kernel
theorem dX11_window_1 : decode cX11_window 1 = .ok (.iload_n 1, 1) := by decide +kernel
theorem dX11_window_2 : decode cX11_window 2 = .ok (.iconst 0, 1) := by decide +kernel
theorem dX11_window_3 : decode cX11_window 3 = .ok (.bipush 7, 2) := by decide +kernel
theorem dX11_window_5 : decode cX11_window 5 = .ok (.invokestatic 71, 3) := by decide +kernel
theorem dX11_window_8 : decode cX11_window 8 = .ok (.ifCond .eq 41, 3) := by decide +kernel
theorem dX11_window_11 : decode cX11_window 11 = .ok (.iload_n 2, 1) := by decide +kernel
theorem dX11_window_12 : decode cX11_window 12 = .ok (.bipush (-100), 2) := by decide +kernel
theorem dX11_window_14 : decode cX11_window 14 = .ok (.sipush 999, 3) := by decide +kernel
theorem dX11_window_17 : decode cX11_window 17 = .ok (.invokestatic 71, 3) := by decide +kernel
theorem dX11_window_20 : decode cX11_window 20 = .ok (.ifCond .eq 29, 3) := by decide +kernel
theorem dX11_window_23 : decode cX11_window 23 = .ok (.iload_n 3, 1) := by decide +kernel
theorem dX11_window_24 : decode cX11_window 24 = .ok (.bipush (-100), 2) := by decide +kernel
theorem dX11_window_26 : decode cX11_window 26 = .ok (.sipush 999, 3) := by decide +kernel
theorem dX11_window_29 : decode cX11_window 29 = .ok (.invokestatic 71, 3) := by decide +kernel
theorem dX11_window_32 : decode cX11_window 32 = .ok (.ifCond .eq 17, 3) := by decide +kernel
theorem dX11_window_35 : decode cX11_window 35 = .ok (.iload 4, 2) := by decide +kernel
theorem dX11_window_37 : decode cX11_window 37 = .ok (.iload 5, 2) := by decide +kernel
theorem dX11_window_39 : decode cX11_window 39 = .ok (.invokestatic 142, 3) := by decide +kernel
theorem dX11_window_42 : decode cX11_window 42 = .ok (.ifCond .eq 7, 3) := by decide +kernel
theorem dX11_window_45 : decode cX11_window 45 = .ok (.iconst 1, 1) := by decide +kernel
theorem dX11_window_46 : decode cX11_window 46 = .ok (.goto 4, 3) := by decide +kernel
theorem dX11_window_49 : decode cX11_window 49 = .ok (.iconst 0, 1) := by decide +kernel
theorem dX11_window_50 : decode cX11_window 50 = .ok (.invokevirtual 146, 3) := by decide +kernel
theorem dX11_window_53 : decode cX11_window 53 = .ok (.aload_n 0, 1) := by decide +kernel
theorem dX11_window_54 : decode cX11_window 54 = .ok (.getfield 19, 3) := by decide +kernel
theorem dX11_window_57 : decode cX11_window 57 = .ok (.iload_n 1, 1) := by decide +kernel
theorem dX11_window_58 : decode cX11_window 58 = .ok (.invokevirtual 149, 3) := by decide +kernel
theorem dX11_window_61 : decode cX11_window 61 = .ok (.astore 6, 2) := by decide +kernel
theorem dX11_window_63 : decode cX11_window 63 = .ok (.aload_n 0, 1) := by decide +kernel
theorem dX11_window_64 : decode cX11_window 64 = .ok (.aload_n 0, 1) := by decide +kernel
theorem dX11_window_65 : decode cX11_window 65 = .ok (.getfield 84, 3) := by decide +kernel
theorem dX11_window_68 : decode cX11_window 68 = .ok (.ifCond .eq 25, 3) := by decide +kernel
theorem dX11_window_71 : decode cX11_window 71 = .ok (.aload_n 0, 1) := by decide +kernel
theorem dX11_window_72 : decode cX11_window 72 = .ok (.getfield 33, 3) := by decide +kernel
theorem dX11_window_75 : decode cX11_window 75 = .ok (.getfield 127, 3) := by decide +kernel
theorem dX11_window_78 : decode cX11_window 78 = .ok (.ifCond .ne 15, 3) := by decide +kernel
theorem dX11_window_81 : decode cX11_window 81 = .ok (.aload 6, 2) := by decide +kernel
theorem dX11_window_83 : decode cX11_window 83 = .ok (.getfield 153, 3) := by decide +kernel
theorem dX11_window_86 : decode cX11_window 86 = .ok (.ifCond .ne 7, 3) := by decide +kernel
theorem dX11_window_89 : decode cX11_window 89 = .ok (.iconst 1, 1) := by decide +kernel
theorem dX11_window_90 : decode cX11_window 90 = .ok (.goto 4, 3) := by decide +kernel
theorem dX11_window_93 : decode cX11_window 93 = .ok (.iconst 0, 1) := by decide +kernel
theorem dX11_window_94 : decode cX11_window 94 = .ok (.invokevirtual 88, 3) := by decide +kernel
theorem dX11_window_97 : decode cX11_window 97 = .ok (.aload 6, 2) := by decide +kernel
theorem dX11_window_99 : decode cX11_window 99 = .ok (.getfield 157, 3) := by decide +kernel
theorem dX11_window_102 : decode cX11_window 102 = .ok (.ifCond .ne 10, 3) := by decide +kernel
theorem dX11_window_105 : decode cX11_window 105 = .ok (.aload 6, 2) := by decide +kernel
theorem dX11_window_107 : decode cX11_window 107 = .ok (.iload_n 2, 1) := by decide +kernel
theorem dX11_window_108 : decode cX11_window 108 = .ok (.iload_n 3, 1) := by decide +kernel
theorem dX11_window_109 : decode cX11_window 109 = .ok (.invokevirtual 160, 3) := by decide +kernel
theorem dX11_window_112 : decode cX11_window 112 = .ok (.aload_n 0, 1) := by decide +kernel
theorem dX11_window_113 : decode cX11_window 113 = .ok (.iload_n 1, 1) := by decide +kernel
theorem dX11_window_114 : decode cX11_window 114 = .ok (.aload 6, 2) := by decide +kernel
theorem dX11_window_116 : decode cX11_window 116 = .ok (.iload 4, 2) := by decide +kernel
theorem dX11_window_118 : decode cX11_window 118 = .ok (.iload 5, 2) := by decide +kernel
theorem dX11_window_120 : decode cX11_window 120 = .ok (.invokevirtual 164, 3) := by decide +kernel
theorem dX11_window_123 : decode cX11_window 123 = .ok (.aload 6, 2) := by decide +kernel
theorem dX11_window_125 : decode cX11_window 125 = .ok (.getfield 168, 3) := by decide +kernel
theorem dX11_window_128 : decode cX11_window 128 = .ok (.ifCond .ne 7, 3) := by decide +kernel
theorem dX11_window_131 : decode cX11_window 131 = .ok (.iconst 1, 1) := by decide +kernel
theorem dX11_window_132 : decode cX11_window 132 = .ok (.goto 4, 3) := by decide +kernel
theorem dX11_window_135 : decode cX11_window 135 = .ok (.iconst 0, 1) := by decide +kernel
theorem dX11_window_136 : decode cX11_window 136 = .ok (.ireturn, 1) := by decide +kernel
set_option maxHeartbeats 4000000 in
set_option maxRecDepth 100000 in
theorem m_X11_window (l : Launch) (hl9 : l.stackTraces = false) {Z : pZ} (S : pSh Z) {h : pH} (I : Iv Z h) (window : Int32) (x : Int32) (y : Int32) (width : Int32) (height : Int32) (K : pSk Z) (L : pLk Z h) (hq3 : (h 129 3).toInt ≤ 8900) : xMet l yX11_window cX11_window 7 (some .boolean) 7 (gmc Z) (gms Z) 168 Z h [.ref (zB Z + 0), .int window, .int x, .int y, .int width, .int height] (gQi Z (fun r Z1 h1 k n => pGr Z Z1 ∧ pSk Z1 ∧ Iv Z1 h1 ∧ agrD [(122, 1000), (10, 4), (36, 4), (36, 5), (37, 1000), (38, 1000), (129, 2), (129, 3), (129, 4), (129, 5), (0, 10), (22, 5), (10, 3), (10, 5), (10, 6)] h h1 ∧ (k ≤ pPh Z1 - pPh Z ∧ n ≤ 2 * (pPh Z1 - pPh Z) ∧ pPh Z ≤ pPh Z1) ∧ pLk Z1 h1 ∧ (r.toInt = 0 ∨ r.toInt = 1) ∧ ((h1 129 2).toInt ≤ (h 129 2).toInt + 2) ∧ ((h1 129 3).toInt ≤ (h 129 3).toInt + 2))) (gX Z (fun E Z1 h1 k n => (E = xIA ∨ E = xIS) ∧ pGr Z Z1 ∧ pSk Z1 ∧ Iv Z1 h1 ∧ agrD [(122, 1000), (10, 4), (36, 4), (36, 5), (37, 1000), (38, 1000), (129, 2), (129, 3), (129, 4), (129, 5), (0, 10), (22, 5), (10, 3), (10, 5), (10, 6)] h h1 ∧ (k ≤ pPh Z1 - pPh Z + 1 ∧ n ≤ 2 * (pPh Z1 - pPh Z) + 6 ∧ pPh Z ≤ pPh Z1) ∧ pLk Z1 h1 ∧ ((h1 129 2).toInt ≤ (h 129 2).toInt + 2) ∧ ((h1 129 3).toInt ≤ (h 129 3).toInt + 2))) := by
  refine xOfW (lv := [(0, .ref (zB Z + 0)), (1, .int window), (2, .int x), (3, .int y), (4, .int width), (5, .int height)]) (by decide) (Nat.le_of_ble_eq_true rfl) rfl ?_
  intro p e s m below meth c ls M hr hlk hnm V hl hct X
  have hx := M.1.1
  have hb := M.1.2.1
  have A : agrD [] h h := agrD.rf
  have hP0 : pPh Z ≤ pPh Z := Nat.le_refl _
  have hPm := K.ph
  have GR : pGr Z Z := pGr.rf
  have J_50 : ∀ (y50_0 : Int32) (hJ : pH) (H : Heap) (locs : List Loc) (ls : Array Slot), pV Z hJ s.heap H locs → Iv Z hJ → pLk Z hJ → agrD [] h hJ → lv_has ls 7 [(0, .ref (zB Z + 0)), (1, .int window), (2, .int x), (3, .int y), (4, .int width), (5, .int height)] → (0 ≤ y50_0.toInt ∧ y50_0.toInt ≤ 1) → W p l e (pRm 7 (gmc Z) (gms Z) 168) s m ([.ref (zB Z + 0), .int window, .int x, .int y, .int width, .int height] : List Value).toArray below meth c H locs (pPh Z - pPh Z) (2 * (pPh Z - pPh Z)) (vx_MQ below (gQi Z (fun r Z1 h1 k n => pGr Z Z1 ∧ pSk Z1 ∧ Iv Z1 h1 ∧ agrD [(122, 1000), (10, 4), (36, 4), (36, 5), (37, 1000), (38, 1000), (129, 2), (129, 3), (129, 4), (129, 5), (0, 10), (22, 5), (10, 3), (10, 5), (10, 6)] h h1 ∧ (k ≤ pPh Z1 - pPh Z ∧ n ≤ 2 * (pPh Z1 - pPh Z) ∧ pPh Z ≤ pPh Z1) ∧ pLk Z1 h1 ∧ (r.toInt = 0 ∨ r.toInt = 1) ∧ ((h1 129 2).toInt ≤ (h 129 2).toInt + 2) ∧ ((h1 129 3).toInt ≤ (h 129 3).toInt + 2))) (gX Z (fun E Z1 h1 k n => (E = xIA ∨ E = xIS) ∧ pGr Z Z1 ∧ pSk Z1 ∧ Iv Z1 h1 ∧ agrD [(122, 1000), (10, 4), (36, 4), (36, 5), (37, 1000), (38, 1000), (129, 2), (129, 3), (129, 4), (129, 5), (0, 10), (22, 5), (10, 3), (10, 5), (10, 6)] h h1 ∧ (k ≤ pPh Z1 - pPh Z + 1 ∧ n ≤ 2 * (pPh Z1 - pPh Z) + 6 ∧ pPh Z ≤ pPh Z1) ∧ pLk Z1 h1 ∧ ((h1 129 2).toInt ≤ (h 129 2).toInt + 2) ∧ ((h1 129 3).toInt ≤ (h 129 3).toInt + 2))) ([.ref (zB Z + 0), .int window, .int x, .int y, .int width, .int height] : List Value).toArray s (gmc Z) (gms Z) (pA (zB Z))) (F0 m 50 ls [.int y50_0, .ref (zB Z + 0)]) := by
    intro y50_0 hJ H locs ls V I L A hl gs_50_0
    have wJ_129_2 : (hJ 129 2).toInt = (h 129 2).toInt := congrArg Int32.toInt (A.get 129 2 (by decide))
    have wJ_129_3 : (hJ 129 3).toInt = (h 129 3).toInt := congrArg Int32.toInt (A.get 129 3 (by decide))
    refine xz_v Z rfl rfl (xr_V M V X (m_X11_requireArgument l hl9 S I y50_0) km_X11_requireArgument (c_is_0 S) pC11 lkM_X11_146 rfl hl.1 rfl (Nat.le_of_ble_eq_true rfl) ⟨Nat.le_of_ble_eq_true rfl, Nat.le_of_ble_eq_true rfl⟩ (g_rk (by omega) (by omega)) dX11_window_50) V (fun E ce q9 yr1 hr1 H locs pr1 V w1 w2 w3 => ?_) (fun yr1 hr1 kr1 nr1 H locs pr1 V => ?_)
    · obtain ⟨hE, e2, I, pA_r1⟩ := pr1
      rw [← e2] at V
      have A := A.wk (l3 := [(0, 10), (22, 5), (36, 4), (36, 5), (122, 1000), (10, 3), (10, 4), (10, 5), (10, 6)]) (by decide)
      have A := A.tr pA_r1 (by decide)
      have L := L.congr (pA_r1.get 129 2 (by decide)) (pA_r1.get 129 3 (by decide))
      have w_r1_129_2 : (hr1 129 2).toInt = (hJ 129 2).toInt := congrArg Int32.toInt (pA_r1.get 129 2 (by decide))
      have w_r1_129_3 : (hr1 129 3).toInt = (hJ 129 3).toInt := congrArg Int32.toInt (pA_r1.get 129 3 (by decide))
      exact xe_out (Z' := Z) V rfl rfl hct hlk w1 w2 w3 ⟨Or.inl hE, GR, K, I, A.wk (by decide), ⟨by omega, by omega, hP0⟩, L, (show (hr1 129 2).toInt ≤ (h 129 2).toInt + 2 by omega), (show (hr1 129 3).toInt ≤ (h 129 3).toInt + 2 by omega)⟩ (g_rx (by omega) (by omega) hPm)
    · obtain ⟨e2, rfl, rfl, rfl, fr1⟩ := pr1
      rw [← e2] at V
      refine lv_aload_n hx hb dX11_window_53 rfl (lv_at hl 0 rfl) ?_
      refine pg_r M V 11 1 (c_is_0 S) pC11 fk11_1 (c_r_0_1 S) lkF_X11_19 dX11_window_54 ?_
      refine lv_iload_n hx hb dX11_window_57 rfl (lv_at hl 1 rfl) ?_
      refine pk_r (pr_V M V (m_X3_paneOf l S I window) km_X3_paneOf (c_is_10 S) pC3 lkM_X11_149 rfl hl.1 rfl (Nat.le_of_ble_eq_true rfl) ⟨Nat.le_of_ble_eq_true rfl, Nat.le_of_ble_eq_true rfl⟩ (g_r0 (by omega) (by omega)) dX11_window_58) V (fun r2 Zr2 hr2 H locs pr2 _ _ V => ?_)
      obtain ⟨rfl, rfl, fr2_0⟩ := pr2
      refine lv_astore (lv' := [(6, .ref (zB Z + r2)), (0, .ref (zB Z + 0)), (1, .int window), (2, .int x), (3, .int y), (4, .int width), (5, .int height)]) hx hb dX11_window_61 hl (by decide) rfl (fun ls hl => ?_)
      refine lv_aload_n hx hb dX11_window_63 rfl (lv_at hl 1 rfl) ?_
      refine lv_aload_n hx hb dX11_window_64 rfl (lv_at hl 1 rfl) ?_
      refine pg_i M V 11 10 (c_is_0 S) pC11 fk11_10 lkF_X11_84 dX11_window_65 ?_
      refine lv_topi (fun v3 ev3 => ?_)
      have tv3 : 0 ≤ v3.toInt ∧ v3.toInt ≤ 1 := by rw [ev3]; exact I.get (c_is_0 S) 10
      refine lv_if_eq (tgt := 93) hx hb dX11_window_68 (by decide) (fun c_68 => ?_) (fun c_68 => ?_)
      · skip
        have k_0 : (0 : Int32).toInt = 0 := rfl
        have c_68 := pi_eq.mp c_68
        refine lv_iconst (v := 0) hx hb dX11_window_93 (by decide) ?_
        refine xz_v Z rfl rfl (xr_V M V X (m_X11_requireState l hl9 S I (0 : Int32)) km_X11_requireState (c_is_0 S) pC11 lkM_X11_88 rfl hl.1 rfl (Nat.le_of_ble_eq_true rfl) ⟨Nat.le_of_ble_eq_true rfl, Nat.le_of_ble_eq_true rfl⟩ (g_rk (by omega) (by omega)) dX11_window_94) V (fun E ce q9 yr4 hr4 H locs pr4 V w1 w2 w3 => ?_) (fun yr4 hr4 kr4 nr4 H locs pr4 V => ?_)
        · obtain ⟨hE, e2, I, pA_r4⟩ := pr4
          rw [← e2] at V
          have A := A.wk (l3 := [(0, 10), (22, 5), (36, 4), (36, 5), (122, 1000), (10, 3), (10, 4), (10, 5), (10, 6)]) (by decide)
          have A := A.tr pA_r4 (by decide)
          have L := L.congr (pA_r4.get 129 2 (by decide)) (pA_r4.get 129 3 (by decide))
          have w_r4_129_2 : (hr4 129 2).toInt = (hJ 129 2).toInt := congrArg Int32.toInt (pA_r4.get 129 2 (by decide))
          have w_r4_129_3 : (hr4 129 3).toInt = (hJ 129 3).toInt := congrArg Int32.toInt (pA_r4.get 129 3 (by decide))
          exact xe_out (Z' := Z) V rfl rfl hct hlk w1 w2 w3 ⟨Or.inr hE, GR, K, I, A.wk (by decide), ⟨by omega, by omega, hP0⟩, L, (show (hr4 129 2).toInt ≤ (h 129 2).toInt + 2 by omega), (show (hr4 129 3).toInt ≤ (h 129 3).toInt + 2 by omega)⟩ (g_rx (by omega) (by omega) hPm)
        · obtain ⟨e2, rfl, rfl, rfl, fr4⟩ := pr4
          rw [← e2] at V
          refine lv_aload hx hb dX11_window_97 (lv_at hl 0 rfl) ?_
          refine pg_i M V 7 8 fr2_0 pC7 fk7_8 lkF_X11_157 dX11_window_99 ?_
          refine lv_topi (fun v5 ev5 => ?_)
          have tv5 : 0 ≤ v5.toInt ∧ v5.toInt ≤ 1 := by rw [ev5]; exact I.get fr2_0 8
          refine lv_if_ne (tgt := 112) hx hb dX11_window_102 (by decide) (fun c_102 => ?_) (fun c_102 => ?_)
          · skip
            have c_102 := pi_ne c_102
            refine lv_aload_n hx hb dX11_window_112 rfl (lv_at hl 1 rfl) ?_
            refine lv_iload_n hx hb dX11_window_113 rfl (lv_at hl 2 rfl) ?_
            refine lv_aload hx hb dX11_window_114 (lv_at hl 0 rfl) ?_
            refine lv_iload hx hb dX11_window_116 (lv_at hl 5 rfl) ?_
            refine lv_iload hx hb dX11_window_118 (lv_at hl 6 rfl) ?_
            refine gz_v Z rfl rfl (pr_V M V (m_X11_tellPane l S I window r2 fr2_0 width height K L (by omega)) km_X11_tellPane (c_is_0 S) pC11 lkM_X11_164 rfl hl.1 rfl (Nat.le_of_ble_eq_true rfl) ⟨Nat.le_of_ble_eq_true rfl, Nat.le_of_ble_eq_true rfl⟩ (g_rg (by omega) (by omega) hP0 hPm) dX11_window_120) V (fun yr6 hr6 kr6 nr6 H locs pr6 V => ?_)
            obtain ⟨gr6, K, I, pA_r6, br6, L, fr6_0, fr6_1⟩ := pr6
            have A := A.wk (l3 := [(122, 1000), (10, 4), (36, 4), (36, 5), (37, 1000), (38, 1000), (129, 2), (129, 3), (129, 4), (129, 5)]) (by decide)
            have A := A.tr pA_r6 (by decide)
            have isr6_1 := gr6.is fr2_0
            have S := S.gr (Z1 := (gW Z yr6)) rfl gr6
            have M := pM.to (gW Z yr6) rfl M
            have GR := GR.tr gr6
            have hP0 : pPh Z ≤ pPh (gW Z yr6) := by omega
            have hPm := K.ph
            refine W.widen (k := pPh (gW Z yr6) - pPh Z) (n := 2 * (pPh (gW Z yr6) - pPh Z)) (by omega) (by omega) ?_
            refine lv_aload hx hb dX11_window_123 (lv_at hl 0 rfl) ?_
            refine pg_i (Z := (gW Z yr6)) M V 7 7 isr6_1 pC7 fk7_7 lkF_X11_168 dX11_window_125 ?_
            refine lv_topi (fun v7 ev7 => ?_)
            have tv7 : 0 ≤ v7.toInt ∧ v7.toInt ≤ 1 := by rw [ev7]; exact I.get isr6_1 7
            refine lv_if_ne (tgt := 135) hx hb dX11_window_128 (by decide) (fun c_128 => ?_) (fun c_128 => ?_)
            · skip
              have c_128 := pi_ne c_128
              refine lv_iconst (v := 0) hx hb dX11_window_135 (by decide) ?_
              exact vx_ret (ge_i (Z := Z) (Z' := (gW Z yr6)) M V rfl rfl hr hlk (pn_z (pi_z (by omega))).1 ⟨GR, K, I, A.wk (by decide), ⟨by omega, by omega, hP0⟩, L, by omega, (show (hr6 129 2).toInt ≤ (h 129 2).toInt + 2 by omega), (show (hr6 129 3).toInt ≤ (h 129 3).toInt + 2 by omega)⟩ (g_re (by omega) (by omega) hPm) dX11_window_136)
            · skip
              have c_128 := pi_eq.mp c_128
              refine lv_iconst (v := 1) hx hb dX11_window_131 (by decide) ?_
              refine lv_goto (tgt := 136) hx hb dX11_window_132 (by decide) ?_
              have k_1 : (1 : Int32).toInt = 1 := rfl
              exact vx_ret (ge_i (Z := Z) (Z' := (gW Z yr6)) M V rfl rfl hr hlk (pn_z (pi_z (by omega))).1 ⟨GR, K, I, A.wk (by decide), ⟨by omega, by omega, hP0⟩, L, by omega, (show (hr6 129 2).toInt ≤ (h 129 2).toInt + 2 by omega), (show (hr6 129 3).toInt ≤ (h 129 3).toInt + 2 by omega)⟩ (g_re (by omega) (by omega) hPm) dX11_window_136)
          · skip
            have c_102 := pi_eq.mp c_102
            refine lv_aload hx hb dX11_window_105 (lv_at hl 0 rfl) ?_
            refine lv_iload_n hx hb dX11_window_107 rfl (lv_at hl 3 rfl) ?_
            refine lv_iload_n hx hb dX11_window_108 rfl (lv_at hl 4 rfl) ?_
            refine pk_v (pr_V M V (m_X7_moveTo l S I r2 fr2_0 x y ) km_X7_moveTo fr2_0 pC7 lkM_X11_160 rfl hl.1 rfl (Nat.le_of_ble_eq_true rfl) ⟨Nat.le_of_ble_eq_true rfl, Nat.le_of_ble_eq_true rfl⟩ (g_r0 (by omega) (by omega)) dX11_window_109) V (fun Zr8 hr8 H locs pr8 _ _ V => ?_)
            obtain ⟨rfl, I, pA_r8⟩ := pr8
            have A := A.tr pA_r8 (by decide)
            have L := L.congr (pA_r8.get 129 2 (by decide)) (pA_r8.get 129 3 (by decide))
            have w_r8_129_2 : (hr8 129 2).toInt = (hJ 129 2).toInt := congrArg Int32.toInt (pA_r8.get 129 2 (by decide))
            have w_r8_129_3 : (hr8 129 3).toInt = (hJ 129 3).toInt := congrArg Int32.toInt (pA_r8.get 129 3 (by decide))
            refine lv_aload_n hx hb dX11_window_112 rfl (lv_at hl 1 rfl) ?_
            refine lv_iload_n hx hb dX11_window_113 rfl (lv_at hl 2 rfl) ?_
            refine lv_aload hx hb dX11_window_114 (lv_at hl 0 rfl) ?_
            refine lv_iload hx hb dX11_window_116 (lv_at hl 5 rfl) ?_
            refine lv_iload hx hb dX11_window_118 (lv_at hl 6 rfl) ?_
            refine gz_v Z rfl rfl (pr_V M V (m_X11_tellPane l S I window r2 fr2_0 width height K L (by omega)) km_X11_tellPane (c_is_0 S) pC11 lkM_X11_164 rfl hl.1 rfl (Nat.le_of_ble_eq_true rfl) ⟨Nat.le_of_ble_eq_true rfl, Nat.le_of_ble_eq_true rfl⟩ (g_rg (by omega) (by omega) hP0 hPm) dX11_window_120) V (fun yr9 hr9 kr9 nr9 H locs pr9 V => ?_)
            obtain ⟨gr9, K, I, pA_r9, br9, L, fr9_0, fr9_1⟩ := pr9
            have A := A.wk (l3 := [(122, 1000), (10, 4), (36, 4), (36, 5), (37, 1000), (38, 1000), (129, 2), (129, 3), (129, 4), (129, 5)]) (by decide)
            have A := A.tr pA_r9 (by decide)
            have isr9_1 := gr9.is fr2_0
            have S := S.gr (Z1 := (gW Z yr9)) rfl gr9
            have M := pM.to (gW Z yr9) rfl M
            have GR := GR.tr gr9
            have hP0 : pPh Z ≤ pPh (gW Z yr9) := by omega
            have hPm := K.ph
            refine W.widen (k := pPh (gW Z yr9) - pPh Z) (n := 2 * (pPh (gW Z yr9) - pPh Z)) (by omega) (by omega) ?_
            refine lv_aload hx hb dX11_window_123 (lv_at hl 0 rfl) ?_
            refine pg_i (Z := (gW Z yr9)) M V 7 7 isr9_1 pC7 fk7_7 lkF_X11_168 dX11_window_125 ?_
            refine lv_topi (fun v10 ev10 => ?_)
            have tv10 : 0 ≤ v10.toInt ∧ v10.toInt ≤ 1 := by rw [ev10]; exact I.get isr9_1 7
            refine lv_if_ne (tgt := 135) hx hb dX11_window_128 (by decide) (fun c_128 => ?_) (fun c_128 => ?_)
            · skip
              have c_128 := pi_ne c_128
              refine lv_iconst (v := 0) hx hb dX11_window_135 (by decide) ?_
              exact vx_ret (ge_i (Z := Z) (Z' := (gW Z yr9)) M V rfl rfl hr hlk (pn_z (pi_z (by omega))).1 ⟨GR, K, I, A.wk (by decide), ⟨by omega, by omega, hP0⟩, L, by omega, (show (hr9 129 2).toInt ≤ (h 129 2).toInt + 2 by omega), (show (hr9 129 3).toInt ≤ (h 129 3).toInt + 2 by omega)⟩ (g_re (by omega) (by omega) hPm) dX11_window_136)
            · skip
              have c_128 := pi_eq.mp c_128
              refine lv_iconst (v := 1) hx hb dX11_window_131 (by decide) ?_
              refine lv_goto (tgt := 136) hx hb dX11_window_132 (by decide) ?_
              have k_1 : (1 : Int32).toInt = 1 := rfl
              exact vx_ret (ge_i (Z := Z) (Z' := (gW Z yr9)) M V rfl rfl hr hlk (pn_z (pi_z (by omega))).1 ⟨GR, K, I, A.wk (by decide), ⟨by omega, by omega, hP0⟩, L, by omega, (show (hr9 129 2).toInt ≤ (h 129 2).toInt + 2 by omega), (show (hr9 129 3).toInt ≤ (h 129 3).toInt + 2 by omega)⟩ (g_re (by omega) (by omega) hPm) dX11_window_136)
      · skip
        have k_0 : (0 : Int32).toInt = 0 := rfl
        have c_68 := pi_ne c_68
        refine lv_aload_n hx hb dX11_window_71 rfl (lv_at hl 1 rfl) ?_
        refine pg_r M V 11 3 (c_is_0 S) pC11 fk11_3 (c_r_0_3 S) lkF_X11_33 dX11_window_72 ?_
        refine pg_i M V 8 4 (c_is_36 S) pC8 fk8_4 lkF_X11_127 dX11_window_75 ?_
        refine lv_topi (fun v11 ev11 => ?_)
        have tv11 : 0 ≤ v11.toInt ∧ v11.toInt ≤ 40 := by rw [ev11]; exact I.get (c_is_36 S) 4
        refine lv_if_ne (tgt := 93) hx hb dX11_window_78 (by decide) (fun c_78 => ?_) (fun c_78 => ?_)
        · skip
          have c_78 := pi_ne c_78
          refine lv_iconst (v := 0) hx hb dX11_window_93 (by decide) ?_
          refine xz_v Z rfl rfl (xr_V M V X (m_X11_requireState l hl9 S I (0 : Int32)) km_X11_requireState (c_is_0 S) pC11 lkM_X11_88 rfl hl.1 rfl (Nat.le_of_ble_eq_true rfl) ⟨Nat.le_of_ble_eq_true rfl, Nat.le_of_ble_eq_true rfl⟩ (g_rk (by omega) (by omega)) dX11_window_94) V (fun E ce q9 yr12 hr12 H locs pr12 V w1 w2 w3 => ?_) (fun yr12 hr12 kr12 nr12 H locs pr12 V => ?_)
          · obtain ⟨hE, e2, I, pA_r12⟩ := pr12
            rw [← e2] at V
            have A := A.wk (l3 := [(0, 10), (22, 5), (36, 4), (36, 5), (122, 1000), (10, 3), (10, 4), (10, 5), (10, 6)]) (by decide)
            have A := A.tr pA_r12 (by decide)
            have L := L.congr (pA_r12.get 129 2 (by decide)) (pA_r12.get 129 3 (by decide))
            have w_r12_129_2 : (hr12 129 2).toInt = (hJ 129 2).toInt := congrArg Int32.toInt (pA_r12.get 129 2 (by decide))
            have w_r12_129_3 : (hr12 129 3).toInt = (hJ 129 3).toInt := congrArg Int32.toInt (pA_r12.get 129 3 (by decide))
            exact xe_out (Z' := Z) V rfl rfl hct hlk w1 w2 w3 ⟨Or.inr hE, GR, K, I, A.wk (by decide), ⟨by omega, by omega, hP0⟩, L, (show (hr12 129 2).toInt ≤ (h 129 2).toInt + 2 by omega), (show (hr12 129 3).toInt ≤ (h 129 3).toInt + 2 by omega)⟩ (g_rx (by omega) (by omega) hPm)
          · obtain ⟨e2, rfl, rfl, rfl, fr12⟩ := pr12
            rw [← e2] at V
            refine lv_aload hx hb dX11_window_97 (lv_at hl 0 rfl) ?_
            refine pg_i M V 7 8 fr2_0 pC7 fk7_8 lkF_X11_157 dX11_window_99 ?_
            refine lv_topi (fun v13 ev13 => ?_)
            have tv13 : 0 ≤ v13.toInt ∧ v13.toInt ≤ 1 := by rw [ev13]; exact I.get fr2_0 8
            refine lv_if_ne (tgt := 112) hx hb dX11_window_102 (by decide) (fun c_102 => ?_) (fun c_102 => ?_)
            · skip
              have c_102 := pi_ne c_102
              refine lv_aload_n hx hb dX11_window_112 rfl (lv_at hl 1 rfl) ?_
              refine lv_iload_n hx hb dX11_window_113 rfl (lv_at hl 2 rfl) ?_
              refine lv_aload hx hb dX11_window_114 (lv_at hl 0 rfl) ?_
              refine lv_iload hx hb dX11_window_116 (lv_at hl 5 rfl) ?_
              refine lv_iload hx hb dX11_window_118 (lv_at hl 6 rfl) ?_
              refine gz_v Z rfl rfl (pr_V M V (m_X11_tellPane l S I window r2 fr2_0 width height K L (by omega)) km_X11_tellPane (c_is_0 S) pC11 lkM_X11_164 rfl hl.1 rfl (Nat.le_of_ble_eq_true rfl) ⟨Nat.le_of_ble_eq_true rfl, Nat.le_of_ble_eq_true rfl⟩ (g_rg (by omega) (by omega) hP0 hPm) dX11_window_120) V (fun yr14 hr14 kr14 nr14 H locs pr14 V => ?_)
              obtain ⟨gr14, K, I, pA_r14, br14, L, fr14_0, fr14_1⟩ := pr14
              have A := A.wk (l3 := [(122, 1000), (10, 4), (36, 4), (36, 5), (37, 1000), (38, 1000), (129, 2), (129, 3), (129, 4), (129, 5)]) (by decide)
              have A := A.tr pA_r14 (by decide)
              have isr14_1 := gr14.is fr2_0
              have S := S.gr (Z1 := (gW Z yr14)) rfl gr14
              have M := pM.to (gW Z yr14) rfl M
              have GR := GR.tr gr14
              have hP0 : pPh Z ≤ pPh (gW Z yr14) := by omega
              have hPm := K.ph
              refine W.widen (k := pPh (gW Z yr14) - pPh Z) (n := 2 * (pPh (gW Z yr14) - pPh Z)) (by omega) (by omega) ?_
              refine lv_aload hx hb dX11_window_123 (lv_at hl 0 rfl) ?_
              refine pg_i (Z := (gW Z yr14)) M V 7 7 isr14_1 pC7 fk7_7 lkF_X11_168 dX11_window_125 ?_
              refine lv_topi (fun v15 ev15 => ?_)
              have tv15 : 0 ≤ v15.toInt ∧ v15.toInt ≤ 1 := by rw [ev15]; exact I.get isr14_1 7
              refine lv_if_ne (tgt := 135) hx hb dX11_window_128 (by decide) (fun c_128 => ?_) (fun c_128 => ?_)
              · skip
                have c_128 := pi_ne c_128
                refine lv_iconst (v := 0) hx hb dX11_window_135 (by decide) ?_
                exact vx_ret (ge_i (Z := Z) (Z' := (gW Z yr14)) M V rfl rfl hr hlk (pn_z (pi_z (by omega))).1 ⟨GR, K, I, A.wk (by decide), ⟨by omega, by omega, hP0⟩, L, by omega, (show (hr14 129 2).toInt ≤ (h 129 2).toInt + 2 by omega), (show (hr14 129 3).toInt ≤ (h 129 3).toInt + 2 by omega)⟩ (g_re (by omega) (by omega) hPm) dX11_window_136)
              · skip
                have c_128 := pi_eq.mp c_128
                refine lv_iconst (v := 1) hx hb dX11_window_131 (by decide) ?_
                refine lv_goto (tgt := 136) hx hb dX11_window_132 (by decide) ?_
                have k_1 : (1 : Int32).toInt = 1 := rfl
                exact vx_ret (ge_i (Z := Z) (Z' := (gW Z yr14)) M V rfl rfl hr hlk (pn_z (pi_z (by omega))).1 ⟨GR, K, I, A.wk (by decide), ⟨by omega, by omega, hP0⟩, L, by omega, (show (hr14 129 2).toInt ≤ (h 129 2).toInt + 2 by omega), (show (hr14 129 3).toInt ≤ (h 129 3).toInt + 2 by omega)⟩ (g_re (by omega) (by omega) hPm) dX11_window_136)
            · skip
              have c_102 := pi_eq.mp c_102
              refine lv_aload hx hb dX11_window_105 (lv_at hl 0 rfl) ?_
              refine lv_iload_n hx hb dX11_window_107 rfl (lv_at hl 3 rfl) ?_
              refine lv_iload_n hx hb dX11_window_108 rfl (lv_at hl 4 rfl) ?_
              refine pk_v (pr_V M V (m_X7_moveTo l S I r2 fr2_0 x y ) km_X7_moveTo fr2_0 pC7 lkM_X11_160 rfl hl.1 rfl (Nat.le_of_ble_eq_true rfl) ⟨Nat.le_of_ble_eq_true rfl, Nat.le_of_ble_eq_true rfl⟩ (g_r0 (by omega) (by omega)) dX11_window_109) V (fun Zr16 hr16 H locs pr16 _ _ V => ?_)
              obtain ⟨rfl, I, pA_r16⟩ := pr16
              have A := A.tr pA_r16 (by decide)
              have L := L.congr (pA_r16.get 129 2 (by decide)) (pA_r16.get 129 3 (by decide))
              have w_r16_129_2 : (hr16 129 2).toInt = (hJ 129 2).toInt := congrArg Int32.toInt (pA_r16.get 129 2 (by decide))
              have w_r16_129_3 : (hr16 129 3).toInt = (hJ 129 3).toInt := congrArg Int32.toInt (pA_r16.get 129 3 (by decide))
              refine lv_aload_n hx hb dX11_window_112 rfl (lv_at hl 1 rfl) ?_
              refine lv_iload_n hx hb dX11_window_113 rfl (lv_at hl 2 rfl) ?_
              refine lv_aload hx hb dX11_window_114 (lv_at hl 0 rfl) ?_
              refine lv_iload hx hb dX11_window_116 (lv_at hl 5 rfl) ?_
              refine lv_iload hx hb dX11_window_118 (lv_at hl 6 rfl) ?_
              refine gz_v Z rfl rfl (pr_V M V (m_X11_tellPane l S I window r2 fr2_0 width height K L (by omega)) km_X11_tellPane (c_is_0 S) pC11 lkM_X11_164 rfl hl.1 rfl (Nat.le_of_ble_eq_true rfl) ⟨Nat.le_of_ble_eq_true rfl, Nat.le_of_ble_eq_true rfl⟩ (g_rg (by omega) (by omega) hP0 hPm) dX11_window_120) V (fun yr17 hr17 kr17 nr17 H locs pr17 V => ?_)
              obtain ⟨gr17, K, I, pA_r17, br17, L, fr17_0, fr17_1⟩ := pr17
              have A := A.wk (l3 := [(122, 1000), (10, 4), (36, 4), (36, 5), (37, 1000), (38, 1000), (129, 2), (129, 3), (129, 4), (129, 5)]) (by decide)
              have A := A.tr pA_r17 (by decide)
              have isr17_1 := gr17.is fr2_0
              have S := S.gr (Z1 := (gW Z yr17)) rfl gr17
              have M := pM.to (gW Z yr17) rfl M
              have GR := GR.tr gr17
              have hP0 : pPh Z ≤ pPh (gW Z yr17) := by omega
              have hPm := K.ph
              refine W.widen (k := pPh (gW Z yr17) - pPh Z) (n := 2 * (pPh (gW Z yr17) - pPh Z)) (by omega) (by omega) ?_
              refine lv_aload hx hb dX11_window_123 (lv_at hl 0 rfl) ?_
              refine pg_i (Z := (gW Z yr17)) M V 7 7 isr17_1 pC7 fk7_7 lkF_X11_168 dX11_window_125 ?_
              refine lv_topi (fun v18 ev18 => ?_)
              have tv18 : 0 ≤ v18.toInt ∧ v18.toInt ≤ 1 := by rw [ev18]; exact I.get isr17_1 7
              refine lv_if_ne (tgt := 135) hx hb dX11_window_128 (by decide) (fun c_128 => ?_) (fun c_128 => ?_)
              · skip
                have c_128 := pi_ne c_128
                refine lv_iconst (v := 0) hx hb dX11_window_135 (by decide) ?_
                exact vx_ret (ge_i (Z := Z) (Z' := (gW Z yr17)) M V rfl rfl hr hlk (pn_z (pi_z (by omega))).1 ⟨GR, K, I, A.wk (by decide), ⟨by omega, by omega, hP0⟩, L, by omega, (show (hr17 129 2).toInt ≤ (h 129 2).toInt + 2 by omega), (show (hr17 129 3).toInt ≤ (h 129 3).toInt + 2 by omega)⟩ (g_re (by omega) (by omega) hPm) dX11_window_136)
              · skip
                have c_128 := pi_eq.mp c_128
                refine lv_iconst (v := 1) hx hb dX11_window_131 (by decide) ?_
                refine lv_goto (tgt := 136) hx hb dX11_window_132 (by decide) ?_
                have k_1 : (1 : Int32).toInt = 1 := rfl
                exact vx_ret (ge_i (Z := Z) (Z' := (gW Z yr17)) M V rfl rfl hr hlk (pn_z (pi_z (by omega))).1 ⟨GR, K, I, A.wk (by decide), ⟨by omega, by omega, hP0⟩, L, by omega, (show (hr17 129 2).toInt ≤ (h 129 2).toInt + 2 by omega), (show (hr17 129 3).toInt ≤ (h 129 3).toInt + 2 by omega)⟩ (g_re (by omega) (by omega) hPm) dX11_window_136)
        · skip
          have c_78 := pi_eq.mp c_78
          refine lv_aload hx hb dX11_window_81 (lv_at hl 0 rfl) ?_
          refine pg_i M V 7 9 fr2_0 pC7 fk7_9 lkF_X11_153 dX11_window_83 ?_
          refine lv_topi (fun v19 ev19 => ?_)
          have tv19 : 0 ≤ v19.toInt ∧ v19.toInt ≤ 1 := by rw [ev19]; exact I.get fr2_0 9
          refine lv_if_ne (tgt := 93) hx hb dX11_window_86 (by decide) (fun c_86 => ?_) (fun c_86 => ?_)
          · skip
            have c_86 := pi_ne c_86
            refine lv_iconst (v := 0) hx hb dX11_window_93 (by decide) ?_
            refine xz_v Z rfl rfl (xr_V M V X (m_X11_requireState l hl9 S I (0 : Int32)) km_X11_requireState (c_is_0 S) pC11 lkM_X11_88 rfl hl.1 rfl (Nat.le_of_ble_eq_true rfl) ⟨Nat.le_of_ble_eq_true rfl, Nat.le_of_ble_eq_true rfl⟩ (g_rk (by omega) (by omega)) dX11_window_94) V (fun E ce q9 yr20 hr20 H locs pr20 V w1 w2 w3 => ?_) (fun yr20 hr20 kr20 nr20 H locs pr20 V => ?_)
            · obtain ⟨hE, e2, I, pA_r20⟩ := pr20
              rw [← e2] at V
              have A := A.wk (l3 := [(0, 10), (22, 5), (36, 4), (36, 5), (122, 1000), (10, 3), (10, 4), (10, 5), (10, 6)]) (by decide)
              have A := A.tr pA_r20 (by decide)
              have L := L.congr (pA_r20.get 129 2 (by decide)) (pA_r20.get 129 3 (by decide))
              have w_r20_129_2 : (hr20 129 2).toInt = (hJ 129 2).toInt := congrArg Int32.toInt (pA_r20.get 129 2 (by decide))
              have w_r20_129_3 : (hr20 129 3).toInt = (hJ 129 3).toInt := congrArg Int32.toInt (pA_r20.get 129 3 (by decide))
              exact xe_out (Z' := Z) V rfl rfl hct hlk w1 w2 w3 ⟨Or.inr hE, GR, K, I, A.wk (by decide), ⟨by omega, by omega, hP0⟩, L, (show (hr20 129 2).toInt ≤ (h 129 2).toInt + 2 by omega), (show (hr20 129 3).toInt ≤ (h 129 3).toInt + 2 by omega)⟩ (g_rx (by omega) (by omega) hPm)
            · obtain ⟨e2, rfl, rfl, rfl, fr20⟩ := pr20
              rw [← e2] at V
              refine lv_aload hx hb dX11_window_97 (lv_at hl 0 rfl) ?_
              refine pg_i M V 7 8 fr2_0 pC7 fk7_8 lkF_X11_157 dX11_window_99 ?_
              refine lv_topi (fun v21 ev21 => ?_)
              have tv21 : 0 ≤ v21.toInt ∧ v21.toInt ≤ 1 := by rw [ev21]; exact I.get fr2_0 8
              refine lv_if_ne (tgt := 112) hx hb dX11_window_102 (by decide) (fun c_102 => ?_) (fun c_102 => ?_)
              · skip
                have c_102 := pi_ne c_102
                refine lv_aload_n hx hb dX11_window_112 rfl (lv_at hl 1 rfl) ?_
                refine lv_iload_n hx hb dX11_window_113 rfl (lv_at hl 2 rfl) ?_
                refine lv_aload hx hb dX11_window_114 (lv_at hl 0 rfl) ?_
                refine lv_iload hx hb dX11_window_116 (lv_at hl 5 rfl) ?_
                refine lv_iload hx hb dX11_window_118 (lv_at hl 6 rfl) ?_
                refine gz_v Z rfl rfl (pr_V M V (m_X11_tellPane l S I window r2 fr2_0 width height K L (by omega)) km_X11_tellPane (c_is_0 S) pC11 lkM_X11_164 rfl hl.1 rfl (Nat.le_of_ble_eq_true rfl) ⟨Nat.le_of_ble_eq_true rfl, Nat.le_of_ble_eq_true rfl⟩ (g_rg (by omega) (by omega) hP0 hPm) dX11_window_120) V (fun yr22 hr22 kr22 nr22 H locs pr22 V => ?_)
                obtain ⟨gr22, K, I, pA_r22, br22, L, fr22_0, fr22_1⟩ := pr22
                have A := A.wk (l3 := [(122, 1000), (10, 4), (36, 4), (36, 5), (37, 1000), (38, 1000), (129, 2), (129, 3), (129, 4), (129, 5)]) (by decide)
                have A := A.tr pA_r22 (by decide)
                have isr22_1 := gr22.is fr2_0
                have S := S.gr (Z1 := (gW Z yr22)) rfl gr22
                have M := pM.to (gW Z yr22) rfl M
                have GR := GR.tr gr22
                have hP0 : pPh Z ≤ pPh (gW Z yr22) := by omega
                have hPm := K.ph
                refine W.widen (k := pPh (gW Z yr22) - pPh Z) (n := 2 * (pPh (gW Z yr22) - pPh Z)) (by omega) (by omega) ?_
                refine lv_aload hx hb dX11_window_123 (lv_at hl 0 rfl) ?_
                refine pg_i (Z := (gW Z yr22)) M V 7 7 isr22_1 pC7 fk7_7 lkF_X11_168 dX11_window_125 ?_
                refine lv_topi (fun v23 ev23 => ?_)
                have tv23 : 0 ≤ v23.toInt ∧ v23.toInt ≤ 1 := by rw [ev23]; exact I.get isr22_1 7
                refine lv_if_ne (tgt := 135) hx hb dX11_window_128 (by decide) (fun c_128 => ?_) (fun c_128 => ?_)
                · skip
                  have c_128 := pi_ne c_128
                  refine lv_iconst (v := 0) hx hb dX11_window_135 (by decide) ?_
                  exact vx_ret (ge_i (Z := Z) (Z' := (gW Z yr22)) M V rfl rfl hr hlk (pn_z (pi_z (by omega))).1 ⟨GR, K, I, A.wk (by decide), ⟨by omega, by omega, hP0⟩, L, by omega, (show (hr22 129 2).toInt ≤ (h 129 2).toInt + 2 by omega), (show (hr22 129 3).toInt ≤ (h 129 3).toInt + 2 by omega)⟩ (g_re (by omega) (by omega) hPm) dX11_window_136)
                · skip
                  have c_128 := pi_eq.mp c_128
                  refine lv_iconst (v := 1) hx hb dX11_window_131 (by decide) ?_
                  refine lv_goto (tgt := 136) hx hb dX11_window_132 (by decide) ?_
                  have k_1 : (1 : Int32).toInt = 1 := rfl
                  exact vx_ret (ge_i (Z := Z) (Z' := (gW Z yr22)) M V rfl rfl hr hlk (pn_z (pi_z (by omega))).1 ⟨GR, K, I, A.wk (by decide), ⟨by omega, by omega, hP0⟩, L, by omega, (show (hr22 129 2).toInt ≤ (h 129 2).toInt + 2 by omega), (show (hr22 129 3).toInt ≤ (h 129 3).toInt + 2 by omega)⟩ (g_re (by omega) (by omega) hPm) dX11_window_136)
              · skip
                have c_102 := pi_eq.mp c_102
                refine lv_aload hx hb dX11_window_105 (lv_at hl 0 rfl) ?_
                refine lv_iload_n hx hb dX11_window_107 rfl (lv_at hl 3 rfl) ?_
                refine lv_iload_n hx hb dX11_window_108 rfl (lv_at hl 4 rfl) ?_
                refine pk_v (pr_V M V (m_X7_moveTo l S I r2 fr2_0 x y ) km_X7_moveTo fr2_0 pC7 lkM_X11_160 rfl hl.1 rfl (Nat.le_of_ble_eq_true rfl) ⟨Nat.le_of_ble_eq_true rfl, Nat.le_of_ble_eq_true rfl⟩ (g_r0 (by omega) (by omega)) dX11_window_109) V (fun Zr24 hr24 H locs pr24 _ _ V => ?_)
                obtain ⟨rfl, I, pA_r24⟩ := pr24
                have A := A.tr pA_r24 (by decide)
                have L := L.congr (pA_r24.get 129 2 (by decide)) (pA_r24.get 129 3 (by decide))
                have w_r24_129_2 : (hr24 129 2).toInt = (hJ 129 2).toInt := congrArg Int32.toInt (pA_r24.get 129 2 (by decide))
                have w_r24_129_3 : (hr24 129 3).toInt = (hJ 129 3).toInt := congrArg Int32.toInt (pA_r24.get 129 3 (by decide))
                refine lv_aload_n hx hb dX11_window_112 rfl (lv_at hl 1 rfl) ?_
                refine lv_iload_n hx hb dX11_window_113 rfl (lv_at hl 2 rfl) ?_
                refine lv_aload hx hb dX11_window_114 (lv_at hl 0 rfl) ?_
                refine lv_iload hx hb dX11_window_116 (lv_at hl 5 rfl) ?_
                refine lv_iload hx hb dX11_window_118 (lv_at hl 6 rfl) ?_
                refine gz_v Z rfl rfl (pr_V M V (m_X11_tellPane l S I window r2 fr2_0 width height K L (by omega)) km_X11_tellPane (c_is_0 S) pC11 lkM_X11_164 rfl hl.1 rfl (Nat.le_of_ble_eq_true rfl) ⟨Nat.le_of_ble_eq_true rfl, Nat.le_of_ble_eq_true rfl⟩ (g_rg (by omega) (by omega) hP0 hPm) dX11_window_120) V (fun yr25 hr25 kr25 nr25 H locs pr25 V => ?_)
                obtain ⟨gr25, K, I, pA_r25, br25, L, fr25_0, fr25_1⟩ := pr25
                have A := A.wk (l3 := [(122, 1000), (10, 4), (36, 4), (36, 5), (37, 1000), (38, 1000), (129, 2), (129, 3), (129, 4), (129, 5)]) (by decide)
                have A := A.tr pA_r25 (by decide)
                have isr25_1 := gr25.is fr2_0
                have S := S.gr (Z1 := (gW Z yr25)) rfl gr25
                have M := pM.to (gW Z yr25) rfl M
                have GR := GR.tr gr25
                have hP0 : pPh Z ≤ pPh (gW Z yr25) := by omega
                have hPm := K.ph
                refine W.widen (k := pPh (gW Z yr25) - pPh Z) (n := 2 * (pPh (gW Z yr25) - pPh Z)) (by omega) (by omega) ?_
                refine lv_aload hx hb dX11_window_123 (lv_at hl 0 rfl) ?_
                refine pg_i (Z := (gW Z yr25)) M V 7 7 isr25_1 pC7 fk7_7 lkF_X11_168 dX11_window_125 ?_
                refine lv_topi (fun v26 ev26 => ?_)
                have tv26 : 0 ≤ v26.toInt ∧ v26.toInt ≤ 1 := by rw [ev26]; exact I.get isr25_1 7
                refine lv_if_ne (tgt := 135) hx hb dX11_window_128 (by decide) (fun c_128 => ?_) (fun c_128 => ?_)
                · skip
                  have c_128 := pi_ne c_128
                  refine lv_iconst (v := 0) hx hb dX11_window_135 (by decide) ?_
                  exact vx_ret (ge_i (Z := Z) (Z' := (gW Z yr25)) M V rfl rfl hr hlk (pn_z (pi_z (by omega))).1 ⟨GR, K, I, A.wk (by decide), ⟨by omega, by omega, hP0⟩, L, by omega, (show (hr25 129 2).toInt ≤ (h 129 2).toInt + 2 by omega), (show (hr25 129 3).toInt ≤ (h 129 3).toInt + 2 by omega)⟩ (g_re (by omega) (by omega) hPm) dX11_window_136)
                · skip
                  have c_128 := pi_eq.mp c_128
                  refine lv_iconst (v := 1) hx hb dX11_window_131 (by decide) ?_
                  refine lv_goto (tgt := 136) hx hb dX11_window_132 (by decide) ?_
                  have k_1 : (1 : Int32).toInt = 1 := rfl
                  exact vx_ret (ge_i (Z := Z) (Z' := (gW Z yr25)) M V rfl rfl hr hlk (pn_z (pi_z (by omega))).1 ⟨GR, K, I, A.wk (by decide), ⟨by omega, by omega, hP0⟩, L, by omega, (show (hr25 129 2).toInt ≤ (h 129 2).toInt + 2 by omega), (show (hr25 129 3).toInt ≤ (h 129 3).toInt + 2 by omega)⟩ (g_re (by omega) (by omega) hPm) dX11_window_136)
          · skip
            have c_86 := pi_eq.mp c_86
            refine lv_iconst (v := 1) hx hb dX11_window_89 (by decide) ?_
            refine lv_goto (tgt := 94) hx hb dX11_window_90 (by decide) ?_
            have k_1 : (1 : Int32).toInt = 1 := rfl
            refine xz_v Z rfl rfl (xr_V M V X (m_X11_requireState l hl9 S I (1 : Int32)) km_X11_requireState (c_is_0 S) pC11 lkM_X11_88 rfl hl.1 rfl (Nat.le_of_ble_eq_true rfl) ⟨Nat.le_of_ble_eq_true rfl, Nat.le_of_ble_eq_true rfl⟩ (g_rk (by omega) (by omega)) dX11_window_94) V (fun E ce q9 yr27 hr27 H locs pr27 V w1 w2 w3 => ?_) (fun yr27 hr27 kr27 nr27 H locs pr27 V => ?_)
            · obtain ⟨hE, e2, I, pA_r27⟩ := pr27
              rw [← e2] at V
              have A := A.wk (l3 := [(0, 10), (22, 5), (36, 4), (36, 5), (122, 1000), (10, 3), (10, 4), (10, 5), (10, 6)]) (by decide)
              have A := A.tr pA_r27 (by decide)
              have L := L.congr (pA_r27.get 129 2 (by decide)) (pA_r27.get 129 3 (by decide))
              have w_r27_129_2 : (hr27 129 2).toInt = (hJ 129 2).toInt := congrArg Int32.toInt (pA_r27.get 129 2 (by decide))
              have w_r27_129_3 : (hr27 129 3).toInt = (hJ 129 3).toInt := congrArg Int32.toInt (pA_r27.get 129 3 (by decide))
              exact xe_out (Z' := Z) V rfl rfl hct hlk w1 w2 w3 ⟨Or.inr hE, GR, K, I, A.wk (by decide), ⟨by omega, by omega, hP0⟩, L, (show (hr27 129 2).toInt ≤ (h 129 2).toInt + 2 by omega), (show (hr27 129 3).toInt ≤ (h 129 3).toInt + 2 by omega)⟩ (g_rx (by omega) (by omega) hPm)
            · obtain ⟨e2, rfl, rfl, rfl, fr27⟩ := pr27
              rw [← e2] at V
              refine lv_aload hx hb dX11_window_97 (lv_at hl 0 rfl) ?_
              refine pg_i M V 7 8 fr2_0 pC7 fk7_8 lkF_X11_157 dX11_window_99 ?_
              refine lv_topi (fun v28 ev28 => ?_)
              have tv28 : 0 ≤ v28.toInt ∧ v28.toInt ≤ 1 := by rw [ev28]; exact I.get fr2_0 8
              refine lv_if_ne (tgt := 112) hx hb dX11_window_102 (by decide) (fun c_102 => ?_) (fun c_102 => ?_)
              · skip
                have c_102 := pi_ne c_102
                refine lv_aload_n hx hb dX11_window_112 rfl (lv_at hl 1 rfl) ?_
                refine lv_iload_n hx hb dX11_window_113 rfl (lv_at hl 2 rfl) ?_
                refine lv_aload hx hb dX11_window_114 (lv_at hl 0 rfl) ?_
                refine lv_iload hx hb dX11_window_116 (lv_at hl 5 rfl) ?_
                refine lv_iload hx hb dX11_window_118 (lv_at hl 6 rfl) ?_
                refine gz_v Z rfl rfl (pr_V M V (m_X11_tellPane l S I window r2 fr2_0 width height K L (by omega)) km_X11_tellPane (c_is_0 S) pC11 lkM_X11_164 rfl hl.1 rfl (Nat.le_of_ble_eq_true rfl) ⟨Nat.le_of_ble_eq_true rfl, Nat.le_of_ble_eq_true rfl⟩ (g_rg (by omega) (by omega) hP0 hPm) dX11_window_120) V (fun yr29 hr29 kr29 nr29 H locs pr29 V => ?_)
                obtain ⟨gr29, K, I, pA_r29, br29, L, fr29_0, fr29_1⟩ := pr29
                have A := A.wk (l3 := [(122, 1000), (10, 4), (36, 4), (36, 5), (37, 1000), (38, 1000), (129, 2), (129, 3), (129, 4), (129, 5)]) (by decide)
                have A := A.tr pA_r29 (by decide)
                have isr29_1 := gr29.is fr2_0
                have S := S.gr (Z1 := (gW Z yr29)) rfl gr29
                have M := pM.to (gW Z yr29) rfl M
                have GR := GR.tr gr29
                have hP0 : pPh Z ≤ pPh (gW Z yr29) := by omega
                have hPm := K.ph
                refine W.widen (k := pPh (gW Z yr29) - pPh Z) (n := 2 * (pPh (gW Z yr29) - pPh Z)) (by omega) (by omega) ?_
                refine lv_aload hx hb dX11_window_123 (lv_at hl 0 rfl) ?_
                refine pg_i (Z := (gW Z yr29)) M V 7 7 isr29_1 pC7 fk7_7 lkF_X11_168 dX11_window_125 ?_
                refine lv_topi (fun v30 ev30 => ?_)
                have tv30 : 0 ≤ v30.toInt ∧ v30.toInt ≤ 1 := by rw [ev30]; exact I.get isr29_1 7
                refine lv_if_ne (tgt := 135) hx hb dX11_window_128 (by decide) (fun c_128 => ?_) (fun c_128 => ?_)
                · skip
                  have c_128 := pi_ne c_128
                  refine lv_iconst (v := 0) hx hb dX11_window_135 (by decide) ?_
                  exact vx_ret (ge_i (Z := Z) (Z' := (gW Z yr29)) M V rfl rfl hr hlk (pn_z (pi_z (by omega))).1 ⟨GR, K, I, A.wk (by decide), ⟨by omega, by omega, hP0⟩, L, by omega, (show (hr29 129 2).toInt ≤ (h 129 2).toInt + 2 by omega), (show (hr29 129 3).toInt ≤ (h 129 3).toInt + 2 by omega)⟩ (g_re (by omega) (by omega) hPm) dX11_window_136)
                · skip
                  have c_128 := pi_eq.mp c_128
                  refine lv_iconst (v := 1) hx hb dX11_window_131 (by decide) ?_
                  refine lv_goto (tgt := 136) hx hb dX11_window_132 (by decide) ?_
                  exact vx_ret (ge_i (Z := Z) (Z' := (gW Z yr29)) M V rfl rfl hr hlk (pn_z (pi_z (by omega))).1 ⟨GR, K, I, A.wk (by decide), ⟨by omega, by omega, hP0⟩, L, by omega, (show (hr29 129 2).toInt ≤ (h 129 2).toInt + 2 by omega), (show (hr29 129 3).toInt ≤ (h 129 3).toInt + 2 by omega)⟩ (g_re (by omega) (by omega) hPm) dX11_window_136)
              · skip
                have c_102 := pi_eq.mp c_102
                refine lv_aload hx hb dX11_window_105 (lv_at hl 0 rfl) ?_
                refine lv_iload_n hx hb dX11_window_107 rfl (lv_at hl 3 rfl) ?_
                refine lv_iload_n hx hb dX11_window_108 rfl (lv_at hl 4 rfl) ?_
                refine pk_v (pr_V M V (m_X7_moveTo l S I r2 fr2_0 x y ) km_X7_moveTo fr2_0 pC7 lkM_X11_160 rfl hl.1 rfl (Nat.le_of_ble_eq_true rfl) ⟨Nat.le_of_ble_eq_true rfl, Nat.le_of_ble_eq_true rfl⟩ (g_r0 (by omega) (by omega)) dX11_window_109) V (fun Zr31 hr31 H locs pr31 _ _ V => ?_)
                obtain ⟨rfl, I, pA_r31⟩ := pr31
                have A := A.tr pA_r31 (by decide)
                have L := L.congr (pA_r31.get 129 2 (by decide)) (pA_r31.get 129 3 (by decide))
                have w_r31_129_2 : (hr31 129 2).toInt = (hJ 129 2).toInt := congrArg Int32.toInt (pA_r31.get 129 2 (by decide))
                have w_r31_129_3 : (hr31 129 3).toInt = (hJ 129 3).toInt := congrArg Int32.toInt (pA_r31.get 129 3 (by decide))
                refine lv_aload_n hx hb dX11_window_112 rfl (lv_at hl 1 rfl) ?_
                refine lv_iload_n hx hb dX11_window_113 rfl (lv_at hl 2 rfl) ?_
                refine lv_aload hx hb dX11_window_114 (lv_at hl 0 rfl) ?_
                refine lv_iload hx hb dX11_window_116 (lv_at hl 5 rfl) ?_
                refine lv_iload hx hb dX11_window_118 (lv_at hl 6 rfl) ?_
                refine gz_v Z rfl rfl (pr_V M V (m_X11_tellPane l S I window r2 fr2_0 width height K L (by omega)) km_X11_tellPane (c_is_0 S) pC11 lkM_X11_164 rfl hl.1 rfl (Nat.le_of_ble_eq_true rfl) ⟨Nat.le_of_ble_eq_true rfl, Nat.le_of_ble_eq_true rfl⟩ (g_rg (by omega) (by omega) hP0 hPm) dX11_window_120) V (fun yr32 hr32 kr32 nr32 H locs pr32 V => ?_)
                obtain ⟨gr32, K, I, pA_r32, br32, L, fr32_0, fr32_1⟩ := pr32
                have A := A.wk (l3 := [(122, 1000), (10, 4), (36, 4), (36, 5), (37, 1000), (38, 1000), (129, 2), (129, 3), (129, 4), (129, 5)]) (by decide)
                have A := A.tr pA_r32 (by decide)
                have isr32_1 := gr32.is fr2_0
                have S := S.gr (Z1 := (gW Z yr32)) rfl gr32
                have M := pM.to (gW Z yr32) rfl M
                have GR := GR.tr gr32
                have hP0 : pPh Z ≤ pPh (gW Z yr32) := by omega
                have hPm := K.ph
                refine W.widen (k := pPh (gW Z yr32) - pPh Z) (n := 2 * (pPh (gW Z yr32) - pPh Z)) (by omega) (by omega) ?_
                refine lv_aload hx hb dX11_window_123 (lv_at hl 0 rfl) ?_
                refine pg_i (Z := (gW Z yr32)) M V 7 7 isr32_1 pC7 fk7_7 lkF_X11_168 dX11_window_125 ?_
                refine lv_topi (fun v33 ev33 => ?_)
                have tv33 : 0 ≤ v33.toInt ∧ v33.toInt ≤ 1 := by rw [ev33]; exact I.get isr32_1 7
                refine lv_if_ne (tgt := 135) hx hb dX11_window_128 (by decide) (fun c_128 => ?_) (fun c_128 => ?_)
                · skip
                  have c_128 := pi_ne c_128
                  refine lv_iconst (v := 0) hx hb dX11_window_135 (by decide) ?_
                  exact vx_ret (ge_i (Z := Z) (Z' := (gW Z yr32)) M V rfl rfl hr hlk (pn_z (pi_z (by omega))).1 ⟨GR, K, I, A.wk (by decide), ⟨by omega, by omega, hP0⟩, L, by omega, (show (hr32 129 2).toInt ≤ (h 129 2).toInt + 2 by omega), (show (hr32 129 3).toInt ≤ (h 129 3).toInt + 2 by omega)⟩ (g_re (by omega) (by omega) hPm) dX11_window_136)
                · skip
                  have c_128 := pi_eq.mp c_128
                  refine lv_iconst (v := 1) hx hb dX11_window_131 (by decide) ?_
                  refine lv_goto (tgt := 136) hx hb dX11_window_132 (by decide) ?_
                  exact vx_ret (ge_i (Z := Z) (Z' := (gW Z yr32)) M V rfl rfl hr hlk (pn_z (pi_z (by omega))).1 ⟨GR, K, I, A.wk (by decide), ⟨by omega, by omega, hP0⟩, L, by omega, (show (hr32 129 2).toInt ≤ (h 129 2).toInt + 2 by omega), (show (hr32 129 3).toInt ≤ (h 129 3).toInt + 2 by omega)⟩ (g_re (by omega) (by omega) hPm) dX11_window_136)
  have J_49 : ∀ (hJ : pH) (H : Heap) (locs : List Loc) (ls : Array Slot), pV Z hJ s.heap H locs → Iv Z hJ → pLk Z hJ → agrD [] h hJ → lv_has ls 7 [(0, .ref (zB Z + 0)), (1, .int window), (2, .int x), (3, .int y), (4, .int width), (5, .int height)] → W p l e (pRm 7 (gmc Z) (gms Z) 168) s m ([.ref (zB Z + 0), .int window, .int x, .int y, .int width, .int height] : List Value).toArray below meth c H locs (pPh Z - pPh Z) (2 * (pPh Z - pPh Z)) (vx_MQ below (gQi Z (fun r Z1 h1 k n => pGr Z Z1 ∧ pSk Z1 ∧ Iv Z1 h1 ∧ agrD [(122, 1000), (10, 4), (36, 4), (36, 5), (37, 1000), (38, 1000), (129, 2), (129, 3), (129, 4), (129, 5), (0, 10), (22, 5), (10, 3), (10, 5), (10, 6)] h h1 ∧ (k ≤ pPh Z1 - pPh Z ∧ n ≤ 2 * (pPh Z1 - pPh Z) ∧ pPh Z ≤ pPh Z1) ∧ pLk Z1 h1 ∧ (r.toInt = 0 ∨ r.toInt = 1) ∧ ((h1 129 2).toInt ≤ (h 129 2).toInt + 2) ∧ ((h1 129 3).toInt ≤ (h 129 3).toInt + 2))) (gX Z (fun E Z1 h1 k n => (E = xIA ∨ E = xIS) ∧ pGr Z Z1 ∧ pSk Z1 ∧ Iv Z1 h1 ∧ agrD [(122, 1000), (10, 4), (36, 4), (36, 5), (37, 1000), (38, 1000), (129, 2), (129, 3), (129, 4), (129, 5), (0, 10), (22, 5), (10, 3), (10, 5), (10, 6)] h h1 ∧ (k ≤ pPh Z1 - pPh Z + 1 ∧ n ≤ 2 * (pPh Z1 - pPh Z) + 6 ∧ pPh Z ≤ pPh Z1) ∧ pLk Z1 h1 ∧ ((h1 129 2).toInt ≤ (h 129 2).toInt + 2) ∧ ((h1 129 3).toInt ≤ (h 129 3).toInt + 2))) ([.ref (zB Z + 0), .int window, .int x, .int y, .int width, .int height] : List Value).toArray s (gmc Z) (gms Z) (pA (zB Z))) (F0 m 49 ls [.ref (zB Z + 0)]) := by
    intro hJ H locs ls V I L A hl
    have wJ_129_2 : (hJ 129 2).toInt = (h 129 2).toInt := congrArg Int32.toInt (A.get 129 2 (by decide))
    have wJ_129_3 : (hJ 129 3).toInt = (h 129 3).toInt := congrArg Int32.toInt (A.get 129 3 (by decide))
    refine lv_iconst (v := 0) hx hb dX11_window_49 (by decide) ?_
    have k_0 : (0 : Int32).toInt = 0 := rfl
    exact J_50 (0 : Int32) _ _ _ _ V I L (A.wk (by decide)) (lv_sub hl [0, 1, 2, 3, 4, 5] rfl) (by omega) 
  refine W.widen (k := pPh Z - pPh Z) (n := 2 * (pPh Z - pPh Z)) (Nat.zero_le _) (Nat.zero_le _) ?_
  refine lv_aload_n hx hb dX11_window_0 rfl (lv_at hl 0 rfl) ?_
  refine lv_iload_n hx hb dX11_window_1 rfl (lv_at hl 1 rfl) ?_
  refine lv_iconst (v := 0) hx hb dX11_window_2 (by decide) ?_
  refine lv_bipush (v := 7) hx hb dX11_window_3 (by decide) ?_
  have k_0 : (0 : Int32).toInt = 0 := rfl
  have k_7 : (7 : Int32).toInt = 7 := rfl
  refine pk_i (pr_S M V (m_X11_isWithin l (Z := Z) (h := _) window (0 : Int32) (7 : Int32)) km_X11_isWithin lkM_X11_71 rfl hl.1 rfl (Nat.le_of_ble_eq_true rfl) ⟨Nat.le_of_ble_eq_true rfl, Nat.le_of_ble_eq_true rfl⟩ (g_r0 (by omega) (by omega)) dX11_window_5) V (fun r34 Zr34 hr34 H locs pr34 _ _ V => ?_)
  obtain ⟨rfl, rfl, fr34_0⟩ := pr34
  refine lv_if_eq (tgt := 49) hx hb dX11_window_8 (by decide) (fun c_8 => ?_) (fun c_8 => ?_)
  · skip
    have c_8 := pi_eq.mp c_8
    exact J_49 _ _ _ _ V I L (A.wk (by decide)) (lv_sub hl [0, 1, 2, 3, 4, 5] rfl) 
  · skip
    have c_8 := pi_ne c_8
    refine lv_iload_n hx hb dX11_window_11 rfl (lv_at hl 2 rfl) ?_
    refine lv_bipush (v := (-100)) hx hb dX11_window_12 (by decide) ?_
    refine lv_sipush (v := 999) hx hb dX11_window_14 (by decide) ?_
    have k_m100 : (-100 : Int32).toInt = -100 := rfl
    have k_999 : (999 : Int32).toInt = 999 := rfl
    refine pk_i (pr_S M V (m_X11_isWithin l (Z := Z) (h := _) x (-100 : Int32) (999 : Int32)) km_X11_isWithin lkM_X11_71 rfl hl.1 rfl (Nat.le_of_ble_eq_true rfl) ⟨Nat.le_of_ble_eq_true rfl, Nat.le_of_ble_eq_true rfl⟩ (g_r0 (by omega) (by omega)) dX11_window_17) V (fun r35 Zr35 hr35 H locs pr35 _ _ V => ?_)
    obtain ⟨rfl, rfl, fr35_0⟩ := pr35
    refine lv_if_eq (tgt := 49) hx hb dX11_window_20 (by decide) (fun c_20 => ?_) (fun c_20 => ?_)
    · skip
      have c_20 := pi_eq.mp c_20
      exact J_49 _ _ _ _ V I L (A.wk (by decide)) (lv_sub hl [0, 1, 2, 3, 4, 5] rfl) 
    · skip
      have c_20 := pi_ne c_20
      refine lv_iload_n hx hb dX11_window_23 rfl (lv_at hl 3 rfl) ?_
      refine lv_bipush (v := (-100)) hx hb dX11_window_24 (by decide) ?_
      refine lv_sipush (v := 999) hx hb dX11_window_26 (by decide) ?_
      refine pk_i (pr_S M V (m_X11_isWithin l (Z := Z) (h := _) y (-100 : Int32) (999 : Int32)) km_X11_isWithin lkM_X11_71 rfl hl.1 rfl (Nat.le_of_ble_eq_true rfl) ⟨Nat.le_of_ble_eq_true rfl, Nat.le_of_ble_eq_true rfl⟩ (g_r0 (by omega) (by omega)) dX11_window_29) V (fun r36 Zr36 hr36 H locs pr36 _ _ V => ?_)
      obtain ⟨rfl, rfl, fr36_0⟩ := pr36
      refine lv_if_eq (tgt := 49) hx hb dX11_window_32 (by decide) (fun c_32 => ?_) (fun c_32 => ?_)
      · skip
        have c_32 := pi_eq.mp c_32
        exact J_49 _ _ _ _ V I L (A.wk (by decide)) (lv_sub hl [0, 1, 2, 3, 4, 5] rfl) 
      · skip
        have c_32 := pi_ne c_32
        refine lv_iload hx hb dX11_window_35 (lv_at hl 4 rfl) ?_
        refine lv_iload hx hb dX11_window_37 (lv_at hl 5 rfl) ?_
        refine pk_i (pr_S M V (m_X11_isWindowSize l (Z := Z) (h := _) width height) km_X11_isWindowSize lkM_X11_142 rfl hl.1 rfl (Nat.le_of_ble_eq_true rfl) ⟨Nat.le_of_ble_eq_true rfl, Nat.le_of_ble_eq_true rfl⟩ (g_r0 (by omega) (by omega)) dX11_window_39) V (fun r37 Zr37 hr37 H locs pr37 _ _ V => ?_)
        obtain ⟨rfl, rfl, fr37_0⟩ := pr37
        refine lv_if_eq (tgt := 49) hx hb dX11_window_42 (by decide) (fun c_42 => ?_) (fun c_42 => ?_)
        · skip
          have c_42 := pi_eq.mp c_42
          exact J_49 _ _ _ _ V I L (A.wk (by decide)) (lv_sub hl [0, 1, 2, 3, 4, 5] rfl) 
        · skip
          have c_42 := pi_ne c_42
          refine lv_iconst (v := 1) hx hb dX11_window_45 (by decide) ?_
          refine lv_goto (tgt := 50) hx hb dX11_window_46 (by decide) ?_
          have k_1 : (1 : Int32).toInt = 1 := rfl
          exact J_50 (1 : Int32) _ _ _ _ V I L (A.wk (by decide)) (lv_sub hl [0, 1, 2, 3, 4, 5] rfl) (by omega) 
theorem dX11_popup_0 : decode cX11_popup 0 = .ok (.aload_n 0, 1) := by decide +kernel
theorem dX11_popup_1 : decode cX11_popup 1 = .ok (.iload_n 1, 1) := by decide +kernel
theorem dX11_popup_2 : decode cX11_popup 2 = .ok (.invokestatic 171, 3) := by decide +kernel
theorem dX11_popup_5 : decode cX11_popup 5 = .ok (.ifCond .eq 15, 3) := by decide +kernel
theorem dX11_popup_8 : decode cX11_popup 8 = .ok (.iload_n 2, 1) := by decide +kernel
theorem dX11_popup_9 : decode cX11_popup 9 = .ok (.iload_n 3, 1) := by decide +kernel
theorem dX11_popup_10 : decode cX11_popup 10 = .ok (.invokestatic 142, 3) := by decide +kernel
theorem dX11_popup_13 : decode cX11_popup 13 = .ok (.ifCond .eq 7, 3) := by decide +kernel
theorem dX11_popup_16 : decode cX11_popup 16 = .ok (.iconst 1, 1) := by decide +kernel
theorem dX11_popup_17 : decode cX11_popup 17 = .ok (.goto 4, 3) := by decide +kernel
theorem dX11_popup_20 : decode cX11_popup 20 = .ok (.iconst 0, 1) := by decide +kernel
theorem dX11_popup_21 : decode cX11_popup 21 = .ok (.invokevirtual 146, 3) := by decide +kernel
theorem dX11_popup_24 : decode cX11_popup 24 = .ok (.aload_n 0, 1) := by decide +kernel
theorem dX11_popup_25 : decode cX11_popup 25 = .ok (.getfield 19, 3) := by decide +kernel
theorem dX11_popup_28 : decode cX11_popup 28 = .ok (.bipush 8, 2) := by decide +kernel
theorem dX11_popup_30 : decode cX11_popup 30 = .ok (.invokevirtual 149, 3) := by decide +kernel
theorem dX11_popup_33 : decode cX11_popup 33 = .ok (.astore 4, 2) := by decide +kernel
theorem dX11_popup_35 : decode cX11_popup 35 = .ok (.aload_n 0, 1) := by decide +kernel
theorem dX11_popup_36 : decode cX11_popup 36 = .ok (.aload_n 0, 1) := by decide +kernel
theorem dX11_popup_37 : decode cX11_popup 37 = .ok (.getfield 84, 3) := by decide +kernel
theorem dX11_popup_40 : decode cX11_popup 40 = .ok (.ifCond .eq 25, 3) := by decide +kernel
theorem dX11_popup_43 : decode cX11_popup 43 = .ok (.aload_n 0, 1) := by decide +kernel
theorem dX11_popup_44 : decode cX11_popup 44 = .ok (.getfield 33, 3) := by decide +kernel
theorem dX11_popup_47 : decode cX11_popup 47 = .ok (.getfield 127, 3) := by decide +kernel
theorem dX11_popup_50 : decode cX11_popup 50 = .ok (.ifCond .ne 15, 3) := by decide +kernel
theorem dX11_popup_53 : decode cX11_popup 53 = .ok (.aload 4, 2) := by decide +kernel
theorem dX11_popup_55 : decode cX11_popup 55 = .ok (.getfield 153, 3) := by decide +kernel
theorem dX11_popup_58 : decode cX11_popup 58 = .ok (.ifCond .ne 7, 3) := by decide +kernel
theorem dX11_popup_61 : decode cX11_popup 61 = .ok (.iconst 1, 1) := by decide +kernel
theorem dX11_popup_62 : decode cX11_popup 62 = .ok (.goto 4, 3) := by decide +kernel
theorem dX11_popup_65 : decode cX11_popup 65 = .ok (.iconst 0, 1) := by decide +kernel
theorem dX11_popup_66 : decode cX11_popup 66 = .ok (.invokevirtual 88, 3) := by decide +kernel
theorem dX11_popup_69 : decode cX11_popup 69 = .ok (.aload_n 0, 1) := by decide +kernel
theorem dX11_popup_70 : decode cX11_popup 70 = .ok (.getfield 19, 3) := by decide +kernel
theorem dX11_popup_73 : decode cX11_popup 73 = .ok (.getfield 179, 3) := by decide +kernel
theorem dX11_popup_76 : decode cX11_popup 76 = .ok (.iload_n 1, 1) := by decide +kernel
theorem dX11_popup_77 : decode cX11_popup 77 = .ok (.if_icmp .eq 5, 3) := by decide +kernel
theorem dX11_popup_80 : decode cX11_popup 80 = .ok (.iconst 0, 1) := by decide +kernel
theorem dX11_popup_81 : decode cX11_popup 81 = .ok (.ireturn, 1) := by decide +kernel
theorem dX11_popup_82 : decode cX11_popup 82 = .ok (.aload_n 0, 1) := by decide +kernel
theorem dX11_popup_83 : decode cX11_popup 83 = .ok (.bipush 8, 2) := by decide +kernel
theorem dX11_popup_85 : decode cX11_popup 85 = .ok (.aload 4, 2) := by decide +kernel
theorem dX11_popup_87 : decode cX11_popup 87 = .ok (.iload_n 2, 1) := by decide +kernel
theorem dX11_popup_88 : decode cX11_popup 88 = .ok (.iload_n 3, 1) := by decide +kernel
theorem dX11_popup_89 : decode cX11_popup 89 = .ok (.invokevirtual 164, 3) := by decide +kernel
theorem dX11_popup_92 : decode cX11_popup 92 = .ok (.iconst 1, 1) := by decide +kernel
theorem dX11_popup_93 : decode cX11_popup 93 = .ok (.ireturn, 1) := by decide +kernel
set_option maxHeartbeats 4000000 in
set_option maxRecDepth 100000 in
theorem m_X11_popup (l : Launch) (hl9 : l.stackTraces = false) {Z : pZ} (S : pSh Z) {h : pH} (I : Iv Z h) (label : Int32) (width : Int32) (height : Int32) (K : pSk Z) (L : pLk Z h) (hq3 : (h 129 3).toInt ≤ 8900) : xMet l yX11_popup cX11_popup 5 (some .boolean) 7 (gmc Z) (gms Z) 168 Z h [.ref (zB Z + 0), .int label, .int width, .int height] (gQi Z (fun r Z1 h1 k n => pGr Z Z1 ∧ pSk Z1 ∧ Iv Z1 h1 ∧ agrD [(122, 1000), (10, 4), (36, 4), (36, 5), (37, 1000), (38, 1000), (129, 2), (129, 3), (129, 4), (129, 5), (0, 10), (22, 5), (10, 3), (10, 5), (10, 6)] h h1 ∧ (k ≤ pPh Z1 - pPh Z ∧ n ≤ 2 * (pPh Z1 - pPh Z) ∧ pPh Z ≤ pPh Z1) ∧ pLk Z1 h1 ∧ (r.toInt = 0 ∨ r.toInt = 1) ∧ ((h1 129 2).toInt ≤ (h 129 2).toInt + 2) ∧ ((h1 129 3).toInt ≤ (h 129 3).toInt + 2))) (gX Z (fun E Z1 h1 k n => (E = xIA ∨ E = xIS) ∧ pGr Z Z1 ∧ pSk Z1 ∧ Iv Z1 h1 ∧ agrD [(122, 1000), (10, 4), (36, 4), (36, 5), (37, 1000), (38, 1000), (129, 2), (129, 3), (129, 4), (129, 5), (0, 10), (22, 5), (10, 3), (10, 5), (10, 6)] h h1 ∧ (k ≤ pPh Z1 - pPh Z + 1 ∧ n ≤ 2 * (pPh Z1 - pPh Z) + 6 ∧ pPh Z ≤ pPh Z1) ∧ pLk Z1 h1 ∧ ((h1 129 2).toInt ≤ (h 129 2).toInt + 2) ∧ ((h1 129 3).toInt ≤ (h 129 3).toInt + 2))) := by
  refine xOfW (lv := [(0, .ref (zB Z + 0)), (1, .int label), (2, .int width), (3, .int height)]) (by decide) (Nat.le_of_ble_eq_true rfl) rfl ?_
  intro p e s m below meth c ls M hr hlk hnm V hl hct X
  have hx := M.1.1
  have hb := M.1.2.1
  have A : agrD [] h h := agrD.rf
  have hP0 : pPh Z ≤ pPh Z := Nat.le_refl _
  have hPm := K.ph
  have GR : pGr Z Z := pGr.rf
  have J_21 : ∀ (y21_0 : Int32) (hJ : pH) (H : Heap) (locs : List Loc) (ls : Array Slot), pV Z hJ s.heap H locs → Iv Z hJ → pLk Z hJ → agrD [] h hJ → lv_has ls 5 [(0, .ref (zB Z + 0)), (1, .int label), (2, .int width), (3, .int height)] → (0 ≤ y21_0.toInt ∧ y21_0.toInt ≤ 1) → W p l e (pRm 7 (gmc Z) (gms Z) 168) s m ([.ref (zB Z + 0), .int label, .int width, .int height] : List Value).toArray below meth c H locs (pPh Z - pPh Z) (2 * (pPh Z - pPh Z)) (vx_MQ below (gQi Z (fun r Z1 h1 k n => pGr Z Z1 ∧ pSk Z1 ∧ Iv Z1 h1 ∧ agrD [(122, 1000), (10, 4), (36, 4), (36, 5), (37, 1000), (38, 1000), (129, 2), (129, 3), (129, 4), (129, 5), (0, 10), (22, 5), (10, 3), (10, 5), (10, 6)] h h1 ∧ (k ≤ pPh Z1 - pPh Z ∧ n ≤ 2 * (pPh Z1 - pPh Z) ∧ pPh Z ≤ pPh Z1) ∧ pLk Z1 h1 ∧ (r.toInt = 0 ∨ r.toInt = 1) ∧ ((h1 129 2).toInt ≤ (h 129 2).toInt + 2) ∧ ((h1 129 3).toInt ≤ (h 129 3).toInt + 2))) (gX Z (fun E Z1 h1 k n => (E = xIA ∨ E = xIS) ∧ pGr Z Z1 ∧ pSk Z1 ∧ Iv Z1 h1 ∧ agrD [(122, 1000), (10, 4), (36, 4), (36, 5), (37, 1000), (38, 1000), (129, 2), (129, 3), (129, 4), (129, 5), (0, 10), (22, 5), (10, 3), (10, 5), (10, 6)] h h1 ∧ (k ≤ pPh Z1 - pPh Z + 1 ∧ n ≤ 2 * (pPh Z1 - pPh Z) + 6 ∧ pPh Z ≤ pPh Z1) ∧ pLk Z1 h1 ∧ ((h1 129 2).toInt ≤ (h 129 2).toInt + 2) ∧ ((h1 129 3).toInt ≤ (h 129 3).toInt + 2))) ([.ref (zB Z + 0), .int label, .int width, .int height] : List Value).toArray s (gmc Z) (gms Z) (pA (zB Z))) (F0 m 21 ls [.int y21_0, .ref (zB Z + 0)]) := by
    intro y21_0 hJ H locs ls V I L A hl gs_21_0
    have wJ_129_2 : (hJ 129 2).toInt = (h 129 2).toInt := congrArg Int32.toInt (A.get 129 2 (by decide))
    have wJ_129_3 : (hJ 129 3).toInt = (h 129 3).toInt := congrArg Int32.toInt (A.get 129 3 (by decide))
    refine xz_v Z rfl rfl (xr_V M V X (m_X11_requireArgument l hl9 S I y21_0) km_X11_requireArgument (c_is_0 S) pC11 lkM_X11_146 rfl hl.1 rfl (Nat.le_of_ble_eq_true rfl) ⟨Nat.le_of_ble_eq_true rfl, Nat.le_of_ble_eq_true rfl⟩ (g_rk (by omega) (by omega)) dX11_popup_21) V (fun E ce q9 yr1 hr1 H locs pr1 V w1 w2 w3 => ?_) (fun yr1 hr1 kr1 nr1 H locs pr1 V => ?_)
    · obtain ⟨hE, e2, I, pA_r1⟩ := pr1
      rw [← e2] at V
      have A := A.wk (l3 := [(0, 10), (22, 5), (36, 4), (36, 5), (122, 1000), (10, 3), (10, 4), (10, 5), (10, 6)]) (by decide)
      have A := A.tr pA_r1 (by decide)
      have L := L.congr (pA_r1.get 129 2 (by decide)) (pA_r1.get 129 3 (by decide))
      have w_r1_129_2 : (hr1 129 2).toInt = (hJ 129 2).toInt := congrArg Int32.toInt (pA_r1.get 129 2 (by decide))
      have w_r1_129_3 : (hr1 129 3).toInt = (hJ 129 3).toInt := congrArg Int32.toInt (pA_r1.get 129 3 (by decide))
      exact xe_out (Z' := Z) V rfl rfl hct hlk w1 w2 w3 ⟨Or.inl hE, GR, K, I, A.wk (by decide), ⟨by omega, by omega, hP0⟩, L, (show (hr1 129 2).toInt ≤ (h 129 2).toInt + 2 by omega), (show (hr1 129 3).toInt ≤ (h 129 3).toInt + 2 by omega)⟩ (g_rx (by omega) (by omega) hPm)
    · obtain ⟨e2, rfl, rfl, rfl, fr1⟩ := pr1
      rw [← e2] at V
      refine lv_aload_n hx hb dX11_popup_24 rfl (lv_at hl 0 rfl) ?_
      refine pg_r M V 11 1 (c_is_0 S) pC11 fk11_1 (c_r_0_1 S) lkF_X11_19 dX11_popup_25 ?_
      refine lv_bipush (v := 8) hx hb dX11_popup_28 (by decide) ?_
      refine pk_r (pr_V M V (m_X3_paneOf l S I (8 : Int32)) km_X3_paneOf (c_is_10 S) pC3 lkM_X11_149 rfl hl.1 rfl (Nat.le_of_ble_eq_true rfl) ⟨Nat.le_of_ble_eq_true rfl, Nat.le_of_ble_eq_true rfl⟩ (g_r0 (by omega) (by omega)) dX11_popup_30) V (fun r2 Zr2 hr2 H locs pr2 _ _ V => ?_)
      obtain ⟨rfl, rfl, fr2_0⟩ := pr2
      refine lv_astore (lv' := [(4, .ref (zB Z + r2)), (0, .ref (zB Z + 0)), (1, .int label), (2, .int width), (3, .int height)]) hx hb dX11_popup_33 hl (by decide) rfl (fun ls hl => ?_)
      refine lv_aload_n hx hb dX11_popup_35 rfl (lv_at hl 1 rfl) ?_
      refine lv_aload_n hx hb dX11_popup_36 rfl (lv_at hl 1 rfl) ?_
      refine pg_i M V 11 10 (c_is_0 S) pC11 fk11_10 lkF_X11_84 dX11_popup_37 ?_
      refine lv_topi (fun v3 ev3 => ?_)
      have tv3 : 0 ≤ v3.toInt ∧ v3.toInt ≤ 1 := by rw [ev3]; exact I.get (c_is_0 S) 10
      refine lv_if_eq (tgt := 65) hx hb dX11_popup_40 (by decide) (fun c_40 => ?_) (fun c_40 => ?_)
      · skip
        have k_0 : (0 : Int32).toInt = 0 := rfl
        have c_40 := pi_eq.mp c_40
        refine lv_iconst (v := 0) hx hb dX11_popup_65 (by decide) ?_
        refine xz_v Z rfl rfl (xr_V M V X (m_X11_requireState l hl9 S I (0 : Int32)) km_X11_requireState (c_is_0 S) pC11 lkM_X11_88 rfl hl.1 rfl (Nat.le_of_ble_eq_true rfl) ⟨Nat.le_of_ble_eq_true rfl, Nat.le_of_ble_eq_true rfl⟩ (g_rk (by omega) (by omega)) dX11_popup_66) V (fun E ce q9 yr4 hr4 H locs pr4 V w1 w2 w3 => ?_) (fun yr4 hr4 kr4 nr4 H locs pr4 V => ?_)
        · obtain ⟨hE, e2, I, pA_r4⟩ := pr4
          rw [← e2] at V
          have A := A.wk (l3 := [(0, 10), (22, 5), (36, 4), (36, 5), (122, 1000), (10, 3), (10, 4), (10, 5), (10, 6)]) (by decide)
          have A := A.tr pA_r4 (by decide)
          have L := L.congr (pA_r4.get 129 2 (by decide)) (pA_r4.get 129 3 (by decide))
          have w_r4_129_2 : (hr4 129 2).toInt = (hJ 129 2).toInt := congrArg Int32.toInt (pA_r4.get 129 2 (by decide))
          have w_r4_129_3 : (hr4 129 3).toInt = (hJ 129 3).toInt := congrArg Int32.toInt (pA_r4.get 129 3 (by decide))
          exact xe_out (Z' := Z) V rfl rfl hct hlk w1 w2 w3 ⟨Or.inr hE, GR, K, I, A.wk (by decide), ⟨by omega, by omega, hP0⟩, L, (show (hr4 129 2).toInt ≤ (h 129 2).toInt + 2 by omega), (show (hr4 129 3).toInt ≤ (h 129 3).toInt + 2 by omega)⟩ (g_rx (by omega) (by omega) hPm)
        · obtain ⟨e2, rfl, rfl, rfl, fr4⟩ := pr4
          rw [← e2] at V
          refine lv_aload_n hx hb dX11_popup_69 rfl (lv_at hl 1 rfl) ?_
          refine pg_r M V 11 1 (c_is_0 S) pC11 fk11_1 (c_r_0_1 S) lkF_X11_19 dX11_popup_70 ?_
          refine pg_i M V 3 5 (c_is_10 S) pC3 fk3_5 lkF_X11_179 dX11_popup_73 ?_
          refine lv_topi (fun v5 ev5 => ?_)
          refine lv_iload_n hx hb dX11_popup_76 rfl (lv_at hl 2 rfl) ?_
          refine lv_icmp_eq (tgt := 82) hx hb dX11_popup_77 (by decide) (fun c_77 => ?_) (fun c_77 => ?_)
          · skip
            have c_77 := pi_eq.mp c_77
            refine lv_aload_n hx hb dX11_popup_82 rfl (lv_at hl 1 rfl) ?_
            refine lv_bipush (v := 8) hx hb dX11_popup_83 (by decide) ?_
            refine lv_aload hx hb dX11_popup_85 (lv_at hl 0 rfl) ?_
            refine lv_iload_n hx hb dX11_popup_87 rfl (lv_at hl 3 rfl) ?_
            refine lv_iload_n hx hb dX11_popup_88 rfl (lv_at hl 4 rfl) ?_
            refine gz_v Z rfl rfl (pr_V M V (m_X11_tellPane l S I (8 : Int32) r2 fr2_0 width height K L (by omega)) km_X11_tellPane (c_is_0 S) pC11 lkM_X11_164 rfl hl.1 rfl (Nat.le_of_ble_eq_true rfl) ⟨Nat.le_of_ble_eq_true rfl, Nat.le_of_ble_eq_true rfl⟩ (g_rg (by omega) (by omega) hP0 hPm) dX11_popup_89) V (fun yr6 hr6 kr6 nr6 H locs pr6 V => ?_)
            obtain ⟨gr6, K, I, pA_r6, br6, L, fr6_0, fr6_1⟩ := pr6
            have A := A.wk (l3 := [(122, 1000), (10, 4), (36, 4), (36, 5), (37, 1000), (38, 1000), (129, 2), (129, 3), (129, 4), (129, 5)]) (by decide)
            have A := A.tr pA_r6 (by decide)
            have isr6_1 := gr6.is fr2_0
            have S := S.gr (Z1 := (gW Z yr6)) rfl gr6
            have M := pM.to (gW Z yr6) rfl M
            have GR := GR.tr gr6
            have hP0 : pPh Z ≤ pPh (gW Z yr6) := by omega
            have hPm := K.ph
            refine W.widen (k := pPh (gW Z yr6) - pPh Z) (n := 2 * (pPh (gW Z yr6) - pPh Z)) (by omega) (by omega) ?_
            refine lv_iconst (v := 1) hx hb dX11_popup_92 (by decide) ?_
            have k_1 : (1 : Int32).toInt = 1 := rfl
            exact vx_ret (ge_i (Z := Z) (Z' := (gW Z yr6)) M V rfl rfl hr hlk (pn_z (pi_z (by omega))).1 ⟨GR, K, I, A.wk (by decide), ⟨by omega, by omega, hP0⟩, L, by omega, (show (hr6 129 2).toInt ≤ (h 129 2).toInt + 2 by omega), (show (hr6 129 3).toInt ≤ (h 129 3).toInt + 2 by omega)⟩ (g_re (by omega) (by omega) hPm) dX11_popup_93)
          · skip
            have c_77 := pi_ne c_77
            refine lv_iconst (v := 0) hx hb dX11_popup_80 (by decide) ?_
            exact vx_ret (ge_i (Z := Z) (Z' := Z) M V rfl rfl hr hlk (pn_z (pi_z (by omega))).1 ⟨GR, K, I, A.wk (by decide), ⟨by omega, by omega, hP0⟩, L, by omega, (show (hJ 129 2).toInt ≤ (h 129 2).toInt + 2 by omega), (show (hJ 129 3).toInt ≤ (h 129 3).toInt + 2 by omega)⟩ (g_re (by omega) (by omega) hPm) dX11_popup_81)
      · skip
        have k_0 : (0 : Int32).toInt = 0 := rfl
        have c_40 := pi_ne c_40
        refine lv_aload_n hx hb dX11_popup_43 rfl (lv_at hl 1 rfl) ?_
        refine pg_r M V 11 3 (c_is_0 S) pC11 fk11_3 (c_r_0_3 S) lkF_X11_33 dX11_popup_44 ?_
        refine pg_i M V 8 4 (c_is_36 S) pC8 fk8_4 lkF_X11_127 dX11_popup_47 ?_
        refine lv_topi (fun v7 ev7 => ?_)
        have tv7 : 0 ≤ v7.toInt ∧ v7.toInt ≤ 40 := by rw [ev7]; exact I.get (c_is_36 S) 4
        refine lv_if_ne (tgt := 65) hx hb dX11_popup_50 (by decide) (fun c_50 => ?_) (fun c_50 => ?_)
        · skip
          have c_50 := pi_ne c_50
          refine lv_iconst (v := 0) hx hb dX11_popup_65 (by decide) ?_
          refine xz_v Z rfl rfl (xr_V M V X (m_X11_requireState l hl9 S I (0 : Int32)) km_X11_requireState (c_is_0 S) pC11 lkM_X11_88 rfl hl.1 rfl (Nat.le_of_ble_eq_true rfl) ⟨Nat.le_of_ble_eq_true rfl, Nat.le_of_ble_eq_true rfl⟩ (g_rk (by omega) (by omega)) dX11_popup_66) V (fun E ce q9 yr8 hr8 H locs pr8 V w1 w2 w3 => ?_) (fun yr8 hr8 kr8 nr8 H locs pr8 V => ?_)
          · obtain ⟨hE, e2, I, pA_r8⟩ := pr8
            rw [← e2] at V
            have A := A.wk (l3 := [(0, 10), (22, 5), (36, 4), (36, 5), (122, 1000), (10, 3), (10, 4), (10, 5), (10, 6)]) (by decide)
            have A := A.tr pA_r8 (by decide)
            have L := L.congr (pA_r8.get 129 2 (by decide)) (pA_r8.get 129 3 (by decide))
            have w_r8_129_2 : (hr8 129 2).toInt = (hJ 129 2).toInt := congrArg Int32.toInt (pA_r8.get 129 2 (by decide))
            have w_r8_129_3 : (hr8 129 3).toInt = (hJ 129 3).toInt := congrArg Int32.toInt (pA_r8.get 129 3 (by decide))
            exact xe_out (Z' := Z) V rfl rfl hct hlk w1 w2 w3 ⟨Or.inr hE, GR, K, I, A.wk (by decide), ⟨by omega, by omega, hP0⟩, L, (show (hr8 129 2).toInt ≤ (h 129 2).toInt + 2 by omega), (show (hr8 129 3).toInt ≤ (h 129 3).toInt + 2 by omega)⟩ (g_rx (by omega) (by omega) hPm)
          · obtain ⟨e2, rfl, rfl, rfl, fr8⟩ := pr8
            rw [← e2] at V
            refine lv_aload_n hx hb dX11_popup_69 rfl (lv_at hl 1 rfl) ?_
            refine pg_r M V 11 1 (c_is_0 S) pC11 fk11_1 (c_r_0_1 S) lkF_X11_19 dX11_popup_70 ?_
            refine pg_i M V 3 5 (c_is_10 S) pC3 fk3_5 lkF_X11_179 dX11_popup_73 ?_
            refine lv_topi (fun v9 ev9 => ?_)
            refine lv_iload_n hx hb dX11_popup_76 rfl (lv_at hl 2 rfl) ?_
            refine lv_icmp_eq (tgt := 82) hx hb dX11_popup_77 (by decide) (fun c_77 => ?_) (fun c_77 => ?_)
            · skip
              have c_77 := pi_eq.mp c_77
              refine lv_aload_n hx hb dX11_popup_82 rfl (lv_at hl 1 rfl) ?_
              refine lv_bipush (v := 8) hx hb dX11_popup_83 (by decide) ?_
              refine lv_aload hx hb dX11_popup_85 (lv_at hl 0 rfl) ?_
              refine lv_iload_n hx hb dX11_popup_87 rfl (lv_at hl 3 rfl) ?_
              refine lv_iload_n hx hb dX11_popup_88 rfl (lv_at hl 4 rfl) ?_
              refine gz_v Z rfl rfl (pr_V M V (m_X11_tellPane l S I (8 : Int32) r2 fr2_0 width height K L (by omega)) km_X11_tellPane (c_is_0 S) pC11 lkM_X11_164 rfl hl.1 rfl (Nat.le_of_ble_eq_true rfl) ⟨Nat.le_of_ble_eq_true rfl, Nat.le_of_ble_eq_true rfl⟩ (g_rg (by omega) (by omega) hP0 hPm) dX11_popup_89) V (fun yr10 hr10 kr10 nr10 H locs pr10 V => ?_)
              obtain ⟨gr10, K, I, pA_r10, br10, L, fr10_0, fr10_1⟩ := pr10
              have A := A.wk (l3 := [(122, 1000), (10, 4), (36, 4), (36, 5), (37, 1000), (38, 1000), (129, 2), (129, 3), (129, 4), (129, 5)]) (by decide)
              have A := A.tr pA_r10 (by decide)
              have isr10_1 := gr10.is fr2_0
              have S := S.gr (Z1 := (gW Z yr10)) rfl gr10
              have M := pM.to (gW Z yr10) rfl M
              have GR := GR.tr gr10
              have hP0 : pPh Z ≤ pPh (gW Z yr10) := by omega
              have hPm := K.ph
              refine W.widen (k := pPh (gW Z yr10) - pPh Z) (n := 2 * (pPh (gW Z yr10) - pPh Z)) (by omega) (by omega) ?_
              refine lv_iconst (v := 1) hx hb dX11_popup_92 (by decide) ?_
              have k_1 : (1 : Int32).toInt = 1 := rfl
              exact vx_ret (ge_i (Z := Z) (Z' := (gW Z yr10)) M V rfl rfl hr hlk (pn_z (pi_z (by omega))).1 ⟨GR, K, I, A.wk (by decide), ⟨by omega, by omega, hP0⟩, L, by omega, (show (hr10 129 2).toInt ≤ (h 129 2).toInt + 2 by omega), (show (hr10 129 3).toInt ≤ (h 129 3).toInt + 2 by omega)⟩ (g_re (by omega) (by omega) hPm) dX11_popup_93)
            · skip
              have c_77 := pi_ne c_77
              refine lv_iconst (v := 0) hx hb dX11_popup_80 (by decide) ?_
              exact vx_ret (ge_i (Z := Z) (Z' := Z) M V rfl rfl hr hlk (pn_z (pi_z (by omega))).1 ⟨GR, K, I, A.wk (by decide), ⟨by omega, by omega, hP0⟩, L, by omega, (show (hJ 129 2).toInt ≤ (h 129 2).toInt + 2 by omega), (show (hJ 129 3).toInt ≤ (h 129 3).toInt + 2 by omega)⟩ (g_re (by omega) (by omega) hPm) dX11_popup_81)
        · skip
          have c_50 := pi_eq.mp c_50
          refine lv_aload hx hb dX11_popup_53 (lv_at hl 0 rfl) ?_
          refine pg_i M V 7 9 fr2_0 pC7 fk7_9 lkF_X11_153 dX11_popup_55 ?_
          refine lv_topi (fun v11 ev11 => ?_)
          have tv11 : 0 ≤ v11.toInt ∧ v11.toInt ≤ 1 := by rw [ev11]; exact I.get fr2_0 9
          refine lv_if_ne (tgt := 65) hx hb dX11_popup_58 (by decide) (fun c_58 => ?_) (fun c_58 => ?_)
          · skip
            have c_58 := pi_ne c_58
            refine lv_iconst (v := 0) hx hb dX11_popup_65 (by decide) ?_
            refine xz_v Z rfl rfl (xr_V M V X (m_X11_requireState l hl9 S I (0 : Int32)) km_X11_requireState (c_is_0 S) pC11 lkM_X11_88 rfl hl.1 rfl (Nat.le_of_ble_eq_true rfl) ⟨Nat.le_of_ble_eq_true rfl, Nat.le_of_ble_eq_true rfl⟩ (g_rk (by omega) (by omega)) dX11_popup_66) V (fun E ce q9 yr12 hr12 H locs pr12 V w1 w2 w3 => ?_) (fun yr12 hr12 kr12 nr12 H locs pr12 V => ?_)
            · obtain ⟨hE, e2, I, pA_r12⟩ := pr12
              rw [← e2] at V
              have A := A.wk (l3 := [(0, 10), (22, 5), (36, 4), (36, 5), (122, 1000), (10, 3), (10, 4), (10, 5), (10, 6)]) (by decide)
              have A := A.tr pA_r12 (by decide)
              have L := L.congr (pA_r12.get 129 2 (by decide)) (pA_r12.get 129 3 (by decide))
              have w_r12_129_2 : (hr12 129 2).toInt = (hJ 129 2).toInt := congrArg Int32.toInt (pA_r12.get 129 2 (by decide))
              have w_r12_129_3 : (hr12 129 3).toInt = (hJ 129 3).toInt := congrArg Int32.toInt (pA_r12.get 129 3 (by decide))
              exact xe_out (Z' := Z) V rfl rfl hct hlk w1 w2 w3 ⟨Or.inr hE, GR, K, I, A.wk (by decide), ⟨by omega, by omega, hP0⟩, L, (show (hr12 129 2).toInt ≤ (h 129 2).toInt + 2 by omega), (show (hr12 129 3).toInt ≤ (h 129 3).toInt + 2 by omega)⟩ (g_rx (by omega) (by omega) hPm)
            · obtain ⟨e2, rfl, rfl, rfl, fr12⟩ := pr12
              rw [← e2] at V
              refine lv_aload_n hx hb dX11_popup_69 rfl (lv_at hl 1 rfl) ?_
              refine pg_r M V 11 1 (c_is_0 S) pC11 fk11_1 (c_r_0_1 S) lkF_X11_19 dX11_popup_70 ?_
              refine pg_i M V 3 5 (c_is_10 S) pC3 fk3_5 lkF_X11_179 dX11_popup_73 ?_
              refine lv_topi (fun v13 ev13 => ?_)
              refine lv_iload_n hx hb dX11_popup_76 rfl (lv_at hl 2 rfl) ?_
              refine lv_icmp_eq (tgt := 82) hx hb dX11_popup_77 (by decide) (fun c_77 => ?_) (fun c_77 => ?_)
              · skip
                have c_77 := pi_eq.mp c_77
                refine lv_aload_n hx hb dX11_popup_82 rfl (lv_at hl 1 rfl) ?_
                refine lv_bipush (v := 8) hx hb dX11_popup_83 (by decide) ?_
                refine lv_aload hx hb dX11_popup_85 (lv_at hl 0 rfl) ?_
                refine lv_iload_n hx hb dX11_popup_87 rfl (lv_at hl 3 rfl) ?_
                refine lv_iload_n hx hb dX11_popup_88 rfl (lv_at hl 4 rfl) ?_
                refine gz_v Z rfl rfl (pr_V M V (m_X11_tellPane l S I (8 : Int32) r2 fr2_0 width height K L (by omega)) km_X11_tellPane (c_is_0 S) pC11 lkM_X11_164 rfl hl.1 rfl (Nat.le_of_ble_eq_true rfl) ⟨Nat.le_of_ble_eq_true rfl, Nat.le_of_ble_eq_true rfl⟩ (g_rg (by omega) (by omega) hP0 hPm) dX11_popup_89) V (fun yr14 hr14 kr14 nr14 H locs pr14 V => ?_)
                obtain ⟨gr14, K, I, pA_r14, br14, L, fr14_0, fr14_1⟩ := pr14
                have A := A.wk (l3 := [(122, 1000), (10, 4), (36, 4), (36, 5), (37, 1000), (38, 1000), (129, 2), (129, 3), (129, 4), (129, 5)]) (by decide)
                have A := A.tr pA_r14 (by decide)
                have isr14_1 := gr14.is fr2_0
                have S := S.gr (Z1 := (gW Z yr14)) rfl gr14
                have M := pM.to (gW Z yr14) rfl M
                have GR := GR.tr gr14
                have hP0 : pPh Z ≤ pPh (gW Z yr14) := by omega
                have hPm := K.ph
                refine W.widen (k := pPh (gW Z yr14) - pPh Z) (n := 2 * (pPh (gW Z yr14) - pPh Z)) (by omega) (by omega) ?_
                refine lv_iconst (v := 1) hx hb dX11_popup_92 (by decide) ?_
                have k_1 : (1 : Int32).toInt = 1 := rfl
                exact vx_ret (ge_i (Z := Z) (Z' := (gW Z yr14)) M V rfl rfl hr hlk (pn_z (pi_z (by omega))).1 ⟨GR, K, I, A.wk (by decide), ⟨by omega, by omega, hP0⟩, L, by omega, (show (hr14 129 2).toInt ≤ (h 129 2).toInt + 2 by omega), (show (hr14 129 3).toInt ≤ (h 129 3).toInt + 2 by omega)⟩ (g_re (by omega) (by omega) hPm) dX11_popup_93)
              · skip
                have c_77 := pi_ne c_77
                refine lv_iconst (v := 0) hx hb dX11_popup_80 (by decide) ?_
                exact vx_ret (ge_i (Z := Z) (Z' := Z) M V rfl rfl hr hlk (pn_z (pi_z (by omega))).1 ⟨GR, K, I, A.wk (by decide), ⟨by omega, by omega, hP0⟩, L, by omega, (show (hJ 129 2).toInt ≤ (h 129 2).toInt + 2 by omega), (show (hJ 129 3).toInt ≤ (h 129 3).toInt + 2 by omega)⟩ (g_re (by omega) (by omega) hPm) dX11_popup_81)
          · skip
            have c_58 := pi_eq.mp c_58
            refine lv_iconst (v := 1) hx hb dX11_popup_61 (by decide) ?_
            refine lv_goto (tgt := 66) hx hb dX11_popup_62 (by decide) ?_
            have k_1 : (1 : Int32).toInt = 1 := rfl
            refine xz_v Z rfl rfl (xr_V M V X (m_X11_requireState l hl9 S I (1 : Int32)) km_X11_requireState (c_is_0 S) pC11 lkM_X11_88 rfl hl.1 rfl (Nat.le_of_ble_eq_true rfl) ⟨Nat.le_of_ble_eq_true rfl, Nat.le_of_ble_eq_true rfl⟩ (g_rk (by omega) (by omega)) dX11_popup_66) V (fun E ce q9 yr15 hr15 H locs pr15 V w1 w2 w3 => ?_) (fun yr15 hr15 kr15 nr15 H locs pr15 V => ?_)
            · obtain ⟨hE, e2, I, pA_r15⟩ := pr15
              rw [← e2] at V
              have A := A.wk (l3 := [(0, 10), (22, 5), (36, 4), (36, 5), (122, 1000), (10, 3), (10, 4), (10, 5), (10, 6)]) (by decide)
              have A := A.tr pA_r15 (by decide)
              have L := L.congr (pA_r15.get 129 2 (by decide)) (pA_r15.get 129 3 (by decide))
              have w_r15_129_2 : (hr15 129 2).toInt = (hJ 129 2).toInt := congrArg Int32.toInt (pA_r15.get 129 2 (by decide))
              have w_r15_129_3 : (hr15 129 3).toInt = (hJ 129 3).toInt := congrArg Int32.toInt (pA_r15.get 129 3 (by decide))
              exact xe_out (Z' := Z) V rfl rfl hct hlk w1 w2 w3 ⟨Or.inr hE, GR, K, I, A.wk (by decide), ⟨by omega, by omega, hP0⟩, L, (show (hr15 129 2).toInt ≤ (h 129 2).toInt + 2 by omega), (show (hr15 129 3).toInt ≤ (h 129 3).toInt + 2 by omega)⟩ (g_rx (by omega) (by omega) hPm)
            · obtain ⟨e2, rfl, rfl, rfl, fr15⟩ := pr15
              rw [← e2] at V
              refine lv_aload_n hx hb dX11_popup_69 rfl (lv_at hl 1 rfl) ?_
              refine pg_r M V 11 1 (c_is_0 S) pC11 fk11_1 (c_r_0_1 S) lkF_X11_19 dX11_popup_70 ?_
              refine pg_i M V 3 5 (c_is_10 S) pC3 fk3_5 lkF_X11_179 dX11_popup_73 ?_
              refine lv_topi (fun v16 ev16 => ?_)
              refine lv_iload_n hx hb dX11_popup_76 rfl (lv_at hl 2 rfl) ?_
              refine lv_icmp_eq (tgt := 82) hx hb dX11_popup_77 (by decide) (fun c_77 => ?_) (fun c_77 => ?_)
              · skip
                have c_77 := pi_eq.mp c_77
                refine lv_aload_n hx hb dX11_popup_82 rfl (lv_at hl 1 rfl) ?_
                refine lv_bipush (v := 8) hx hb dX11_popup_83 (by decide) ?_
                refine lv_aload hx hb dX11_popup_85 (lv_at hl 0 rfl) ?_
                refine lv_iload_n hx hb dX11_popup_87 rfl (lv_at hl 3 rfl) ?_
                refine lv_iload_n hx hb dX11_popup_88 rfl (lv_at hl 4 rfl) ?_
                refine gz_v Z rfl rfl (pr_V M V (m_X11_tellPane l S I (8 : Int32) r2 fr2_0 width height K L (by omega)) km_X11_tellPane (c_is_0 S) pC11 lkM_X11_164 rfl hl.1 rfl (Nat.le_of_ble_eq_true rfl) ⟨Nat.le_of_ble_eq_true rfl, Nat.le_of_ble_eq_true rfl⟩ (g_rg (by omega) (by omega) hP0 hPm) dX11_popup_89) V (fun yr17 hr17 kr17 nr17 H locs pr17 V => ?_)
                obtain ⟨gr17, K, I, pA_r17, br17, L, fr17_0, fr17_1⟩ := pr17
                have A := A.wk (l3 := [(122, 1000), (10, 4), (36, 4), (36, 5), (37, 1000), (38, 1000), (129, 2), (129, 3), (129, 4), (129, 5)]) (by decide)
                have A := A.tr pA_r17 (by decide)
                have isr17_1 := gr17.is fr2_0
                have S := S.gr (Z1 := (gW Z yr17)) rfl gr17
                have M := pM.to (gW Z yr17) rfl M
                have GR := GR.tr gr17
                have hP0 : pPh Z ≤ pPh (gW Z yr17) := by omega
                have hPm := K.ph
                refine W.widen (k := pPh (gW Z yr17) - pPh Z) (n := 2 * (pPh (gW Z yr17) - pPh Z)) (by omega) (by omega) ?_
                refine lv_iconst (v := 1) hx hb dX11_popup_92 (by decide) ?_
                exact vx_ret (ge_i (Z := Z) (Z' := (gW Z yr17)) M V rfl rfl hr hlk (pn_z (pi_z (by omega))).1 ⟨GR, K, I, A.wk (by decide), ⟨by omega, by omega, hP0⟩, L, by omega, (show (hr17 129 2).toInt ≤ (h 129 2).toInt + 2 by omega), (show (hr17 129 3).toInt ≤ (h 129 3).toInt + 2 by omega)⟩ (g_re (by omega) (by omega) hPm) dX11_popup_93)
              · skip
                have c_77 := pi_ne c_77
                refine lv_iconst (v := 0) hx hb dX11_popup_80 (by decide) ?_
                exact vx_ret (ge_i (Z := Z) (Z' := Z) M V rfl rfl hr hlk (pn_z (pi_z (by omega))).1 ⟨GR, K, I, A.wk (by decide), ⟨by omega, by omega, hP0⟩, L, by omega, (show (hJ 129 2).toInt ≤ (h 129 2).toInt + 2 by omega), (show (hJ 129 3).toInt ≤ (h 129 3).toInt + 2 by omega)⟩ (g_re (by omega) (by omega) hPm) dX11_popup_81)
  have J_20 : ∀ (hJ : pH) (H : Heap) (locs : List Loc) (ls : Array Slot), pV Z hJ s.heap H locs → Iv Z hJ → pLk Z hJ → agrD [] h hJ → lv_has ls 5 [(0, .ref (zB Z + 0)), (1, .int label), (2, .int width), (3, .int height)] → W p l e (pRm 7 (gmc Z) (gms Z) 168) s m ([.ref (zB Z + 0), .int label, .int width, .int height] : List Value).toArray below meth c H locs (pPh Z - pPh Z) (2 * (pPh Z - pPh Z)) (vx_MQ below (gQi Z (fun r Z1 h1 k n => pGr Z Z1 ∧ pSk Z1 ∧ Iv Z1 h1 ∧ agrD [(122, 1000), (10, 4), (36, 4), (36, 5), (37, 1000), (38, 1000), (129, 2), (129, 3), (129, 4), (129, 5), (0, 10), (22, 5), (10, 3), (10, 5), (10, 6)] h h1 ∧ (k ≤ pPh Z1 - pPh Z ∧ n ≤ 2 * (pPh Z1 - pPh Z) ∧ pPh Z ≤ pPh Z1) ∧ pLk Z1 h1 ∧ (r.toInt = 0 ∨ r.toInt = 1) ∧ ((h1 129 2).toInt ≤ (h 129 2).toInt + 2) ∧ ((h1 129 3).toInt ≤ (h 129 3).toInt + 2))) (gX Z (fun E Z1 h1 k n => (E = xIA ∨ E = xIS) ∧ pGr Z Z1 ∧ pSk Z1 ∧ Iv Z1 h1 ∧ agrD [(122, 1000), (10, 4), (36, 4), (36, 5), (37, 1000), (38, 1000), (129, 2), (129, 3), (129, 4), (129, 5), (0, 10), (22, 5), (10, 3), (10, 5), (10, 6)] h h1 ∧ (k ≤ pPh Z1 - pPh Z + 1 ∧ n ≤ 2 * (pPh Z1 - pPh Z) + 6 ∧ pPh Z ≤ pPh Z1) ∧ pLk Z1 h1 ∧ ((h1 129 2).toInt ≤ (h 129 2).toInt + 2) ∧ ((h1 129 3).toInt ≤ (h 129 3).toInt + 2))) ([.ref (zB Z + 0), .int label, .int width, .int height] : List Value).toArray s (gmc Z) (gms Z) (pA (zB Z))) (F0 m 20 ls [.ref (zB Z + 0)]) := by
    intro hJ H locs ls V I L A hl
    have wJ_129_2 : (hJ 129 2).toInt = (h 129 2).toInt := congrArg Int32.toInt (A.get 129 2 (by decide))
    have wJ_129_3 : (hJ 129 3).toInt = (h 129 3).toInt := congrArg Int32.toInt (A.get 129 3 (by decide))
    refine lv_iconst (v := 0) hx hb dX11_popup_20 (by decide) ?_
    have k_0 : (0 : Int32).toInt = 0 := rfl
    exact J_21 (0 : Int32) _ _ _ _ V I L (A.wk (by decide)) (lv_sub hl [0, 1, 2, 3] rfl) (by omega) 
  refine W.widen (k := pPh Z - pPh Z) (n := 2 * (pPh Z - pPh Z)) (Nat.zero_le _) (Nat.zero_le _) ?_
  refine lv_aload_n hx hb dX11_popup_0 rfl (lv_at hl 0 rfl) ?_
  refine lv_iload_n hx hb dX11_popup_1 rfl (lv_at hl 1 rfl) ?_
  refine pk_i (pr_S M V (m_X11_isLabel l (Z := Z) (h := _) label) km_X11_isLabel lkM_X11_171 rfl hl.1 rfl (Nat.le_of_ble_eq_true rfl) ⟨Nat.le_of_ble_eq_true rfl, Nat.le_of_ble_eq_true rfl⟩ (g_r0 (by omega) (by omega)) dX11_popup_2) V (fun r18 Zr18 hr18 H locs pr18 _ _ V => ?_)
  obtain ⟨rfl, rfl, fr18_0⟩ := pr18
  refine lv_if_eq (tgt := 20) hx hb dX11_popup_5 (by decide) (fun c_5 => ?_) (fun c_5 => ?_)
  · skip
    have k_0 : (0 : Int32).toInt = 0 := rfl
    have c_5 := pi_eq.mp c_5
    exact J_20 _ _ _ _ V I L (A.wk (by decide)) (lv_sub hl [0, 1, 2, 3] rfl) 
  · skip
    have k_0 : (0 : Int32).toInt = 0 := rfl
    have c_5 := pi_ne c_5
    refine lv_iload_n hx hb dX11_popup_8 rfl (lv_at hl 2 rfl) ?_
    refine lv_iload_n hx hb dX11_popup_9 rfl (lv_at hl 3 rfl) ?_
    refine pk_i (pr_S M V (m_X11_isWindowSize l (Z := Z) (h := _) width height) km_X11_isWindowSize lkM_X11_142 rfl hl.1 rfl (Nat.le_of_ble_eq_true rfl) ⟨Nat.le_of_ble_eq_true rfl, Nat.le_of_ble_eq_true rfl⟩ (g_r0 (by omega) (by omega)) dX11_popup_10) V (fun r19 Zr19 hr19 H locs pr19 _ _ V => ?_)
    obtain ⟨rfl, rfl, fr19_0⟩ := pr19
    refine lv_if_eq (tgt := 20) hx hb dX11_popup_13 (by decide) (fun c_13 => ?_) (fun c_13 => ?_)
    · skip
      have c_13 := pi_eq.mp c_13
      exact J_20 _ _ _ _ V I L (A.wk (by decide)) (lv_sub hl [0, 1, 2, 3] rfl) 
    · skip
      have c_13 := pi_ne c_13
      refine lv_iconst (v := 1) hx hb dX11_popup_16 (by decide) ?_
      refine lv_goto (tgt := 21) hx hb dX11_popup_17 (by decide) ?_
      have k_1 : (1 : Int32).toInt = 1 := rfl
      exact J_21 (1 : Int32) _ _ _ _ V I L (A.wk (by decide)) (lv_sub hl [0, 1, 2, 3] rfl) (by omega) 
theorem dX11_group_0 : decode cX11_group 0 = .ok (.aload_n 0, 1) := by decide +kernel
theorem dX11_group_1 : decode cX11_group 1 = .ok (.aload_n 0, 1) := by decide +kernel
theorem dX11_group_2 : decode cX11_group 2 = .ok (.invokevirtual 326, 3) := by decide +kernel
theorem dX11_group_5 : decode cX11_group 5 = .ok (.ifCond .eq 17, 3) := by decide +kernel
theorem dX11_group_8 : decode cX11_group 8 = .ok (.aload_n 0, 1) := by decide +kernel
theorem dX11_group_9 : decode cX11_group 9 = .ok (.getfield 33, 3) := by decide +kernel
theorem dX11_group_12 : decode cX11_group 12 = .ok (.invokevirtual 276, 3) := by decide +kernel
theorem dX11_group_15 : decode cX11_group 15 = .ok (.ifCond .eq 7, 3) := by decide +kernel
theorem dX11_group_18 : decode cX11_group 18 = .ok (.iconst 1, 1) := by decide +kernel
theorem dX11_group_19 : decode cX11_group 19 = .ok (.goto 4, 3) := by decide +kernel
theorem dX11_group_22 : decode cX11_group 22 = .ok (.iconst 0, 1) := by decide +kernel
theorem dX11_group_23 : decode cX11_group 23 = .ok (.invokevirtual 88, 3) := by decide +kernel
theorem dX11_group_26 : decode cX11_group 26 = .ok (.aload_n 0, 1) := by decide +kernel
theorem dX11_group_27 : decode cX11_group 27 = .ok (.getfield 33, 3) := by decide +kernel
theorem dX11_group_30 : decode cX11_group 30 = .ok (.invokevirtual 185, 3) := by decide +kernel
theorem dX11_group_33 : decode cX11_group 33 = .ok (.astore_n 1, 1) := by decide +kernel
theorem dX11_group_34 : decode cX11_group 34 = .ok (.aload_n 1, 1) := by decide +kernel
theorem dX11_group_35 : decode cX11_group 35 = .ok (.aload_n 0, 1) := by decide +kernel
theorem dX11_group_36 : decode cX11_group 36 = .ok (.getfield 124, 3) := by decide +kernel
theorem dX11_group_39 : decode cX11_group 39 = .ok (.invokevirtual 329, 3) := by decide +kernel
theorem dX11_group_42 : decode cX11_group 42 = .ok (.aload_n 0, 1) := by decide +kernel
theorem dX11_group_43 : decode cX11_group 43 = .ok (.iconst 0, 1) := by decide +kernel
theorem dX11_group_44 : decode cX11_group 44 = .ok (.putfield 124, 3) := by decide +kernel
theorem dX11_group_47 : decode cX11_group 47 = .ok (.aload_n 0, 1) := by decide +kernel
theorem dX11_group_48 : decode cX11_group 48 = .ok (.getfield 33, 3) := by decide +kernel
theorem dX11_group_51 : decode cX11_group 51 = .ok (.iconst 4, 1) := by decide +kernel
theorem dX11_group_52 : decode cX11_group 52 = .ok (.aload_n 0, 1) := by decide +kernel
theorem dX11_group_53 : decode cX11_group 53 = .ok (.getfield 33, 3) := by decide +kernel
theorem dX11_group_56 : decode cX11_group 56 = .ok (.invokevirtual 332, 3) := by decide +kernel
theorem dX11_group_59 : decode cX11_group 59 = .ok (.invokevirtual 280, 3) := by decide +kernel
theorem dX11_group_62 : decode cX11_group 62 = .ok (.aload_n 0, 1) := by decide +kernel
theorem dX11_group_63 : decode cX11_group 63 = .ok (.getfield 33, 3) := by decide +kernel
theorem dX11_group_66 : decode cX11_group 66 = .ok (.invokevirtual 185, 3) := by decide +kernel
theorem dX11_group_69 : decode cX11_group 69 = .ok (.astore_n 2, 1) := by decide +kernel
theorem dX11_group_70 : decode cX11_group 70 = .ok (.aload_n 2, 1) := by decide +kernel
theorem dX11_group_71 : decode cX11_group 71 = .ok (.aload_n 1, 1) := by decide +kernel
theorem dX11_group_72 : decode cX11_group 72 = .ok (.getfield 335, 3) := by decide +kernel
theorem dX11_group_75 : decode cX11_group 75 = .ok (.aload_n 1, 1) := by decide +kernel
theorem dX11_group_76 : decode cX11_group 76 = .ok (.getfield 338, 3) := by decide +kernel
theorem dX11_group_79 : decode cX11_group 79 = .ok (.iconst 0, 1) := by decide +kernel
theorem dX11_group_80 : decode cX11_group 80 = .ok (.invokevirtual 308, 3) := by decide +kernel
theorem dX11_group_83 : decode cX11_group 83 = .ok (.aload_n 2, 1) := by decide +kernel
theorem dX11_group_84 : decode cX11_group 84 = .ok (.getfield 312, 3) := by decide +kernel
theorem dX11_group_87 : decode cX11_group 87 = .ok (.aload_n 1, 1) := by decide +kernel
theorem dX11_group_88 : decode cX11_group 88 = .ok (.getfield 312, 3) := by decide +kernel
theorem dX11_group_91 : decode cX11_group 91 = .ok (.invokevirtual 323, 3) := by decide +kernel
theorem dX11_group_94 : decode cX11_group 94 = .ok (.return_, 1) := by decide +kernel
set_option maxHeartbeats 4000000 in
set_option maxRecDepth 100000 in
theorem m_X11_group (l : Launch) (hl9 : l.stackTraces = false) {Z : pZ} (S : pSh Z) {h : pH} (I : Iv Z h) (K : pSk Z) (L : pLk Z h) : xMet l yX11_group cX11_group 3 none 7 (gmc Z) (gms Z) 126 Z h [.ref (zB Z + 0)] (gQv Z (fun Z1 h1 k n => pGr Z Z1 ∧ pSk Z1 ∧ Iv Z1 h1 ∧ agrD [(0, 11), (36, 4), (36, 5), (37, 1000), (38, 1000), (0, 10), (22, 5), (122, 1000), (10, 3), (10, 4), (10, 5), (10, 6)] h h1 ∧ (k ≤ pPh Z1 - pPh Z ∧ n ≤ 2 * (pPh Z1 - pPh Z) ∧ pPh Z ≤ pPh Z1) ∧ pLk Z1 h1 ∧ ((h1 129 2).toInt ≤ (h 129 2).toInt + 0) ∧ ((h1 129 3).toInt ≤ (h 129 3).toInt + 0))) (gX Z (fun E Z1 h1 k n => E = xIS ∧ pGr Z Z1 ∧ pSk Z1 ∧ Iv Z1 h1 ∧ agrD [(0, 11), (36, 4), (36, 5), (37, 1000), (38, 1000), (0, 10), (22, 5), (122, 1000), (10, 3), (10, 4), (10, 5), (10, 6)] h h1 ∧ (k ≤ pPh Z1 - pPh Z + 1 ∧ n ≤ 2 * (pPh Z1 - pPh Z) + 6 ∧ pPh Z ≤ pPh Z1) ∧ pLk Z1 h1 ∧ ((h1 129 2).toInt ≤ (h 129 2).toInt + 0) ∧ ((h1 129 3).toInt ≤ (h 129 3).toInt + 0))) := by
  refine xOfW (lv := [(0, .ref (zB Z + 0))]) (by decide) (Nat.le_of_ble_eq_true rfl) rfl ?_
  intro p e s m below meth c ls M hr hlk hnm V hl hct X
  have hx := M.1.1
  have hb := M.1.2.1
  have A : agrD [] h h := agrD.rf
  have hP0 : pPh Z ≤ pPh Z := Nat.le_refl _
  have hPm := K.ph
  have GR : pGr Z Z := pGr.rf
  have J_23 : ∀ (y23_0 : Int32) (hJ : pH) (H : Heap) (locs : List Loc) (ls : Array Slot), pV Z hJ s.heap H locs → Iv Z hJ → pLk Z hJ → agrD [] h hJ → lv_has ls 3 [(0, .ref (zB Z + 0))] → (0 ≤ y23_0.toInt ∧ y23_0.toInt ≤ 1) → W p l e (pRm 7 (gmc Z) (gms Z) 126) s m ([.ref (zB Z + 0)] : List Value).toArray below meth c H locs (pPh Z - pPh Z) (2 * (pPh Z - pPh Z)) (vx_MQ below (gQv Z (fun Z1 h1 k n => pGr Z Z1 ∧ pSk Z1 ∧ Iv Z1 h1 ∧ agrD [(0, 11), (36, 4), (36, 5), (37, 1000), (38, 1000), (0, 10), (22, 5), (122, 1000), (10, 3), (10, 4), (10, 5), (10, 6)] h h1 ∧ (k ≤ pPh Z1 - pPh Z ∧ n ≤ 2 * (pPh Z1 - pPh Z) ∧ pPh Z ≤ pPh Z1) ∧ pLk Z1 h1 ∧ ((h1 129 2).toInt ≤ (h 129 2).toInt + 0) ∧ ((h1 129 3).toInt ≤ (h 129 3).toInt + 0))) (gX Z (fun E Z1 h1 k n => E = xIS ∧ pGr Z Z1 ∧ pSk Z1 ∧ Iv Z1 h1 ∧ agrD [(0, 11), (36, 4), (36, 5), (37, 1000), (38, 1000), (0, 10), (22, 5), (122, 1000), (10, 3), (10, 4), (10, 5), (10, 6)] h h1 ∧ (k ≤ pPh Z1 - pPh Z + 1 ∧ n ≤ 2 * (pPh Z1 - pPh Z) + 6 ∧ pPh Z ≤ pPh Z1) ∧ pLk Z1 h1 ∧ ((h1 129 2).toInt ≤ (h 129 2).toInt + 0) ∧ ((h1 129 3).toInt ≤ (h 129 3).toInt + 0))) ([.ref (zB Z + 0)] : List Value).toArray s (gmc Z) (gms Z) (pA (zB Z))) (F0 m 23 ls [.int y23_0, .ref (zB Z + 0)]) := by
    intro y23_0 hJ H locs ls V I L A hl gs_23_0
    have wJ_129_2 : (hJ 129 2).toInt = (h 129 2).toInt := congrArg Int32.toInt (A.get 129 2 (by decide))
    have wJ_129_3 : (hJ 129 3).toInt = (h 129 3).toInt := congrArg Int32.toInt (A.get 129 3 (by decide))
    refine xz_v Z rfl rfl (xr_V M V X (m_X11_requireState l hl9 S I y23_0) km_X11_requireState (c_is_0 S) pC11 lkM_X11_88 rfl hl.1 rfl (Nat.le_of_ble_eq_true rfl) ⟨Nat.le_of_ble_eq_true rfl, Nat.le_of_ble_eq_true rfl⟩ (g_rk (by omega) (by omega)) dX11_group_23) V (fun E ce q9 yr1 hr1 H locs pr1 V w1 w2 w3 => ?_) (fun yr1 hr1 kr1 nr1 H locs pr1 V => ?_)
    · obtain ⟨hE, e2, I, pA_r1⟩ := pr1
      rw [← e2] at V
      have A := A.wk (l3 := [(0, 10), (22, 5), (36, 4), (36, 5), (122, 1000), (10, 3), (10, 4), (10, 5), (10, 6)]) (by decide)
      have A := A.tr pA_r1 (by decide)
      have L := L.congr (pA_r1.get 129 2 (by decide)) (pA_r1.get 129 3 (by decide))
      have w_r1_129_2 : (hr1 129 2).toInt = (hJ 129 2).toInt := congrArg Int32.toInt (pA_r1.get 129 2 (by decide))
      have w_r1_129_3 : (hr1 129 3).toInt = (hJ 129 3).toInt := congrArg Int32.toInt (pA_r1.get 129 3 (by decide))
      exact xe_out (Z' := Z) V rfl rfl hct hlk w1 w2 w3 ⟨hE, GR, K, I, A.wk (by decide), ⟨by omega, by omega, hP0⟩, L, (show (hr1 129 2).toInt ≤ (h 129 2).toInt + 0 by omega), (show (hr1 129 3).toInt ≤ (h 129 3).toInt + 0 by omega)⟩ (g_rx (by omega) (by omega) hPm)
    · obtain ⟨e2, rfl, rfl, rfl, fr1⟩ := pr1
      rw [← e2] at V
      refine lv_aload_n hx hb dX11_group_26 rfl (lv_at hl 0 rfl) ?_
      refine pg_r M V 11 3 (c_is_0 S) pC11 fk11_3 (c_r_0_3 S) lkF_X11_33 dX11_group_27 ?_
      refine pk_r (pr_V M V (m_X8_area l S I ) km_X8_area (c_is_36 S) pC8 lkM_X11_185 rfl hl.1 rfl (Nat.le_of_ble_eq_true rfl) ⟨Nat.le_of_ble_eq_true rfl, Nat.le_of_ble_eq_true rfl⟩ (g_r0 (by omega) (by omega)) dX11_group_30) V (fun r2 Zr2 hr2 H locs pr2 _ _ V => ?_)
      obtain ⟨rfl, rfl, fr2_0⟩ := pr2
      refine lv_astore_n (lv' := [(1, .ref (zB Z + r2)), (0, .ref (zB Z + 0))]) hx hb dX11_group_33 rfl hl (by decide) rfl (fun ls hl => ?_)
      refine lv_aload_n hx hb dX11_group_34 rfl (lv_at hl 0 rfl) ?_
      refine lv_aload_n hx hb dX11_group_35 rfl (lv_at hl 1 rfl) ?_
      refine pg_i M V 11 11 (c_is_0 S) pC11 fk11_11 lkF_X11_124 dX11_group_36 ?_
      refine lv_topi (fun v3 ev3 => ?_)
      have tv3 : 0 ≤ v3.toInt ∧ v3.toInt ≤ 1 := by rw [ev3]; exact I.get (c_is_0 S) 11
      refine pk_v (pr_V M V (m_X0_placeCursor l S I r2 fr2_0.1 v3 (by omega)) km_X0_placeCursor fr2_0.1 pC0 lkM_X11_329 rfl hl.1 rfl (Nat.le_of_ble_eq_true rfl) ⟨Nat.le_of_ble_eq_true rfl, Nat.le_of_ble_eq_true rfl⟩ (g_r0 (by omega) (by omega)) dX11_group_39) V (fun Zr4 hr4 H locs pr4 _ _ V => ?_)
      obtain ⟨rfl, I, pA_r4⟩ := pr4
      have A := A.tr pA_r4 (by decide)
      have L := L.congr (pA_r4.get 129 2 (by decide)) (pA_r4.get 129 3 (by decide))
      have w_r4_129_2 : (hr4 129 2).toInt = (hJ 129 2).toInt := congrArg Int32.toInt (pA_r4.get 129 2 (by decide))
      have w_r4_129_3 : (hr4 129 3).toInt = (hJ 129 3).toInt := congrArg Int32.toInt (pA_r4.get 129 3 (by decide))
      refine lv_aload_n hx hb dX11_group_42 rfl (lv_at hl 1 rfl) ?_
      refine lv_iconst (v := 0) hx hb dX11_group_43 (by decide) ?_
      have k_0 : (0 : Int32).toInt = 0 := rfl
      have z_44 : (0 : Int32) = 0 ∨ (0 : Int32) = 1 := pi_z (by omega)
      refine pp_i M V 11 11 (c_is_0 S) pC11 fk11_11 rfl lkF_X11_124 ⟨(pn_z z_44).1, (pn_z z_44).2.1⟩ dX11_group_44 (fun H locs V => ?_)
      have A := A.wk (l3 := [(0, 11)]) (by decide)
      have A := A.up (o := 0) (k := 11) (v := (0 : Int32)) (by decide)
      have I := I.up (k := 11) (v := (0 : Int32)) (c_is_0 S) (show (0 : Int) ≤ (0 : Int32).toInt ∧ (0 : Int32).toInt ≤ (1 : Int) by omega)
      refine lv_aload_n hx hb dX11_group_47 rfl (lv_at hl 1 rfl) ?_
      refine pg_r M V 11 3 (c_is_0 S) pC11 fk11_3 (c_r_0_3 S) lkF_X11_33 dX11_group_48 ?_
      refine lv_iconst (v := 4) hx hb dX11_group_51 (by decide) ?_
      refine lv_aload_n hx hb dX11_group_52 rfl (lv_at hl 1 rfl) ?_
      refine pg_r M V 11 3 (c_is_0 S) pC11 fk11_3 (c_r_0_3 S) lkF_X11_33 dX11_group_53 ?_
      refine pk_i (pr_V M V (m_X8_topId l S I  ) km_X8_topId (c_is_36 S) pC8 lkM_X11_332 rfl hl.1 rfl (Nat.le_of_ble_eq_true rfl) ⟨Nat.le_of_ble_eq_true rfl, Nat.le_of_ble_eq_true rfl⟩ (g_r0 (by omega) (by omega)) dX11_group_56) V (fun r5 Zr5 hr5 H locs pr5 _ _ V => ?_)
      obtain ⟨rfl, I, pA_r5⟩ := pr5
      have A := A.tr pA_r5 (by decide)
      have L := L.congr (pA_r5.get 129 2 (by decide)) (pA_r5.get 129 3 (by decide))
      have w_r5_129_2 : (hr5 129 2).toInt = (hr4 129 2).toInt := congrArg Int32.toInt (pA_r5.get 129 2 (by decide))
      have w_r5_129_3 : (hr5 129 3).toInt = (hr4 129 3).toInt := congrArg Int32.toInt (pA_r5.get 129 3 (by decide))
      refine pk_v (pr_V M V (m_X8_put l S I (4 : Int32) r5 ) km_X8_put (c_is_36 S) pC8 lkM_X11_280 rfl hl.1 rfl (Nat.le_of_ble_eq_true rfl) ⟨Nat.le_of_ble_eq_true rfl, Nat.le_of_ble_eq_true rfl⟩ (g_r0 (by omega) (by omega)) dX11_group_59) V (fun Zr6 hr6 H locs pr6 _ _ V => ?_)
      obtain ⟨rfl, I, pA_r6⟩ := pr6
      have A := A.wk (l3 := [(0, 11), (36, 4), (36, 5), (37, 1000), (38, 1000)]) (by decide)
      have A := A.tr pA_r6 (by decide)
      have L := L.congr (pA_r6.get 129 2 (by decide)) (pA_r6.get 129 3 (by decide))
      have w_r6_129_2 : (hr6 129 2).toInt = (hr5 129 2).toInt := congrArg Int32.toInt (pA_r6.get 129 2 (by decide))
      have w_r6_129_3 : (hr6 129 3).toInt = (hr5 129 3).toInt := congrArg Int32.toInt (pA_r6.get 129 3 (by decide))
      refine lv_aload_n hx hb dX11_group_62 rfl (lv_at hl 1 rfl) ?_
      refine pg_r M V 11 3 (c_is_0 S) pC11 fk11_3 (c_r_0_3 S) lkF_X11_33 dX11_group_63 ?_
      refine pk_r (pr_V M V (m_X8_area l S I ) km_X8_area (c_is_36 S) pC8 lkM_X11_185 rfl hl.1 rfl (Nat.le_of_ble_eq_true rfl) ⟨Nat.le_of_ble_eq_true rfl, Nat.le_of_ble_eq_true rfl⟩ (g_r0 (by omega) (by omega)) dX11_group_66) V (fun r7 Zr7 hr7 H locs pr7 _ _ V => ?_)
      obtain ⟨rfl, rfl, fr7_0⟩ := pr7
      refine lv_astore_n (lv' := [(2, .ref (zB Z + r7)), (1, .ref (zB Z + r2)), (0, .ref (zB Z + 0))]) hx hb dX11_group_69 rfl hl (by decide) rfl (fun ls hl => ?_)
      refine lv_aload_n hx hb dX11_group_70 rfl (lv_at hl 0 rfl) ?_
      refine lv_aload_n hx hb dX11_group_71 rfl (lv_at hl 1 rfl) ?_
      refine pg_i M V 0 4 fr2_0.1 pC0 fk0_4 lkF_X11_335 dX11_group_72 ?_
      refine lv_topi (fun v8 ev8 => ?_)
      refine lv_aload_n hx hb dX11_group_75 rfl (lv_at hl 1 rfl) ?_
      refine pg_i M V 0 5 fr2_0.1 pC0 fk0_5 lkF_X11_338 dX11_group_76 ?_
      refine lv_topi (fun v9 ev9 => ?_)
      refine lv_iconst (v := 0) hx hb dX11_group_79 (by decide) ?_
      refine pk_v (pr_V M V (m_X0_start l S I r7 fr7_0.1 v8 v9 (0 : Int32) ) km_X0_start fr7_0.1 pC0 lkM_X11_308 rfl hl.1 rfl (Nat.le_of_ble_eq_true rfl) ⟨Nat.le_of_ble_eq_true rfl, Nat.le_of_ble_eq_true rfl⟩ (g_r0 (by omega) (by omega)) dX11_group_80) V (fun Zr10 hr10 H locs pr10 _ _ V => ?_)
      obtain ⟨rfl, I, pA_r10⟩ := pr10
      have A := A.tr pA_r10 (by decide)
      have L := L.congr (pA_r10.get 129 2 (by decide)) (pA_r10.get 129 3 (by decide))
      have w_r10_129_2 : (hr10 129 2).toInt = (hr6 129 2).toInt := congrArg Int32.toInt (pA_r10.get 129 2 (by decide))
      have w_r10_129_3 : (hr10 129 3).toInt = (hr6 129 3).toInt := congrArg Int32.toInt (pA_r10.get 129 3 (by decide))
      refine lv_aload_n hx hb dX11_group_83 rfl (lv_at hl 0 rfl) ?_
      refine pg_r M V 0 0 fr7_0.1 pC0 fk0_0 fr7_0.2.1 lkF_X11_312 dX11_group_84 ?_
      refine lv_aload_n hx hb dX11_group_87 rfl (lv_at hl 1 rfl) ?_
      refine pg_r M V 0 0 fr2_0.1 pC0 fk0_0 fr2_0.2.1 lkF_X11_312 dX11_group_88 ?_
      refine pk_v (pr_V M V (m_X2_setLike l S I (r7 + 1) fr7_0.2.2 (r2 + 1) fr2_0.2.2 ) km_X2_setLike fr7_0.2.2 pC2 lkM_X11_323 rfl hl.1 rfl (Nat.le_of_ble_eq_true rfl) ⟨Nat.le_of_ble_eq_true rfl, Nat.le_of_ble_eq_true rfl⟩ (g_r0 (by omega) (by omega)) dX11_group_91) V (fun Zr11 hr11 H locs pr11 _ _ V => ?_)
      obtain ⟨rfl, I, pA_r11⟩ := pr11
      have A := A.tr pA_r11 (by decide)
      have L := L.congr (pA_r11.get 129 2 (by decide)) (pA_r11.get 129 3 (by decide))
      have w_r11_129_2 : (hr11 129 2).toInt = (hr10 129 2).toInt := congrArg Int32.toInt (pA_r11.get 129 2 (by decide))
      have w_r11_129_3 : (hr11 129 3).toInt = (hr10 129 3).toInt := congrArg Int32.toInt (pA_r11.get 129 3 (by decide))
      exact vx_ret (ge_v (Z := Z) (Z' := Z) M V rfl rfl hr hlk ⟨GR, K, I, A.wk (by decide), ⟨by omega, by omega, hP0⟩, L, (show (hr11 129 2).toInt ≤ (h 129 2).toInt + 0 by omega), (show (hr11 129 3).toInt ≤ (h 129 3).toInt + 0 by omega)⟩ (g_re (by omega) (by omega) hPm) dX11_group_94)
  have J_22 : ∀ (hJ : pH) (H : Heap) (locs : List Loc) (ls : Array Slot), pV Z hJ s.heap H locs → Iv Z hJ → pLk Z hJ → agrD [] h hJ → lv_has ls 3 [(0, .ref (zB Z + 0))] → W p l e (pRm 7 (gmc Z) (gms Z) 126) s m ([.ref (zB Z + 0)] : List Value).toArray below meth c H locs (pPh Z - pPh Z) (2 * (pPh Z - pPh Z)) (vx_MQ below (gQv Z (fun Z1 h1 k n => pGr Z Z1 ∧ pSk Z1 ∧ Iv Z1 h1 ∧ agrD [(0, 11), (36, 4), (36, 5), (37, 1000), (38, 1000), (0, 10), (22, 5), (122, 1000), (10, 3), (10, 4), (10, 5), (10, 6)] h h1 ∧ (k ≤ pPh Z1 - pPh Z ∧ n ≤ 2 * (pPh Z1 - pPh Z) ∧ pPh Z ≤ pPh Z1) ∧ pLk Z1 h1 ∧ ((h1 129 2).toInt ≤ (h 129 2).toInt + 0) ∧ ((h1 129 3).toInt ≤ (h 129 3).toInt + 0))) (gX Z (fun E Z1 h1 k n => E = xIS ∧ pGr Z Z1 ∧ pSk Z1 ∧ Iv Z1 h1 ∧ agrD [(0, 11), (36, 4), (36, 5), (37, 1000), (38, 1000), (0, 10), (22, 5), (122, 1000), (10, 3), (10, 4), (10, 5), (10, 6)] h h1 ∧ (k ≤ pPh Z1 - pPh Z + 1 ∧ n ≤ 2 * (pPh Z1 - pPh Z) + 6 ∧ pPh Z ≤ pPh Z1) ∧ pLk Z1 h1 ∧ ((h1 129 2).toInt ≤ (h 129 2).toInt + 0) ∧ ((h1 129 3).toInt ≤ (h 129 3).toInt + 0))) ([.ref (zB Z + 0)] : List Value).toArray s (gmc Z) (gms Z) (pA (zB Z))) (F0 m 22 ls [.ref (zB Z + 0)]) := by
    intro hJ H locs ls V I L A hl
    have wJ_129_2 : (hJ 129 2).toInt = (h 129 2).toInt := congrArg Int32.toInt (A.get 129 2 (by decide))
    have wJ_129_3 : (hJ 129 3).toInt = (h 129 3).toInt := congrArg Int32.toInt (A.get 129 3 (by decide))
    refine lv_iconst (v := 0) hx hb dX11_group_22 (by decide) ?_
    have k_0 : (0 : Int32).toInt = 0 := rfl
    exact J_23 (0 : Int32) _ _ _ _ V I L (A.wk (by decide)) (lv_sub hl [0] rfl) (by omega) 
  refine W.widen (k := pPh Z - pPh Z) (n := 2 * (pPh Z - pPh Z)) (Nat.zero_le _) (Nat.zero_le _) ?_
  refine lv_aload_n hx hb dX11_group_0 rfl (lv_at hl 0 rfl) ?_
  refine lv_aload_n hx hb dX11_group_1 rfl (lv_at hl 0 rfl) ?_
  refine pk_i (pr_V M V (m_X11_isWindowOpen l S I) km_X11_isWindowOpen (c_is_0 S) pC11 lkM_X11_326 rfl hl.1 rfl (Nat.le_of_ble_eq_true rfl) ⟨Nat.le_of_ble_eq_true rfl, Nat.le_of_ble_eq_true rfl⟩ (g_r0 (by omega) (by omega)) dX11_group_2) V (fun r12 Zr12 hr12 H locs pr12 _ _ V => ?_)
  obtain ⟨rfl, rfl, fr12_0⟩ := pr12
  refine lv_if_eq (tgt := 22) hx hb dX11_group_5 (by decide) (fun c_5 => ?_) (fun c_5 => ?_)
  · skip
    have k_0 : (0 : Int32).toInt = 0 := rfl
    have c_5 := pi_eq.mp c_5
    exact J_22 _ _ _ _ V I L (A.wk (by decide)) (lv_sub hl [0] rfl) 
  · skip
    have k_0 : (0 : Int32).toInt = 0 := rfl
    have c_5 := pi_ne c_5
    refine lv_aload_n hx hb dX11_group_8 rfl (lv_at hl 0 rfl) ?_
    refine pg_r M V 11 3 (c_is_0 S) pC11 fk11_3 (c_r_0_3 S) lkF_X11_33 dX11_group_9 ?_
    refine pk_i (pr_V M V (m_X8_hasRoom l S I  ) km_X8_hasRoom (c_is_36 S) pC8 lkM_X11_276 rfl hl.1 rfl (Nat.le_of_ble_eq_true rfl) ⟨Nat.le_of_ble_eq_true rfl, Nat.le_of_ble_eq_true rfl⟩ (g_r0 (by omega) (by omega)) dX11_group_12) V (fun r13 Zr13 hr13 H locs pr13 _ _ V => ?_)
    obtain ⟨rfl, I, pA_r13, fr13_0⟩ := pr13
    have A := A.tr pA_r13 (by decide)
    have L := L.congr (pA_r13.get 129 2 (by decide)) (pA_r13.get 129 3 (by decide))
    have w_r13_129_2 : (hr13 129 2).toInt = (h 129 2).toInt := congrArg Int32.toInt (pA_r13.get 129 2 (by decide))
    have w_r13_129_3 : (hr13 129 3).toInt = (h 129 3).toInt := congrArg Int32.toInt (pA_r13.get 129 3 (by decide))
    refine lv_if_eq (tgt := 22) hx hb dX11_group_15 (by decide) (fun c_15 => ?_) (fun c_15 => ?_)
    · skip
      have c_15 := pi_eq.mp c_15
      exact J_22 _ _ _ _ V I L (A.wk (by decide)) (lv_sub hl [0] rfl) 
    · skip
      have c_15 := pi_ne c_15
      refine lv_iconst (v := 1) hx hb dX11_group_18 (by decide) ?_
      refine lv_goto (tgt := 23) hx hb dX11_group_19 (by decide) ?_
      have k_1 : (1 : Int32).toInt = 1 := rfl
      exact J_23 (1 : Int32) _ _ _ _ V I L (A.wk (by decide)) (lv_sub hl [0] rfl) (by omega) 
theorem dX11_close_0 : decode cX11_close 0 = .ok (.aload_n 0, 1) := by decide +kernel
theorem dX11_close_1 : decode cX11_close 1 = .ok (.aload_n 0, 1) := by decide +kernel
theorem dX11_close_2 : decode cX11_close 2 = .ok (.getfield 84, 3) := by decide +kernel
theorem dX11_close_5 : decode cX11_close 5 = .ok (.ifCond .eq 17, 3) := by decide +kernel
theorem dX11_close_8 : decode cX11_close 8 = .ok (.aload_n 0, 1) := by decide +kernel
theorem dX11_close_9 : decode cX11_close 9 = .ok (.getfield 33, 3) := by decide +kernel
theorem dX11_close_12 : decode cX11_close 12 = .ok (.getfield 127, 3) := by decide +kernel
theorem dX11_close_15 : decode cX11_close 15 = .ok (.ifCond .le 7, 3) := by decide +kernel
theorem dX11_close_18 : decode cX11_close 18 = .ok (.iconst 1, 1) := by decide +kernel
theorem dX11_close_19 : decode cX11_close 19 = .ok (.goto 4, 3) := by decide +kernel
theorem dX11_close_22 : decode cX11_close 22 = .ok (.iconst 0, 1) := by decide +kernel
theorem dX11_close_23 : decode cX11_close 23 = .ok (.invokevirtual 88, 3) := by decide +kernel
theorem dX11_close_26 : decode cX11_close 26 = .ok (.aload_n 0, 1) := by decide +kernel
theorem dX11_close_27 : decode cX11_close 27 = .ok (.getfield 33, 3) := by decide +kernel
theorem dX11_close_30 : decode cX11_close 30 = .ok (.invokevirtual 182, 3) := by decide +kernel
theorem dX11_close_33 : decode cX11_close 33 = .ok (.istore_n 1, 1) := by decide +kernel
theorem dX11_close_34 : decode cX11_close 34 = .ok (.aload_n 0, 1) := by decide +kernel
theorem dX11_close_35 : decode cX11_close 35 = .ok (.getfield 33, 3) := by decide +kernel
theorem dX11_close_38 : decode cX11_close 38 = .ok (.invokevirtual 185, 3) := by decide +kernel
theorem dX11_close_41 : decode cX11_close 41 = .ok (.astore_n 2, 1) := by decide +kernel
theorem dX11_close_42 : decode cX11_close 42 = .ok (.aload_n 0, 1) := by decide +kernel
theorem dX11_close_43 : decode cX11_close 43 = .ok (.getfield 33, 3) := by decide +kernel
theorem dX11_close_46 : decode cX11_close 46 = .ok (.iload_n 1, 1) := by decide +kernel
theorem dX11_close_47 : decode cX11_close 47 = .ok (.invokevirtual 189, 3) := by decide +kernel
theorem dX11_close_50 : decode cX11_close 50 = .ok (.iload_n 1, 1) := by decide +kernel
theorem dX11_close_51 : decode cX11_close 51 = .ok (.ifCond .ne 11, 3) := by decide +kernel
theorem dX11_close_54 : decode cX11_close 54 = .ok (.aload_n 0, 1) := by decide +kernel
theorem dX11_close_55 : decode cX11_close 55 = .ok (.aload_n 2, 1) := by decide +kernel
theorem dX11_close_56 : decode cX11_close 56 = .ok (.invokevirtual 193, 3) := by decide +kernel
theorem dX11_close_59 : decode cX11_close 59 = .ok (.goto 87, 3) := by decide +kernel
theorem dX11_close_62 : decode cX11_close 62 = .ok (.iload_n 1, 1) := by decide +kernel
theorem dX11_close_63 : decode cX11_close 63 = .ok (.iconst 1, 1) := by decide +kernel
theorem dX11_close_64 : decode cX11_close 64 = .ok (.if_icmp .ne 21, 3) := by decide +kernel
theorem dX11_close_67 : decode cX11_close 67 = .ok (.aload_n 0, 1) := by decide +kernel
theorem dX11_close_68 : decode cX11_close 68 = .ok (.getfield 26, 3) := by decide +kernel
theorem dX11_close_71 : decode cX11_close 71 = .ok (.aload_n 2, 1) := by decide +kernel
theorem dX11_close_72 : decode cX11_close 72 = .ok (.getfield 197, 3) := by decide +kernel
theorem dX11_close_75 : decode cX11_close 75 = .ok (.aload_n 2, 1) := by decide +kernel
theorem dX11_close_76 : decode cX11_close 76 = .ok (.invokevirtual 202, 3) := by decide +kernel
theorem dX11_close_79 : decode cX11_close 79 = .ok (.invokevirtual 205, 3) := by decide +kernel
theorem dX11_close_82 : decode cX11_close 82 = .ok (.goto 64, 3) := by decide +kernel
theorem dX11_close_85 : decode cX11_close 85 = .ok (.iload_n 1, 1) := by decide +kernel
theorem dX11_close_86 : decode cX11_close 86 = .ok (.iconst 2, 1) := by decide +kernel
theorem dX11_close_87 : decode cX11_close 87 = .ok (.if_icmp .ne 17, 3) := by decide +kernel
theorem dX11_close_90 : decode cX11_close 90 = .ok (.aload_n 2, 1) := by decide +kernel
theorem dX11_close_91 : decode cX11_close 91 = .ok (.dup, 1) := by decide +kernel
theorem dX11_close_92 : decode cX11_close 92 = .ok (.getfield 208, 3) := by decide +kernel
theorem dX11_close_95 : decode cX11_close 95 = .ok (.bipush 10, 2) := by decide +kernel
theorem dX11_close_97 : decode cX11_close 97 = .ok (.isub, 1) := by decide +kernel
theorem dX11_close_98 : decode cX11_close 98 = .ok (.putfield 208, 3) := by decide +kernel
theorem dX11_close_101 : decode cX11_close 101 = .ok (.goto 45, 3) := by decide +kernel
theorem dX11_close_104 : decode cX11_close 104 = .ok (.iload_n 1, 1) := by decide +kernel
theorem dX11_close_105 : decode cX11_close 105 = .ok (.iconst 4, 1) := by decide +kernel
theorem dX11_close_106 : decode cX11_close 106 = .ok (.if_icmp .ne 40, 3) := by decide +kernel
theorem dX11_close_109 : decode cX11_close 109 = .ok (.aload_n 0, 1) := by decide +kernel
theorem dX11_close_110 : decode cX11_close 110 = .ok (.getfield 64, 3) := by decide +kernel
theorem dX11_close_113 : decode cX11_close 113 = .ok (.aload_n 2, 1) := by decide +kernel
theorem dX11_close_114 : decode cX11_close 114 = .ok (.getfield 211, 3) := by decide +kernel
theorem dX11_close_117 : decode cX11_close 117 = .ok (.aload_n 2, 1) := by decide +kernel
theorem dX11_close_118 : decode cX11_close 118 = .ok (.getfield 214, 3) := by decide +kernel
theorem dX11_close_121 : decode cX11_close 121 = .ok (.aload_n 2, 1) := by decide +kernel
theorem dX11_close_122 : decode cX11_close 122 = .ok (.getfield 217, 3) := by decide +kernel
theorem dX11_close_125 : decode cX11_close 125 = .ok (.aload_n 2, 1) := by decide +kernel
theorem dX11_close_126 : decode cX11_close 126 = .ok (.getfield 220, 3) := by decide +kernel
theorem dX11_close_129 : decode cX11_close 129 = .ok (.invokevirtual 223, 3) := by decide +kernel
theorem dX11_close_132 : decode cX11_close 132 = .ok (.aload_n 0, 1) := by decide +kernel
theorem dX11_close_133 : decode cX11_close 133 = .ok (.getfield 33, 3) := by decide +kernel
theorem dX11_close_136 : decode cX11_close 136 = .ok (.invokevirtual 185, 3) := by decide +kernel
theorem dX11_close_139 : decode cX11_close 139 = .ok (.aload_n 0, 1) := by decide +kernel
theorem dX11_close_140 : decode cX11_close 140 = .ok (.getfield 64, 3) := by decide +kernel
theorem dX11_close_143 : decode cX11_close 143 = .ok (.invokevirtual 227, 3) := by decide +kernel
theorem dX11_close_146 : decode cX11_close 146 = .ok (.iload_n 1, 1) := by decide +kernel
theorem dX11_close_147 : decode cX11_close 147 = .ok (.ireturn, 1) := by decide +kernel
set_option maxHeartbeats 4000000 in
set_option maxRecDepth 100000 in
theorem m_X11_close (l : Launch) (hl9 : l.stackTraces = false) {Z : pZ} (S : pSh Z) {h : pH} (I : Iv Z h) (K : pSk Z) (L : pLk Z h) : xMet l yX11_close cX11_close 3 (some .int) 7 (gmc Z) (gms Z) 126 Z h [.ref (zB Z + 0)] (gQi Z (fun r Z1 h1 k n => pGr Z Z1 ∧ pSk Z1 ∧ Iv Z1 h1 ∧ agrD [(10, 4), (24, 1000), (0, 10), (22, 5), (36, 4), (36, 5), (122, 1000), (10, 3), (10, 5), (10, 6)] h h1 ∧ (k ≤ pPh Z1 - pPh Z ∧ n ≤ 2 * (pPh Z1 - pPh Z) ∧ pPh Z ≤ pPh Z1) ∧ pLk Z1 h1 ∧ ((h1 129 2).toInt ≤ (h 129 2).toInt + 0) ∧ ((h1 129 3).toInt ≤ (h 129 3).toInt + 0))) (gX Z (fun E Z1 h1 k n => E = xIS ∧ pGr Z Z1 ∧ pSk Z1 ∧ Iv Z1 h1 ∧ agrD [(10, 4), (24, 1000), (0, 10), (22, 5), (36, 4), (36, 5), (122, 1000), (10, 3), (10, 5), (10, 6)] h h1 ∧ (k ≤ pPh Z1 - pPh Z + 1 ∧ n ≤ 2 * (pPh Z1 - pPh Z) + 6 ∧ pPh Z ≤ pPh Z1) ∧ pLk Z1 h1 ∧ ((h1 129 2).toInt ≤ (h 129 2).toInt + 0) ∧ ((h1 129 3).toInt ≤ (h 129 3).toInt + 0))) := by
  refine xOfW (lv := [(0, .ref (zB Z + 0))]) (by decide) (Nat.le_of_ble_eq_true rfl) rfl ?_
  intro p e s m below meth c ls M hr hlk hnm V hl hct X
  have hx := M.1.1
  have hb := M.1.2.1
  have A : agrD [] h h := agrD.rf
  have hP0 : pPh Z ≤ pPh Z := Nat.le_refl _
  have hPm := K.ph
  have GR : pGr Z Z := pGr.rf
  have J_23 : ∀ (y23_0 : Int32) (hJ : pH) (H : Heap) (locs : List Loc) (ls : Array Slot), pV Z hJ s.heap H locs → Iv Z hJ → pLk Z hJ → agrD [] h hJ → lv_has ls 3 [(0, .ref (zB Z + 0))] → (0 ≤ y23_0.toInt ∧ y23_0.toInt ≤ 1) → W p l e (pRm 7 (gmc Z) (gms Z) 126) s m ([.ref (zB Z + 0)] : List Value).toArray below meth c H locs (pPh Z - pPh Z) (2 * (pPh Z - pPh Z)) (vx_MQ below (gQi Z (fun r Z1 h1 k n => pGr Z Z1 ∧ pSk Z1 ∧ Iv Z1 h1 ∧ agrD [(10, 4), (24, 1000), (0, 10), (22, 5), (36, 4), (36, 5), (122, 1000), (10, 3), (10, 5), (10, 6)] h h1 ∧ (k ≤ pPh Z1 - pPh Z ∧ n ≤ 2 * (pPh Z1 - pPh Z) ∧ pPh Z ≤ pPh Z1) ∧ pLk Z1 h1 ∧ ((h1 129 2).toInt ≤ (h 129 2).toInt + 0) ∧ ((h1 129 3).toInt ≤ (h 129 3).toInt + 0))) (gX Z (fun E Z1 h1 k n => E = xIS ∧ pGr Z Z1 ∧ pSk Z1 ∧ Iv Z1 h1 ∧ agrD [(10, 4), (24, 1000), (0, 10), (22, 5), (36, 4), (36, 5), (122, 1000), (10, 3), (10, 5), (10, 6)] h h1 ∧ (k ≤ pPh Z1 - pPh Z + 1 ∧ n ≤ 2 * (pPh Z1 - pPh Z) + 6 ∧ pPh Z ≤ pPh Z1) ∧ pLk Z1 h1 ∧ ((h1 129 2).toInt ≤ (h 129 2).toInt + 0) ∧ ((h1 129 3).toInt ≤ (h 129 3).toInt + 0))) ([.ref (zB Z + 0)] : List Value).toArray s (gmc Z) (gms Z) (pA (zB Z))) (F0 m 23 ls [.int y23_0, .ref (zB Z + 0)]) := by
    intro y23_0 hJ H locs ls V I L A hl gs_23_0
    have wJ_129_2 : (hJ 129 2).toInt = (h 129 2).toInt := congrArg Int32.toInt (A.get 129 2 (by decide))
    have wJ_129_3 : (hJ 129 3).toInt = (h 129 3).toInt := congrArg Int32.toInt (A.get 129 3 (by decide))
    refine xz_v Z rfl rfl (xr_V M V X (m_X11_requireState l hl9 S I y23_0) km_X11_requireState (c_is_0 S) pC11 lkM_X11_88 rfl hl.1 rfl (Nat.le_of_ble_eq_true rfl) ⟨Nat.le_of_ble_eq_true rfl, Nat.le_of_ble_eq_true rfl⟩ (g_rk (by omega) (by omega)) dX11_close_23) V (fun E ce q9 yr1 hr1 H locs pr1 V w1 w2 w3 => ?_) (fun yr1 hr1 kr1 nr1 H locs pr1 V => ?_)
    · obtain ⟨hE, e2, I, pA_r1⟩ := pr1
      rw [← e2] at V
      have A := A.wk (l3 := [(0, 10), (22, 5), (36, 4), (36, 5), (122, 1000), (10, 3), (10, 4), (10, 5), (10, 6)]) (by decide)
      have A := A.tr pA_r1 (by decide)
      have L := L.congr (pA_r1.get 129 2 (by decide)) (pA_r1.get 129 3 (by decide))
      have w_r1_129_2 : (hr1 129 2).toInt = (hJ 129 2).toInt := congrArg Int32.toInt (pA_r1.get 129 2 (by decide))
      have w_r1_129_3 : (hr1 129 3).toInt = (hJ 129 3).toInt := congrArg Int32.toInt (pA_r1.get 129 3 (by decide))
      exact xe_out (Z' := Z) V rfl rfl hct hlk w1 w2 w3 ⟨hE, GR, K, I, A.wk (by decide), ⟨by omega, by omega, hP0⟩, L, (show (hr1 129 2).toInt ≤ (h 129 2).toInt + 0 by omega), (show (hr1 129 3).toInt ≤ (h 129 3).toInt + 0 by omega)⟩ (g_rx (by omega) (by omega) hPm)
    · obtain ⟨e2, rfl, rfl, rfl, fr1⟩ := pr1
      rw [← e2] at V
      refine lv_aload_n hx hb dX11_close_26 rfl (lv_at hl 0 rfl) ?_
      refine pg_r M V 11 3 (c_is_0 S) pC11 fk11_3 (c_r_0_3 S) lkF_X11_33 dX11_close_27 ?_
      refine pk_i (pr_V M V (m_X8_topKind l S I  ) km_X8_topKind (c_is_36 S) pC8 lkM_X11_182 rfl hl.1 rfl (Nat.le_of_ble_eq_true rfl) ⟨Nat.le_of_ble_eq_true rfl, Nat.le_of_ble_eq_true rfl⟩ (g_r0 (by omega) (by omega)) dX11_close_30) V (fun r2 Zr2 hr2 H locs pr2 _ _ V => ?_)
      obtain ⟨rfl, I, pA_r2⟩ := pr2
      have A := A.tr pA_r2 (by decide)
      have L := L.congr (pA_r2.get 129 2 (by decide)) (pA_r2.get 129 3 (by decide))
      have w_r2_129_2 : (hr2 129 2).toInt = (hJ 129 2).toInt := congrArg Int32.toInt (pA_r2.get 129 2 (by decide))
      have w_r2_129_3 : (hr2 129 3).toInt = (hJ 129 3).toInt := congrArg Int32.toInt (pA_r2.get 129 3 (by decide))
      refine lv_istore_n (lv' := [(1, .int r2), (0, .ref (zB Z + 0))]) hx hb dX11_close_33 rfl hl (by decide) rfl (fun ls hl => ?_)
      refine lv_aload_n hx hb dX11_close_34 rfl (lv_at hl 1 rfl) ?_
      refine pg_r M V 11 3 (c_is_0 S) pC11 fk11_3 (c_r_0_3 S) lkF_X11_33 dX11_close_35 ?_
      refine pk_r (pr_V M V (m_X8_area l S I ) km_X8_area (c_is_36 S) pC8 lkM_X11_185 rfl hl.1 rfl (Nat.le_of_ble_eq_true rfl) ⟨Nat.le_of_ble_eq_true rfl, Nat.le_of_ble_eq_true rfl⟩ (g_r0 (by omega) (by omega)) dX11_close_38) V (fun r3 Zr3 hr3 H locs pr3 _ _ V => ?_)
      obtain ⟨rfl, rfl, fr3_0⟩ := pr3
      refine lv_astore_n (lv' := [(2, .ref (zB Z + r3)), (1, .int r2), (0, .ref (zB Z + 0))]) hx hb dX11_close_41 rfl hl (by decide) rfl (fun ls hl => ?_)
      refine lv_aload_n hx hb dX11_close_42 rfl (lv_at hl 2 rfl) ?_
      refine pg_r M V 11 3 (c_is_0 S) pC11 fk11_3 (c_r_0_3 S) lkF_X11_33 dX11_close_43 ?_
      refine lv_iload_n hx hb dX11_close_46 rfl (lv_at hl 1 rfl) ?_
      refine pk_v (pr_V M V (m_X8_drop l S I r2 ) km_X8_drop (c_is_36 S) pC8 lkM_X11_189 rfl hl.1 rfl (Nat.le_of_ble_eq_true rfl) ⟨Nat.le_of_ble_eq_true rfl, Nat.le_of_ble_eq_true rfl⟩ (g_r0 (by omega) (by omega)) dX11_close_47) V (fun Zr4 hr4 H locs pr4 _ _ V => ?_)
      obtain ⟨rfl, I, pA_r4⟩ := pr4
      have A := A.wk (l3 := [(36, 4), (36, 5)]) (by decide)
      have A := A.tr pA_r4 (by decide)
      have L := L.congr (pA_r4.get 129 2 (by decide)) (pA_r4.get 129 3 (by decide))
      have w_r4_129_2 : (hr4 129 2).toInt = (hr2 129 2).toInt := congrArg Int32.toInt (pA_r4.get 129 2 (by decide))
      have w_r4_129_3 : (hr4 129 3).toInt = (hr2 129 3).toInt := congrArg Int32.toInt (pA_r4.get 129 3 (by decide))
      refine lv_iload_n hx hb dX11_close_50 rfl (lv_at hl 1 rfl) ?_
      refine lv_if_ne (tgt := 62) hx hb dX11_close_51 (by decide) (fun c_51 => ?_) (fun c_51 => ?_)
      · skip
        have k_0 : (0 : Int32).toInt = 0 := rfl
        have c_51 := pi_ne c_51
        refine lv_iload_n hx hb dX11_close_62 rfl (lv_at hl 1 rfl) ?_
        refine lv_iconst (v := 1) hx hb dX11_close_63 (by decide) ?_
        refine lv_icmp_ne (tgt := 85) hx hb dX11_close_64 (by decide) (fun c_64 => ?_) (fun c_64 => ?_)
        · skip
          have k_1 : (1 : Int32).toInt = 1 := rfl
          have c_64 := pi_ne c_64
          refine lv_iload_n hx hb dX11_close_85 rfl (lv_at hl 1 rfl) ?_
          refine lv_iconst (v := 2) hx hb dX11_close_86 (by decide) ?_
          refine lv_icmp_ne (tgt := 104) hx hb dX11_close_87 (by decide) (fun c_87 => ?_) (fun c_87 => ?_)
          · skip
            have k_2 : (2 : Int32).toInt = 2 := rfl
            have c_87 := pi_ne c_87
            refine lv_iload_n hx hb dX11_close_104 rfl (lv_at hl 1 rfl) ?_
            refine lv_iconst (v := 4) hx hb dX11_close_105 (by decide) ?_
            refine lv_icmp_ne (tgt := 146) hx hb dX11_close_106 (by decide) (fun c_106 => ?_) (fun c_106 => ?_)
            · skip
              have k_4 : (4 : Int32).toInt = 4 := rfl
              have c_106 := pi_ne c_106
              refine lv_iload_n hx hb dX11_close_146 rfl (lv_at hl 1 rfl) ?_
              exact vx_ret (ge_i (Z := Z) (Z' := Z) M V rfl rfl hr hlk rfl ⟨GR, K, I, A.wk (by decide), ⟨by omega, by omega, hP0⟩, L, (show (hr4 129 2).toInt ≤ (h 129 2).toInt + 0 by omega), (show (hr4 129 3).toInt ≤ (h 129 3).toInt + 0 by omega)⟩ (g_re (by omega) (by omega) hPm) dX11_close_147)
            · skip
              have k_4 : (4 : Int32).toInt = 4 := rfl
              have c_106 := pi_eq.mp c_106
              refine lv_aload_n hx hb dX11_close_109 rfl (lv_at hl 2 rfl) ?_
              refine pg_r M V 11 8 (c_is_0 S) pC11 fk11_8 (c_r_0_8 S) lkF_X11_64 dX11_close_110 ?_
              refine lv_aload_n hx hb dX11_close_113 rfl (lv_at hl 0 rfl) ?_
              refine pg_i M V 0 1 fr3_0.1 pC0 fk0_1 lkF_X11_211 dX11_close_114 ?_
              refine lv_topi (fun v5 ev5 => ?_)
              refine lv_aload_n hx hb dX11_close_117 rfl (lv_at hl 0 rfl) ?_
              refine pg_i M V 0 2 fr3_0.1 pC0 fk0_2 lkF_X11_214 dX11_close_118 ?_
              refine lv_topi (fun v6 ev6 => ?_)
              refine lv_aload_n hx hb dX11_close_121 rfl (lv_at hl 0 rfl) ?_
              refine pg_i M V 0 9 fr3_0.1 pC0 fk0_9 lkF_X11_217 dX11_close_122 ?_
              refine lv_topi (fun v7 ev7 => ?_)
              refine lv_aload_n hx hb dX11_close_125 rfl (lv_at hl 0 rfl) ?_
              refine pg_i M V 0 8 fr3_0.1 pC0 fk0_8 lkF_X11_220 dX11_close_126 ?_
              refine lv_topi (fun v8 ev8 => ?_)
              refine pk_v (pr_V M V (m_X2_set l S I 135 (c_is_135 S) v5 v6 v7 v8 ) km_X2_set (c_is_135 S) pC2 lkM_X11_223 rfl hl.1 rfl (Nat.le_of_ble_eq_true rfl) ⟨Nat.le_of_ble_eq_true rfl, Nat.le_of_ble_eq_true rfl⟩ (g_r0 (by omega) (by omega)) dX11_close_129) V (fun Zr9 hr9 H locs pr9 _ _ V => ?_)
              obtain ⟨rfl, I, pA_r9⟩ := pr9
              have A := A.tr pA_r9 (by decide)
              have L := L.congr (pA_r9.get 129 2 (by decide)) (pA_r9.get 129 3 (by decide))
              have w_r9_129_2 : (hr9 129 2).toInt = (hr4 129 2).toInt := congrArg Int32.toInt (pA_r9.get 129 2 (by decide))
              have w_r9_129_3 : (hr9 129 3).toInt = (hr4 129 3).toInt := congrArg Int32.toInt (pA_r9.get 129 3 (by decide))
              refine lv_aload_n hx hb dX11_close_132 rfl (lv_at hl 2 rfl) ?_
              refine pg_r M V 11 3 (c_is_0 S) pC11 fk11_3 (c_r_0_3 S) lkF_X11_33 dX11_close_133 ?_
              refine pk_r (pr_V M V (m_X8_area l S I ) km_X8_area (c_is_36 S) pC8 lkM_X11_185 rfl hl.1 rfl (Nat.le_of_ble_eq_true rfl) ⟨Nat.le_of_ble_eq_true rfl, Nat.le_of_ble_eq_true rfl⟩ (g_r0 (by omega) (by omega)) dX11_close_136) V (fun r10 Zr10 hr10 H locs pr10 _ _ V => ?_)
              obtain ⟨rfl, rfl, fr10_0⟩ := pr10
              refine lv_aload_n hx hb dX11_close_139 rfl (lv_at hl 2 rfl) ?_
              refine pg_r M V 11 8 (c_is_0 S) pC11 fk11_8 (c_r_0_8 S) lkF_X11_64 dX11_close_140 ?_
              refine pk_v (pr_V M V (m_X0_addItem l S I r10 fr10_0.1 135 (c_is_135 S) ) km_X0_addItem fr10_0.1 pC0 lkM_X11_227 rfl hl.1 rfl (Nat.le_of_ble_eq_true rfl) ⟨Nat.le_of_ble_eq_true rfl, Nat.le_of_ble_eq_true rfl⟩ (g_r0 (by omega) (by omega)) dX11_close_143) V (fun Zr11 hr11 H locs pr11 _ _ V => ?_)
              obtain ⟨rfl, I, pA_r11⟩ := pr11
              have A := A.tr pA_r11 (by decide)
              have L := L.congr (pA_r11.get 129 2 (by decide)) (pA_r11.get 129 3 (by decide))
              have w_r11_129_2 : (hr11 129 2).toInt = (hr9 129 2).toInt := congrArg Int32.toInt (pA_r11.get 129 2 (by decide))
              have w_r11_129_3 : (hr11 129 3).toInt = (hr9 129 3).toInt := congrArg Int32.toInt (pA_r11.get 129 3 (by decide))
              refine lv_iload_n hx hb dX11_close_146 rfl (lv_at hl 1 rfl) ?_
              exact vx_ret (ge_i (Z := Z) (Z' := Z) M V rfl rfl hr hlk rfl ⟨GR, K, I, A.wk (by decide), ⟨by omega, by omega, hP0⟩, L, (show (hr11 129 2).toInt ≤ (h 129 2).toInt + 0 by omega), (show (hr11 129 3).toInt ≤ (h 129 3).toInt + 0 by omega)⟩ (g_re (by omega) (by omega) hPm) dX11_close_147)
          · skip
            have k_2 : (2 : Int32).toInt = 2 := rfl
            have c_87 := pi_eq.mp c_87
            refine lv_aload_n hx hb dX11_close_90 rfl (lv_at hl 0 rfl) ?_
            refine lv_dup hx hb dX11_close_91 rfl ?_
            refine pg_i M V 0 3 fr3_0.1 pC0 fk0_3 lkF_X11_208 dX11_close_92 ?_
            refine lv_topi (fun v12 ev12 => ?_)
            refine lv_bipush (v := 10) hx hb dX11_close_95 (by decide) ?_
            refine lv_isub hx hb dX11_close_97 ?_
            refine lv_topi (fun v13 ev13 => ?_)
            refine gp_i M V I S 0 3 fr3_0.1 (by decide) pC0 fk0_3 rfl lkF_X11_208 ⟨rfl, rfl⟩ (pi_full _) dX11_close_98 (fun H locs hr14 I pA_r14 V => ?_)
            have A := A.tr pA_r14 (by decide)
            have L := L.congr (pA_r14.get 129 2 (by decide)) (pA_r14.get 129 3 (by decide))
            have w_r14_129_2 : (hr14 129 2).toInt = (hr4 129 2).toInt := congrArg Int32.toInt (pA_r14.get 129 2 (by decide))
            have w_r14_129_3 : (hr14 129 3).toInt = (hr4 129 3).toInt := congrArg Int32.toInt (pA_r14.get 129 3 (by decide))
            refine lv_goto (tgt := 146) hx hb dX11_close_101 (by decide) ?_
            refine lv_iload_n hx hb dX11_close_146 rfl (lv_at hl 1 rfl) ?_
            exact vx_ret (ge_i (Z := Z) (Z' := Z) M V rfl rfl hr hlk rfl ⟨GR, K, I, A.wk (by decide), ⟨by omega, by omega, hP0⟩, L, (show (hr14 129 2).toInt ≤ (h 129 2).toInt + 0 by omega), (show (hr14 129 3).toInt ≤ (h 129 3).toInt + 0 by omega)⟩ (g_re (by omega) (by omega) hPm) dX11_close_147)
        · skip
          have k_1 : (1 : Int32).toInt = 1 := rfl
          have c_64 := pi_eq.mp c_64
          refine lv_aload_n hx hb dX11_close_67 rfl (lv_at hl 2 rfl) ?_
          refine pg_r M V 11 2 (c_is_0 S) pC11 fk11_2 (c_r_0_2 S) lkF_X11_26 dX11_close_68 ?_
          refine lv_aload_n hx hb dX11_close_71 rfl (lv_at hl 0 rfl) ?_
          refine pg_i M V 0 11 fr3_0.1 pC0 fk0_11 lkF_X11_197 dX11_close_72 ?_
          refine lv_topi (fun v15 ev15 => ?_)
          refine lv_aload_n hx hb dX11_close_75 rfl (lv_at hl 0 rfl) ?_
          refine pk_i (pr_V M V (m_X0_high l S I r3 fr3_0.1 ) km_X0_high fr3_0.1 pC0 lkM_X11_202 rfl hl.1 rfl (Nat.le_of_ble_eq_true rfl) ⟨Nat.le_of_ble_eq_true rfl, Nat.le_of_ble_eq_true rfl⟩ (g_r0 (by omega) (by omega)) dX11_close_76) V (fun r16 Zr16 hr16 H locs pr16 _ _ V => ?_)
          obtain ⟨rfl, I, pA_r16⟩ := pr16
          have A := A.tr pA_r16 (by decide)
          have L := L.congr (pA_r16.get 129 2 (by decide)) (pA_r16.get 129 3 (by decide))
          have w_r16_129_2 : (hr16 129 2).toInt = (hr4 129 2).toInt := congrArg Int32.toInt (pA_r16.get 129 2 (by decide))
          have w_r16_129_3 : (hr16 129 3).toInt = (hr4 129 3).toInt := congrArg Int32.toInt (pA_r16.get 129 3 (by decide))
          refine pk_v (pr_V M V (m_X6_setHigh l S I v15 r16 ) km_X6_setHigh (c_is_22 S) pC6 lkM_X11_205 rfl hl.1 rfl (Nat.le_of_ble_eq_true rfl) ⟨Nat.le_of_ble_eq_true rfl, Nat.le_of_ble_eq_true rfl⟩ (g_r0 (by omega) (by omega)) dX11_close_79) V (fun Zr17 hr17 H locs pr17 _ _ V => ?_)
          obtain ⟨rfl, I, pA_r17⟩ := pr17
          have A := A.wk (l3 := [(36, 4), (36, 5), (24, 1000)]) (by decide)
          have A := A.tr pA_r17 (by decide)
          have L := L.congr (pA_r17.get 129 2 (by decide)) (pA_r17.get 129 3 (by decide))
          have w_r17_129_2 : (hr17 129 2).toInt = (hr16 129 2).toInt := congrArg Int32.toInt (pA_r17.get 129 2 (by decide))
          have w_r17_129_3 : (hr17 129 3).toInt = (hr16 129 3).toInt := congrArg Int32.toInt (pA_r17.get 129 3 (by decide))
          refine lv_goto (tgt := 146) hx hb dX11_close_82 (by decide) ?_
          refine lv_iload_n hx hb dX11_close_146 rfl (lv_at hl 1 rfl) ?_
          exact vx_ret (ge_i (Z := Z) (Z' := Z) M V rfl rfl hr hlk rfl ⟨GR, K, I, A.wk (by decide), ⟨by omega, by omega, hP0⟩, L, (show (hr17 129 2).toInt ≤ (h 129 2).toInt + 0 by omega), (show (hr17 129 3).toInt ≤ (h 129 3).toInt + 0 by omega)⟩ (g_re (by omega) (by omega) hPm) dX11_close_147)
      · skip
        have k_0 : (0 : Int32).toInt = 0 := rfl
        have c_51 := pi_eq.mp c_51
        refine lv_aload_n hx hb dX11_close_54 rfl (lv_at hl 2 rfl) ?_
        refine lv_aload_n hx hb dX11_close_55 rfl (lv_at hl 0 rfl) ?_
        refine pk_v (pr_V M V (m_X11_closePane l S I r3 fr3_0.1 ) km_X11_closePane (c_is_0 S) pC11 lkM_X11_193 rfl hl.1 rfl (Nat.le_of_ble_eq_true rfl) ⟨Nat.le_of_ble_eq_true rfl, Nat.le_of_ble_eq_true rfl⟩ (g_r0 (by omega) (by omega)) dX11_close_56) V (fun Zr18 hr18 H locs pr18 _ _ V => ?_)
        obtain ⟨rfl, I, pA_r18⟩ := pr18
        have A := A.wk (l3 := [(36, 4), (36, 5), (10, 4)]) (by decide)
        have A := A.tr pA_r18 (by decide)
        have L := L.congr (pA_r18.get 129 2 (by decide)) (pA_r18.get 129 3 (by decide))
        have w_r18_129_2 : (hr18 129 2).toInt = (hr4 129 2).toInt := congrArg Int32.toInt (pA_r18.get 129 2 (by decide))
        have w_r18_129_3 : (hr18 129 3).toInt = (hr4 129 3).toInt := congrArg Int32.toInt (pA_r18.get 129 3 (by decide))
        refine lv_goto (tgt := 146) hx hb dX11_close_59 (by decide) ?_
        refine lv_iload_n hx hb dX11_close_146 rfl (lv_at hl 1 rfl) ?_
        exact vx_ret (ge_i (Z := Z) (Z' := Z) M V rfl rfl hr hlk rfl ⟨GR, K, I, A.wk (by decide), ⟨by omega, by omega, hP0⟩, L, (show (hr18 129 2).toInt ≤ (h 129 2).toInt + 0 by omega), (show (hr18 129 3).toInt ≤ (h 129 3).toInt + 0 by omega)⟩ (g_re (by omega) (by omega) hPm) dX11_close_147)
  have J_22 : ∀ (hJ : pH) (H : Heap) (locs : List Loc) (ls : Array Slot), pV Z hJ s.heap H locs → Iv Z hJ → pLk Z hJ → agrD [] h hJ → lv_has ls 3 [(0, .ref (zB Z + 0))] → W p l e (pRm 7 (gmc Z) (gms Z) 126) s m ([.ref (zB Z + 0)] : List Value).toArray below meth c H locs (pPh Z - pPh Z) (2 * (pPh Z - pPh Z)) (vx_MQ below (gQi Z (fun r Z1 h1 k n => pGr Z Z1 ∧ pSk Z1 ∧ Iv Z1 h1 ∧ agrD [(10, 4), (24, 1000), (0, 10), (22, 5), (36, 4), (36, 5), (122, 1000), (10, 3), (10, 5), (10, 6)] h h1 ∧ (k ≤ pPh Z1 - pPh Z ∧ n ≤ 2 * (pPh Z1 - pPh Z) ∧ pPh Z ≤ pPh Z1) ∧ pLk Z1 h1 ∧ ((h1 129 2).toInt ≤ (h 129 2).toInt + 0) ∧ ((h1 129 3).toInt ≤ (h 129 3).toInt + 0))) (gX Z (fun E Z1 h1 k n => E = xIS ∧ pGr Z Z1 ∧ pSk Z1 ∧ Iv Z1 h1 ∧ agrD [(10, 4), (24, 1000), (0, 10), (22, 5), (36, 4), (36, 5), (122, 1000), (10, 3), (10, 5), (10, 6)] h h1 ∧ (k ≤ pPh Z1 - pPh Z + 1 ∧ n ≤ 2 * (pPh Z1 - pPh Z) + 6 ∧ pPh Z ≤ pPh Z1) ∧ pLk Z1 h1 ∧ ((h1 129 2).toInt ≤ (h 129 2).toInt + 0) ∧ ((h1 129 3).toInt ≤ (h 129 3).toInt + 0))) ([.ref (zB Z + 0)] : List Value).toArray s (gmc Z) (gms Z) (pA (zB Z))) (F0 m 22 ls [.ref (zB Z + 0)]) := by
    intro hJ H locs ls V I L A hl
    have wJ_129_2 : (hJ 129 2).toInt = (h 129 2).toInt := congrArg Int32.toInt (A.get 129 2 (by decide))
    have wJ_129_3 : (hJ 129 3).toInt = (h 129 3).toInt := congrArg Int32.toInt (A.get 129 3 (by decide))
    refine lv_iconst (v := 0) hx hb dX11_close_22 (by decide) ?_
    have k_0 : (0 : Int32).toInt = 0 := rfl
    exact J_23 (0 : Int32) _ _ _ _ V I L (A.wk (by decide)) (lv_sub hl [0] rfl) (by omega) 
  refine W.widen (k := pPh Z - pPh Z) (n := 2 * (pPh Z - pPh Z)) (Nat.zero_le _) (Nat.zero_le _) ?_
  refine lv_aload_n hx hb dX11_close_0 rfl (lv_at hl 0 rfl) ?_
  refine lv_aload_n hx hb dX11_close_1 rfl (lv_at hl 0 rfl) ?_
  refine pg_i M V 11 10 (c_is_0 S) pC11 fk11_10 lkF_X11_84 dX11_close_2 ?_
  refine lv_topi (fun v19 ev19 => ?_)
  have tv19 : 0 ≤ v19.toInt ∧ v19.toInt ≤ 1 := by rw [ev19]; exact I.get (c_is_0 S) 10
  refine lv_if_eq (tgt := 22) hx hb dX11_close_5 (by decide) (fun c_5 => ?_) (fun c_5 => ?_)
  · skip
    have k_0 : (0 : Int32).toInt = 0 := rfl
    have c_5 := pi_eq.mp c_5
    exact J_22 _ _ _ _ V I L (A.wk (by decide)) (lv_sub hl [0] rfl) 
  · skip
    have k_0 : (0 : Int32).toInt = 0 := rfl
    have c_5 := pi_ne c_5
    refine lv_aload_n hx hb dX11_close_8 rfl (lv_at hl 0 rfl) ?_
    refine pg_r M V 11 3 (c_is_0 S) pC11 fk11_3 (c_r_0_3 S) lkF_X11_33 dX11_close_9 ?_
    refine pg_i M V 8 4 (c_is_36 S) pC8 fk8_4 lkF_X11_127 dX11_close_12 ?_
    refine lv_topi (fun v20 ev20 => ?_)
    have tv20 : 0 ≤ v20.toInt ∧ v20.toInt ≤ 40 := by rw [ev20]; exact I.get (c_is_36 S) 4
    refine lv_if_le (tgt := 22) hx hb dX11_close_15 (by decide) (fun c_15 => ?_) (fun c_15 => ?_)
    · skip
      have c_15 := pi_le.mp c_15
      exact J_22 _ _ _ _ V I L (A.wk (by decide)) (lv_sub hl [0] rfl) 
    · skip
      have c_15 := pi_le' c_15
      refine lv_iconst (v := 1) hx hb dX11_close_18 (by decide) ?_
      refine lv_goto (tgt := 23) hx hb dX11_close_19 (by decide) ?_
      have k_1 : (1 : Int32).toInt = 1 := rfl
      exact J_23 (1 : Int32) _ _ _ _ V I L (A.wk (by decide)) (lv_sub hl [0] rfl) (by omega) 
