theorem dX11_near_0 : decode cX11_near 0 = .ok (.aload_n 0, 1) := by decide +kernel
theorem dX11_near_1 : decode cX11_near 1 = .ok (.aload_n 0, 1) := by decide +kernel
theorem dX11_near_2 : decode cX11_near 2 = .ok (.invokevirtual 326, 3) := by decide +kernel
theorem dX11_near_5 : decode cX11_near 5 = .ok (.invokevirtual 88, 3) := by decide +kernel
theorem dX11_near_8 : decode cX11_near 8 = .ok (.aload_n 0, 1) := by decide +kernel
theorem dX11_near_9 : decode cX11_near 9 = .ok (.iconst 1, 1) := by decide +kernel
theorem dX11_near_10 : decode cX11_near 10 = .ok (.putfield 124, 3) := by decide +kernel
theorem dX11_near_13 : decode cX11_near 13 = .ok (.return_, 1) := by decide +kernel
set_option maxHeartbeats 4000000 in
set_option maxRecDepth 100000 in
theorem m_X11_near (l : Launch) (hl9 : l.stackTraces = false) {Z : pZ} (S : pSh Z) {h : pH} (I : Iv Z h) (K : pSk Z) (L : pLk Z h) : xMet l yX11_near cX11_near 1 none 7 (gmc Z) (gms Z) 126 Z h [.ref (zB Z + 0)] (gQv Z (fun Z1 h1 k n => pGr Z Z1 ∧ pSk Z1 ∧ Iv Z1 h1 ∧ agrD [(0, 11), (0, 10), (22, 5), (36, 4), (36, 5), (122, 1000), (10, 3), (10, 4), (10, 5), (10, 6)] h h1 ∧ (k ≤ pPh Z1 - pPh Z ∧ n ≤ 2 * (pPh Z1 - pPh Z) ∧ pPh Z ≤ pPh Z1) ∧ pLk Z1 h1 ∧ ((h1 129 2).toInt ≤ (h 129 2).toInt + 0) ∧ ((h1 129 3).toInt ≤ (h 129 3).toInt + 0))) (gX Z (fun E Z1 h1 k n => E = xIS ∧ pGr Z Z1 ∧ pSk Z1 ∧ Iv Z1 h1 ∧ agrD [(0, 11), (0, 10), (22, 5), (36, 4), (36, 5), (122, 1000), (10, 3), (10, 4), (10, 5), (10, 6)] h h1 ∧ (k ≤ pPh Z1 - pPh Z + 1 ∧ n ≤ 2 * (pPh Z1 - pPh Z) + 6 ∧ pPh Z ≤ pPh Z1) ∧ pLk Z1 h1 ∧ ((h1 129 2).toInt ≤ (h 129 2).toInt + 0) ∧ ((h1 129 3).toInt ≤ (h 129 3).toInt + 0))) := by
  refine xOfW (lv := [(0, .ref (zB Z + 0))]) (by decide) (Nat.le_of_ble_eq_true rfl) rfl ?_
  intro p e s m below meth c ls M hr hlk hnm V hl hct X
  have hx := M.1.1
  have hb := M.1.2.1
  have A : agrD [] h h := agrD.rf
  have hP0 : pPh Z ≤ pPh Z := Nat.le_refl _
  have hPm := K.ph
  have GR : pGr Z Z := pGr.rf
  refine W.widen (k := pPh Z - pPh Z) (n := 2 * (pPh Z - pPh Z)) (Nat.zero_le _) (Nat.zero_le _) ?_
  refine lv_aload_n hx hb dX11_near_0 rfl (lv_at hl 0 rfl) ?_
  refine lv_aload_n hx hb dX11_near_1 rfl (lv_at hl 0 rfl) ?_
  refine pk_i (pr_V M V (m_X11_isWindowOpen l S I) km_X11_isWindowOpen (c_is_0 S) pC11 lkM_X11_326 rfl hl.1 rfl (Nat.le_of_ble_eq_true rfl) ⟨Nat.le_of_ble_eq_true rfl, Nat.le_of_ble_eq_true rfl⟩ (g_r0 (by omega) (by omega)) dX11_near_2) V (fun r1 Zr1 hr1 H locs pr1 _ _ V => ?_)
  obtain ⟨rfl, rfl, fr1_0⟩ := pr1
  refine xz_v Z rfl rfl (xr_V M V X (m_X11_requireState l hl9 S I r1) km_X11_requireState (c_is_0 S) pC11 lkM_X11_88 rfl hl.1 rfl (Nat.le_of_ble_eq_true rfl) ⟨Nat.le_of_ble_eq_true rfl, Nat.le_of_ble_eq_true rfl⟩ (g_rk (by omega) (by omega)) dX11_near_5) V (fun E ce q9 yr2 hr2 H locs pr2 V w1 w2 w3 => ?_) (fun yr2 hr2 kr2 nr2 H locs pr2 V => ?_)
  · obtain ⟨hE, e2, I, pA_r2⟩ := pr2
    rw [← e2] at V
    have A := A.wk (l3 := [(0, 10), (22, 5), (36, 4), (36, 5), (122, 1000), (10, 3), (10, 4), (10, 5), (10, 6)]) (by decide)
    have A := A.tr pA_r2 (by decide)
    have L := L.congr (pA_r2.get 129 2 (by decide)) (pA_r2.get 129 3 (by decide))
    have w_r2_129_2 : (hr2 129 2).toInt = (h 129 2).toInt := congrArg Int32.toInt (pA_r2.get 129 2 (by decide))
    have w_r2_129_3 : (hr2 129 3).toInt = (h 129 3).toInt := congrArg Int32.toInt (pA_r2.get 129 3 (by decide))
    exact xe_out (Z' := Z) V rfl rfl hct hlk w1 w2 w3 ⟨hE, GR, K, I, A.wk (by decide), ⟨by omega, by omega, hP0⟩, L, (show (hr2 129 2).toInt ≤ (h 129 2).toInt + 0 by omega), (show (hr2 129 3).toInt ≤ (h 129 3).toInt + 0 by omega)⟩ (g_rx (by omega) (by omega) hPm)
  · obtain ⟨e2, rfl, rfl, rfl, fr2⟩ := pr2
    rw [← e2] at V
    refine lv_aload_n hx hb dX11_near_8 rfl (lv_at hl 0 rfl) ?_
    refine lv_iconst (v := 1) hx hb dX11_near_9 (by decide) ?_
    have k_1 : (1 : Int32).toInt = 1 := rfl
    have z_10 : (1 : Int32) = 0 ∨ (1 : Int32) = 1 := pi_z (by omega)
    refine pp_i M V 11 11 (c_is_0 S) pC11 fk11_11 rfl lkF_X11_124 ⟨(pn_z z_10).1, (pn_z z_10).2.1⟩ dX11_near_10 (fun H locs V => ?_)
    have A := A.wk (l3 := [(0, 11)]) (by decide)
    have A := A.up (o := 0) (k := 11) (v := (1 : Int32)) (by decide)
    have I := I.up (k := 11) (v := (1 : Int32)) (c_is_0 S) (show (0 : Int) ≤ (1 : Int32).toInt ∧ (1 : Int32).toInt ≤ (1 : Int) by omega)
    exact vx_ret (ge_v (Z := Z) (Z' := Z) M V rfl rfl hr hlk ⟨GR, K, I, A.wk (by decide), ⟨by omega, by omega, hP0⟩, L, (show (h 129 2).toInt ≤ (h 129 2).toInt + 0 by omega), (show (h 129 3).toInt ≤ (h 129 3).toInt + 0 by omega)⟩ (g_re (by omega) (by omega) hPm) dX11_near_13)
theorem dX11_scope_0 : decode cX11_scope 0 = .ok (.aload_n 0, 1) := by decide +kernel
theorem dX11_scope_1 : decode cX11_scope 1 = .ok (.iload_n 1, 1) := by decide +kernel
theorem dX11_scope_2 : decode cX11_scope 2 = .ok (.invokestatic 171, 3) := by decide +kernel
theorem dX11_scope_5 : decode cX11_scope 5 = .ok (.invokevirtual 231, 3) := by decide +kernel
theorem dX11_scope_8 : decode cX11_scope 8 = .ok (.aload_n 0, 1) := by decide +kernel
theorem dX11_scope_9 : decode cX11_scope 9 = .ok (.aload_n 0, 1) := by decide +kernel
theorem dX11_scope_10 : decode cX11_scope 10 = .ok (.getfield 33, 3) := by decide +kernel
theorem dX11_scope_13 : decode cX11_scope 13 = .ok (.invokevirtual 276, 3) := by decide +kernel
theorem dX11_scope_16 : decode cX11_scope 16 = .ok (.invokevirtual 88, 3) := by decide +kernel
theorem dX11_scope_19 : decode cX11_scope 19 = .ok (.aload_n 0, 1) := by decide +kernel
theorem dX11_scope_20 : decode cX11_scope 20 = .ok (.getfield 33, 3) := by decide +kernel
theorem dX11_scope_23 : decode cX11_scope 23 = .ok (.iconst 3, 1) := by decide +kernel
theorem dX11_scope_24 : decode cX11_scope 24 = .ok (.aload_n 0, 1) := by decide +kernel
theorem dX11_scope_25 : decode cX11_scope 25 = .ok (.getfield 33, 3) := by decide +kernel
theorem dX11_scope_28 : decode cX11_scope 28 = .ok (.iload_n 1, 1) := by decide +kernel
theorem dX11_scope_29 : decode cX11_scope 29 = .ok (.invokevirtual 234, 3) := by decide +kernel
theorem dX11_scope_32 : decode cX11_scope 32 = .ok (.invokevirtual 280, 3) := by decide +kernel
theorem dX11_scope_35 : decode cX11_scope 35 = .ok (.return_, 1) := by decide +kernel
set_option maxHeartbeats 4000000 in
set_option maxRecDepth 100000 in
theorem m_X11_scope (l : Launch) (hl9 : l.stackTraces = false) {Z : pZ} (S : pSh Z) {h : pH} (I : Iv Z h) (label : Int32) (K : pSk Z) (L : pLk Z h) : xMet l yX11_scope cX11_scope 2 none 8 (gmc Z) (gms Z) 147 Z h [.ref (zB Z + 0), .int label] (gQv Z (fun Z1 h1 k n => pGr Z Z1 ∧ pSk Z1 ∧ Iv Z1 h1 ∧ agrD [(36, 4), (36, 5), (37, 1000), (38, 1000), (0, 10), (22, 5), (122, 1000), (10, 3), (10, 4), (10, 5), (10, 6)] h h1 ∧ (k ≤ pPh Z1 - pPh Z ∧ n ≤ 2 * (pPh Z1 - pPh Z) ∧ pPh Z ≤ pPh Z1) ∧ pLk Z1 h1 ∧ ((h1 129 2).toInt ≤ (h 129 2).toInt + 0) ∧ ((h1 129 3).toInt ≤ (h 129 3).toInt + 0))) (gX Z (fun E Z1 h1 k n => (E = xIA ∨ E = xIS) ∧ pGr Z Z1 ∧ pSk Z1 ∧ Iv Z1 h1 ∧ agrD [(36, 4), (36, 5), (37, 1000), (38, 1000), (0, 10), (22, 5), (122, 1000), (10, 3), (10, 4), (10, 5), (10, 6)] h h1 ∧ (k ≤ pPh Z1 - pPh Z + 1 ∧ n ≤ 2 * (pPh Z1 - pPh Z) + 6 ∧ pPh Z ≤ pPh Z1) ∧ pLk Z1 h1 ∧ ((h1 129 2).toInt ≤ (h 129 2).toInt + 0) ∧ ((h1 129 3).toInt ≤ (h 129 3).toInt + 0))) := by
  refine xOfW (lv := [(0, .ref (zB Z + 0)), (1, .int label)]) (by decide) (Nat.le_of_ble_eq_true rfl) rfl ?_
  intro p e s m below meth c ls M hr hlk hnm V hl hct X
  have hx := M.1.1
  have hb := M.1.2.1
  have A : agrD [] h h := agrD.rf
  have hP0 : pPh Z ≤ pPh Z := Nat.le_refl _
  have hPm := K.ph
  have GR : pGr Z Z := pGr.rf
  refine W.widen (k := pPh Z - pPh Z) (n := 2 * (pPh Z - pPh Z)) (Nat.zero_le _) (Nat.zero_le _) ?_
  refine lv_aload_n hx hb dX11_scope_0 rfl (lv_at hl 0 rfl) ?_
  refine lv_iload_n hx hb dX11_scope_1 rfl (lv_at hl 1 rfl) ?_
  refine pk_i (pr_S M V (m_X11_isLabel l (Z := Z) (h := _) label) km_X11_isLabel lkM_X11_171 rfl hl.1 rfl (Nat.le_of_ble_eq_true rfl) ⟨Nat.le_of_ble_eq_true rfl, Nat.le_of_ble_eq_true rfl⟩ (g_r0 (by omega) (by omega)) dX11_scope_2) V (fun r1 Zr1 hr1 H locs pr1 _ _ V => ?_)
  obtain ⟨rfl, rfl, fr1_0⟩ := pr1
  refine xz_v Z rfl rfl (xr_V M V X (m_X11_requireItem l hl9 S I r1) km_X11_requireItem (c_is_0 S) pC11 lkM_X11_231 rfl hl.1 rfl (Nat.le_of_ble_eq_true rfl) ⟨Nat.le_of_ble_eq_true rfl, Nat.le_of_ble_eq_true rfl⟩ (g_rk (by omega) (by omega)) dX11_scope_5) V (fun E ce q9 yr2 hr2 H locs pr2 V w1 w2 w3 => ?_) (fun yr2 hr2 kr2 nr2 H locs pr2 V => ?_)
  · obtain ⟨hE, e2, I, pA_r2⟩ := pr2
    rw [← e2] at V
    have A := A.wk (l3 := [(0, 10), (22, 5), (36, 4), (36, 5), (122, 1000), (10, 3), (10, 4), (10, 5), (10, 6)]) (by decide)
    have A := A.tr pA_r2 (by decide)
    have L := L.congr (pA_r2.get 129 2 (by decide)) (pA_r2.get 129 3 (by decide))
    have w_r2_129_2 : (hr2 129 2).toInt = (h 129 2).toInt := congrArg Int32.toInt (pA_r2.get 129 2 (by decide))
    have w_r2_129_3 : (hr2 129 3).toInt = (h 129 3).toInt := congrArg Int32.toInt (pA_r2.get 129 3 (by decide))
    exact xe_out (Z' := Z) V rfl rfl hct hlk w1 w2 w3 ⟨hE, GR, K, I, A.wk (by decide), ⟨by omega, by omega, hP0⟩, L, (show (hr2 129 2).toInt ≤ (h 129 2).toInt + 0 by omega), (show (hr2 129 3).toInt ≤ (h 129 3).toInt + 0 by omega)⟩ (g_rx (by omega) (by omega) hPm)
  · obtain ⟨e2, rfl, rfl, rfl, fr2⟩ := pr2
    rw [← e2] at V
    refine lv_aload_n hx hb dX11_scope_8 rfl (lv_at hl 0 rfl) ?_
    refine lv_aload_n hx hb dX11_scope_9 rfl (lv_at hl 0 rfl) ?_
    refine pg_r M V 11 3 (c_is_0 S) pC11 fk11_3 (c_r_0_3 S) lkF_X11_33 dX11_scope_10 ?_
    refine pk_i (pr_V M V (m_X8_hasRoom l S I  ) km_X8_hasRoom (c_is_36 S) pC8 lkM_X11_276 rfl hl.1 rfl (Nat.le_of_ble_eq_true rfl) ⟨Nat.le_of_ble_eq_true rfl, Nat.le_of_ble_eq_true rfl⟩ (g_r0 (by omega) (by omega)) dX11_scope_13) V (fun r3 Zr3 hr3 H locs pr3 _ _ V => ?_)
    obtain ⟨rfl, I, pA_r3, fr3_0⟩ := pr3
    have A := A.tr pA_r3 (by decide)
    have L := L.congr (pA_r3.get 129 2 (by decide)) (pA_r3.get 129 3 (by decide))
    have w_r3_129_2 : (hr3 129 2).toInt = (h 129 2).toInt := congrArg Int32.toInt (pA_r3.get 129 2 (by decide))
    have w_r3_129_3 : (hr3 129 3).toInt = (h 129 3).toInt := congrArg Int32.toInt (pA_r3.get 129 3 (by decide))
    refine xz_v Z rfl rfl (xr_V M V X (m_X11_requireState l hl9 S I r3) km_X11_requireState (c_is_0 S) pC11 lkM_X11_88 rfl hl.1 rfl (Nat.le_of_ble_eq_true rfl) ⟨Nat.le_of_ble_eq_true rfl, Nat.le_of_ble_eq_true rfl⟩ (g_rk (by omega) (by omega)) dX11_scope_16) V (fun E ce q9 yr4 hr4 H locs pr4 V w1 w2 w3 => ?_) (fun yr4 hr4 kr4 nr4 H locs pr4 V => ?_)
    · obtain ⟨hE, e2, I, pA_r4⟩ := pr4
      rw [← e2] at V
      have A := A.wk (l3 := [(0, 10), (22, 5), (36, 4), (36, 5), (122, 1000), (10, 3), (10, 4), (10, 5), (10, 6)]) (by decide)
      have A := A.tr pA_r4 (by decide)
      have L := L.congr (pA_r4.get 129 2 (by decide)) (pA_r4.get 129 3 (by decide))
      have w_r4_129_2 : (hr4 129 2).toInt = (hr3 129 2).toInt := congrArg Int32.toInt (pA_r4.get 129 2 (by decide))
      have w_r4_129_3 : (hr4 129 3).toInt = (hr3 129 3).toInt := congrArg Int32.toInt (pA_r4.get 129 3 (by decide))
      exact xe_out (Z' := Z) V rfl rfl hct hlk w1 w2 w3 ⟨Or.inr hE, GR, K, I, A.wk (by decide), ⟨by omega, by omega, hP0⟩, L, (show (hr4 129 2).toInt ≤ (h 129 2).toInt + 0 by omega), (show (hr4 129 3).toInt ≤ (h 129 3).toInt + 0 by omega)⟩ (g_rx (by omega) (by omega) hPm)
    · obtain ⟨e2, rfl, rfl, rfl, fr4⟩ := pr4
      rw [← e2] at V
      refine lv_aload_n hx hb dX11_scope_19 rfl (lv_at hl 0 rfl) ?_
      refine pg_r M V 11 3 (c_is_0 S) pC11 fk11_3 (c_r_0_3 S) lkF_X11_33 dX11_scope_20 ?_
      refine lv_iconst (v := 3) hx hb dX11_scope_23 (by decide) ?_
      refine lv_aload_n hx hb dX11_scope_24 rfl (lv_at hl 0 rfl) ?_
      refine pg_r M V 11 3 (c_is_0 S) pC11 fk11_3 (c_r_0_3 S) lkF_X11_33 dX11_scope_25 ?_
      refine lv_iload_n hx hb dX11_scope_28 rfl (lv_at hl 1 rfl) ?_
      refine pk_i (pr_V M V (m_X8_idOf l S I label ) km_X8_idOf (c_is_36 S) pC8 lkM_X11_234 rfl hl.1 rfl (Nat.le_of_ble_eq_true rfl) ⟨Nat.le_of_ble_eq_true rfl, Nat.le_of_ble_eq_true rfl⟩ (g_r0 (by omega) (by omega)) dX11_scope_29) V (fun r5 Zr5 hr5 H locs pr5 _ _ V => ?_)
      obtain ⟨rfl, I, pA_r5⟩ := pr5
      have A := A.tr pA_r5 (by decide)
      have L := L.congr (pA_r5.get 129 2 (by decide)) (pA_r5.get 129 3 (by decide))
      have w_r5_129_2 : (hr5 129 2).toInt = (hr3 129 2).toInt := congrArg Int32.toInt (pA_r5.get 129 2 (by decide))
      have w_r5_129_3 : (hr5 129 3).toInt = (hr3 129 3).toInt := congrArg Int32.toInt (pA_r5.get 129 3 (by decide))
      refine pk_v (pr_V M V (m_X8_put l S I (3 : Int32) r5 ) km_X8_put (c_is_36 S) pC8 lkM_X11_280 rfl hl.1 rfl (Nat.le_of_ble_eq_true rfl) ⟨Nat.le_of_ble_eq_true rfl, Nat.le_of_ble_eq_true rfl⟩ (g_r0 (by omega) (by omega)) dX11_scope_32) V (fun Zr6 hr6 H locs pr6 _ _ V => ?_)
      obtain ⟨rfl, I, pA_r6⟩ := pr6
      have A := A.wk (l3 := [(36, 4), (36, 5), (37, 1000), (38, 1000)]) (by decide)
      have A := A.tr pA_r6 (by decide)
      have L := L.congr (pA_r6.get 129 2 (by decide)) (pA_r6.get 129 3 (by decide))
      have w_r6_129_2 : (hr6 129 2).toInt = (hr5 129 2).toInt := congrArg Int32.toInt (pA_r6.get 129 2 (by decide))
      have w_r6_129_3 : (hr6 129 3).toInt = (hr5 129 3).toInt := congrArg Int32.toInt (pA_r6.get 129 3 (by decide))
      exact vx_ret (ge_v (Z := Z) (Z' := Z) M V rfl rfl hr hlk ⟨GR, K, I, A.wk (by decide), ⟨by omega, by omega, hP0⟩, L, (show (hr6 129 2).toInt ≤ (h 129 2).toInt + 0 by omega), (show (hr6 129 3).toInt ≤ (h 129 3).toInt + 0 by omega)⟩ (g_re (by omega) (by omega) hPm) dX11_scope_35)
theorem dX11_open_0 : decode cX11_open 0 = .ok (.aload_n 0, 1) := by decide +kernel
theorem dX11_open_1 : decode cX11_open 1 = .ok (.iload_n 1, 1) := by decide +kernel
theorem dX11_open_2 : decode cX11_open 2 = .ok (.invokestatic 171, 3) := by decide +kernel
theorem dX11_open_5 : decode cX11_open 5 = .ok (.invokevirtual 146, 3) := by decide +kernel
theorem dX11_open_8 : decode cX11_open 8 = .ok (.aload_n 0, 1) := by decide +kernel
theorem dX11_open_9 : decode cX11_open 9 = .ok (.aload_n 0, 1) := by decide +kernel
theorem dX11_open_10 : decode cX11_open 10 = .ok (.getfield 84, 3) := by decide +kernel
theorem dX11_open_13 : decode cX11_open 13 = .ok (.invokevirtual 88, 3) := by decide +kernel
theorem dX11_open_16 : decode cX11_open 16 = .ok (.aload_n 0, 1) := by decide +kernel
theorem dX11_open_17 : decode cX11_open 17 = .ok (.getfield 19, 3) := by decide +kernel
theorem dX11_open_20 : decode cX11_open 20 = .ok (.iload_n 1, 1) := by decide +kernel
theorem dX11_open_21 : decode cX11_open 21 = .ok (.aload_n 0, 1) := by decide +kernel
theorem dX11_open_22 : decode cX11_open 22 = .ok (.getfield 10, 3) := by decide +kernel
theorem dX11_open_25 : decode cX11_open 25 = .ok (.invokevirtual 175, 3) := by decide +kernel
theorem dX11_open_28 : decode cX11_open 28 = .ok (.ireturn, 1) := by decide +kernel
set_option maxHeartbeats 4000000 in
set_option maxRecDepth 100000 in
theorem m_X11_open (l : Launch) (hl9 : l.stackTraces = false) {Z : pZ} (S : pSh Z) {h : pH} (I : Iv Z h) (label : Int32) (K : pSk Z) (L : pLk Z h) : xMet l yX11_open cX11_open 2 (some .boolean) 7 (gmc Z) (gms Z) 126 Z h [.ref (zB Z + 0), .int label] (gQi Z (fun r Z1 h1 k n => pGr Z Z1 ∧ pSk Z1 ∧ Iv Z1 h1 ∧ agrD [(10, 3), (10, 4), (10, 5), (10, 6), (0, 10), (22, 5), (36, 4), (36, 5), (122, 1000)] h h1 ∧ (k ≤ pPh Z1 - pPh Z ∧ n ≤ 2 * (pPh Z1 - pPh Z) ∧ pPh Z ≤ pPh Z1) ∧ pLk Z1 h1 ∧ (r.toInt = 0 ∨ r.toInt = 1) ∧ ((h1 129 2).toInt ≤ (h 129 2).toInt + 0) ∧ ((h1 129 3).toInt ≤ (h 129 3).toInt + 0))) (gX Z (fun E Z1 h1 k n => (E = xIA ∨ E = xIS) ∧ pGr Z Z1 ∧ pSk Z1 ∧ Iv Z1 h1 ∧ agrD [(10, 3), (10, 4), (10, 5), (10, 6), (0, 10), (22, 5), (36, 4), (36, 5), (122, 1000)] h h1 ∧ (k ≤ pPh Z1 - pPh Z + 1 ∧ n ≤ 2 * (pPh Z1 - pPh Z) + 6 ∧ pPh Z ≤ pPh Z1) ∧ pLk Z1 h1 ∧ ((h1 129 2).toInt ≤ (h 129 2).toInt + 0) ∧ ((h1 129 3).toInt ≤ (h 129 3).toInt + 0))) := by
  refine xOfW (lv := [(0, .ref (zB Z + 0)), (1, .int label)]) (by decide) (Nat.le_of_ble_eq_true rfl) rfl ?_
  intro p e s m below meth c ls M hr hlk hnm V hl hct X
  have hx := M.1.1
  have hb := M.1.2.1
  have A : agrD [] h h := agrD.rf
  have hP0 : pPh Z ≤ pPh Z := Nat.le_refl _
  have hPm := K.ph
  have GR : pGr Z Z := pGr.rf
  refine W.widen (k := pPh Z - pPh Z) (n := 2 * (pPh Z - pPh Z)) (Nat.zero_le _) (Nat.zero_le _) ?_
  refine lv_aload_n hx hb dX11_open_0 rfl (lv_at hl 0 rfl) ?_
  refine lv_iload_n hx hb dX11_open_1 rfl (lv_at hl 1 rfl) ?_
  refine pk_i (pr_S M V (m_X11_isLabel l (Z := Z) (h := _) label) km_X11_isLabel lkM_X11_171 rfl hl.1 rfl (Nat.le_of_ble_eq_true rfl) ⟨Nat.le_of_ble_eq_true rfl, Nat.le_of_ble_eq_true rfl⟩ (g_r0 (by omega) (by omega)) dX11_open_2) V (fun r1 Zr1 hr1 H locs pr1 _ _ V => ?_)
  obtain ⟨rfl, rfl, fr1_0⟩ := pr1
  refine xz_v Z rfl rfl (xr_V M V X (m_X11_requireArgument l hl9 S I r1) km_X11_requireArgument (c_is_0 S) pC11 lkM_X11_146 rfl hl.1 rfl (Nat.le_of_ble_eq_true rfl) ⟨Nat.le_of_ble_eq_true rfl, Nat.le_of_ble_eq_true rfl⟩ (g_rk (by omega) (by omega)) dX11_open_5) V (fun E ce q9 yr2 hr2 H locs pr2 V w1 w2 w3 => ?_) (fun yr2 hr2 kr2 nr2 H locs pr2 V => ?_)
  · obtain ⟨hE, e2, I, pA_r2⟩ := pr2
    rw [← e2] at V
    have A := A.wk (l3 := [(0, 10), (22, 5), (36, 4), (36, 5), (122, 1000), (10, 3), (10, 4), (10, 5), (10, 6)]) (by decide)
    have A := A.tr pA_r2 (by decide)
    have L := L.congr (pA_r2.get 129 2 (by decide)) (pA_r2.get 129 3 (by decide))
    have w_r2_129_2 : (hr2 129 2).toInt = (h 129 2).toInt := congrArg Int32.toInt (pA_r2.get 129 2 (by decide))
    have w_r2_129_3 : (hr2 129 3).toInt = (h 129 3).toInt := congrArg Int32.toInt (pA_r2.get 129 3 (by decide))
    exact xe_out (Z' := Z) V rfl rfl hct hlk w1 w2 w3 ⟨Or.inl hE, GR, K, I, A.wk (by decide), ⟨by omega, by omega, hP0⟩, L, (show (hr2 129 2).toInt ≤ (h 129 2).toInt + 0 by omega), (show (hr2 129 3).toInt ≤ (h 129 3).toInt + 0 by omega)⟩ (g_rx (by omega) (by omega) hPm)
  · obtain ⟨e2, rfl, rfl, rfl, fr2⟩ := pr2
    rw [← e2] at V
    refine lv_aload_n hx hb dX11_open_8 rfl (lv_at hl 0 rfl) ?_
    refine lv_aload_n hx hb dX11_open_9 rfl (lv_at hl 0 rfl) ?_
    refine pg_i M V 11 10 (c_is_0 S) pC11 fk11_10 lkF_X11_84 dX11_open_10 ?_
    refine lv_topi (fun v3 ev3 => ?_)
    have tv3 : 0 ≤ v3.toInt ∧ v3.toInt ≤ 1 := by rw [ev3]; exact I.get (c_is_0 S) 10
    refine xz_v Z rfl rfl (xr_V M V X (m_X11_requireState l hl9 S I v3) km_X11_requireState (c_is_0 S) pC11 lkM_X11_88 rfl hl.1 rfl (Nat.le_of_ble_eq_true rfl) ⟨Nat.le_of_ble_eq_true rfl, Nat.le_of_ble_eq_true rfl⟩ (g_rk (by omega) (by omega)) dX11_open_13) V (fun E ce q9 yr4 hr4 H locs pr4 V w1 w2 w3 => ?_) (fun yr4 hr4 kr4 nr4 H locs pr4 V => ?_)
    · obtain ⟨hE, e2, I, pA_r4⟩ := pr4
      rw [← e2] at V
      have A := A.wk (l3 := [(0, 10), (22, 5), (36, 4), (36, 5), (122, 1000), (10, 3), (10, 4), (10, 5), (10, 6)]) (by decide)
      have A := A.tr pA_r4 (by decide)
      have L := L.congr (pA_r4.get 129 2 (by decide)) (pA_r4.get 129 3 (by decide))
      have w_r4_129_2 : (hr4 129 2).toInt = (h 129 2).toInt := congrArg Int32.toInt (pA_r4.get 129 2 (by decide))
      have w_r4_129_3 : (hr4 129 3).toInt = (h 129 3).toInt := congrArg Int32.toInt (pA_r4.get 129 3 (by decide))
      exact xe_out (Z' := Z) V rfl rfl hct hlk w1 w2 w3 ⟨Or.inr hE, GR, K, I, A.wk (by decide), ⟨by omega, by omega, hP0⟩, L, (show (hr4 129 2).toInt ≤ (h 129 2).toInt + 0 by omega), (show (hr4 129 3).toInt ≤ (h 129 3).toInt + 0 by omega)⟩ (g_rx (by omega) (by omega) hPm)
    · obtain ⟨e2, rfl, rfl, rfl, fr4⟩ := pr4
      rw [← e2] at V
      refine lv_aload_n hx hb dX11_open_16 rfl (lv_at hl 0 rfl) ?_
      refine pg_r M V 11 1 (c_is_0 S) pC11 fk11_1 (c_r_0_1 S) lkF_X11_19 dX11_open_17 ?_
      refine lv_iload_n hx hb dX11_open_20 rfl (lv_at hl 1 rfl) ?_
      refine lv_aload_n hx hb dX11_open_21 rfl (lv_at hl 0 rfl) ?_
      refine pg_r M V 11 0 (c_is_0 S) pC11 fk11_0 (c_r_0_0 S) lkF_X11_10 dX11_open_22 ?_
      refine pk_i (pr_V M V (m_X3_openPopup l S I label  ) km_X3_openPopup (c_is_10 S) pC3 lkM_X11_175 rfl hl.1 rfl (Nat.le_of_ble_eq_true rfl) ⟨Nat.le_of_ble_eq_true rfl, Nat.le_of_ble_eq_true rfl⟩ (g_r0 (by omega) (by omega)) dX11_open_25) V (fun r5 Zr5 hr5 H locs pr5 _ _ V => ?_)
      obtain ⟨rfl, I, pA_r5, fr5_0⟩ := pr5
      have A := A.wk (l3 := [(10, 3), (10, 4), (10, 5), (10, 6)]) (by decide)
      have A := A.tr pA_r5 (by decide)
      have L := L.congr (pA_r5.get 129 2 (by decide)) (pA_r5.get 129 3 (by decide))
      have w_r5_129_2 : (hr5 129 2).toInt = (h 129 2).toInt := congrArg Int32.toInt (pA_r5.get 129 2 (by decide))
      have w_r5_129_3 : (hr5 129 3).toInt = (h 129 3).toInt := congrArg Int32.toInt (pA_r5.get 129 3 (by decide))
      exact vx_ret (ge_i (Z := Z) (Z' := Z) M V rfl rfl hr hlk (pn_z (pi_z (by omega))).1 ⟨GR, K, I, A.wk (by decide), ⟨by omega, by omega, hP0⟩, L, by omega, (show (hr5 129 2).toInt ≤ (h 129 2).toInt + 0 by omega), (show (hr5 129 3).toInt ≤ (h 129 3).toInt + 0 by omega)⟩ (g_re (by omega) (by omega) hPm) dX11_open_28)
