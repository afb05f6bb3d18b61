theorem dX11_button_0 : decode cX11_button 0 = .ok (.aload_n 0, 1) := by decide +kernel
theorem dX11_button_1 : decode cX11_button 1 = .ok (.iload_n 1, 1) := by decide +kernel
theorem dX11_button_2 : decode cX11_button 2 = .ok (.invokestatic 171, 3) := by decide +kernel
theorem dX11_button_5 : decode cX11_button 5 = .ok (.ifCond .eq 18, 3) := by decide +kernel
theorem dX11_button_8 : decode cX11_button 8 = .ok (.iload_n 2, 1) := by decide +kernel
theorem dX11_button_9 : decode cX11_button 9 = .ok (.iconst 1, 1) := by decide +kernel
theorem dX11_button_10 : decode cX11_button 10 = .ok (.sipush 200, 3) := by decide +kernel
theorem dX11_button_13 : decode cX11_button 13 = .ok (.invokestatic 71, 3) := by decide +kernel
theorem dX11_button_16 : decode cX11_button 16 = .ok (.ifCond .eq 7, 3) := by decide +kernel
theorem dX11_button_19 : decode cX11_button 19 = .ok (.iconst 1, 1) := by decide +kernel
theorem dX11_button_20 : decode cX11_button 20 = .ok (.goto 4, 3) := by decide +kernel
theorem dX11_button_23 : decode cX11_button 23 = .ok (.iconst 0, 1) := by decide +kernel
theorem dX11_button_24 : decode cX11_button 24 = .ok (.invokevirtual 231, 3) := by decide +kernel
theorem dX11_button_27 : decode cX11_button 27 = .ok (.aload_n 0, 1) := by decide +kernel
theorem dX11_button_28 : decode cX11_button 28 = .ok (.getfield 33, 3) := by decide +kernel
theorem dX11_button_31 : decode cX11_button 31 = .ok (.iload_n 1, 1) := by decide +kernel
theorem dX11_button_32 : decode cX11_button 32 = .ok (.invokevirtual 234, 3) := by decide +kernel
theorem dX11_button_35 : decode cX11_button 35 = .ok (.istore_n 3, 1) := by decide +kernel
theorem dX11_button_36 : decode cX11_button 36 = .ok (.aload_n 0, 1) := by decide +kernel
theorem dX11_button_37 : decode cX11_button 37 = .ok (.iload_n 3, 1) := by decide +kernel
theorem dX11_button_38 : decode cX11_button 38 = .ok (.iload_n 2, 1) := by decide +kernel
theorem dX11_button_39 : decode cX11_button 39 = .ok (.invokevirtual 238, 3) := by decide +kernel
theorem dX11_button_42 : decode cX11_button 42 = .ok (.istore 4, 2) := by decide +kernel
theorem dX11_button_44 : decode cX11_button 44 = .ok (.aload_n 0, 1) := by decide +kernel
theorem dX11_button_45 : decode cX11_button 45 = .ok (.iload_n 3, 1) := by decide +kernel
theorem dX11_button_46 : decode cX11_button 46 = .ok (.invokevirtual 241, 3) := by decide +kernel
theorem dX11_button_49 : decode cX11_button 49 = .ok (.aload_n 0, 1) := by decide +kernel
theorem dX11_button_50 : decode cX11_button 50 = .ok (.iload_n 1, 1) := by decide +kernel
theorem dX11_button_51 : decode cX11_button 51 = .ok (.invokevirtual 244, 3) := by decide +kernel
theorem dX11_button_54 : decode cX11_button 54 = .ok (.iload 4, 2) := by decide +kernel
theorem dX11_button_56 : decode cX11_button 56 = .ok (.ireturn, 1) := by decide +kernel
set_option maxHeartbeats 4000000 in
set_option maxRecDepth 100000 in
theorem m_X11_button (l : Launch) (hl9 : l.stackTraces = false) {Z : pZ} (S : pSh Z) {h : pH} (I : Iv Z h) (label : Int32) (width : Int32) (K : pSk Z) (L : pLk Z h) (hq3 : (h 129 3).toInt ≤ 8900) : xMet l yX11_button cX11_button 5 (some .boolean) 8 (gmc Z) (gms Z) 165 Z h [.ref (zB Z + 0), .int label, .int width] (gQi Z (fun r Z1 h1 k n => pGr Z Z1 ∧ pSk Z1 ∧ Iv Z1 h1 ∧ agrD [(0, 11), (122, 1000), (129, 2), (129, 3), (0, 10), (22, 5), (36, 4), (36, 5), (10, 3), (10, 4), (10, 5), (10, 6)] h h1 ∧ (k ≤ pPh Z1 - pPh Z ∧ n ≤ 2 * (pPh Z1 - pPh Z) ∧ pPh Z ≤ pPh Z1) ∧ pLk Z1 h1 ∧ (r.toInt = 0 ∨ r.toInt = 1) ∧ ((h1 129 2).toInt ≤ (h 129 2).toInt + 4) ∧ ((h1 129 3).toInt ≤ (h 129 3).toInt + 4))) (gX Z (fun E Z1 h1 k n => (E = xIA ∨ E = xIS) ∧ pGr Z Z1 ∧ pSk Z1 ∧ Iv Z1 h1 ∧ agrD [(0, 11), (122, 1000), (129, 2), (129, 3), (0, 10), (22, 5), (36, 4), (36, 5), (10, 3), (10, 4), (10, 5), (10, 6)] h h1 ∧ (k ≤ pPh Z1 - pPh Z + 1 ∧ n ≤ 2 * (pPh Z1 - pPh Z) + 6 ∧ pPh Z ≤ pPh Z1) ∧ pLk Z1 h1 ∧ ((h1 129 2).toInt ≤ (h 129 2).toInt + 4) ∧ ((h1 129 3).toInt ≤ (h 129 3).toInt + 4))) := by
  refine xOfW (lv := [(0, .ref (zB Z + 0)), (1, .int label), (2, .int width)]) (by decide) (Nat.le_of_ble_eq_true rfl) rfl ?_
  intro p e s m below meth c ls M hr hlk hnm V hl hct X
  have hx := M.1.1
  have hb := M.1.2.1
  have A : agrD [] h h := agrD.rf
  have hP0 : pPh Z ≤ pPh Z := Nat.le_refl _
  have hPm := K.ph
  have GR : pGr Z Z := pGr.rf
  have J_24 : ∀ (y24_0 : Int32) (hJ : pH) (H : Heap) (locs : List Loc) (ls : Array Slot), pV Z hJ s.heap H locs → Iv Z hJ → pLk Z hJ → agrD [] h hJ → lv_has ls 5 [(0, .ref (zB Z + 0)), (1, .int label), (2, .int width)] → (0 ≤ y24_0.toInt ∧ y24_0.toInt ≤ 1) → W p l e (pRm 8 (gmc Z) (gms Z) 165) s m ([.ref (zB Z + 0), .int label, .int width] : List Value).toArray below meth c H locs (pPh Z - pPh Z) (2 * (pPh Z - pPh Z)) (vx_MQ below (gQi Z (fun r Z1 h1 k n => pGr Z Z1 ∧ pSk Z1 ∧ Iv Z1 h1 ∧ agrD [(0, 11), (122, 1000), (129, 2), (129, 3), (0, 10), (22, 5), (36, 4), (36, 5), (10, 3), (10, 4), (10, 5), (10, 6)] h h1 ∧ (k ≤ pPh Z1 - pPh Z ∧ n ≤ 2 * (pPh Z1 - pPh Z) ∧ pPh Z ≤ pPh Z1) ∧ pLk Z1 h1 ∧ (r.toInt = 0 ∨ r.toInt = 1) ∧ ((h1 129 2).toInt ≤ (h 129 2).toInt + 4) ∧ ((h1 129 3).toInt ≤ (h 129 3).toInt + 4))) (gX Z (fun E Z1 h1 k n => (E = xIA ∨ E = xIS) ∧ pGr Z Z1 ∧ pSk Z1 ∧ Iv Z1 h1 ∧ agrD [(0, 11), (122, 1000), (129, 2), (129, 3), (0, 10), (22, 5), (36, 4), (36, 5), (10, 3), (10, 4), (10, 5), (10, 6)] h h1 ∧ (k ≤ pPh Z1 - pPh Z + 1 ∧ n ≤ 2 * (pPh Z1 - pPh Z) + 6 ∧ pPh Z ≤ pPh Z1) ∧ pLk Z1 h1 ∧ ((h1 129 2).toInt ≤ (h 129 2).toInt + 4) ∧ ((h1 129 3).toInt ≤ (h 129 3).toInt + 4))) ([.ref (zB Z + 0), .int label, .int width] : List Value).toArray s (gmc Z) (gms Z) (pA (zB Z))) (F0 m 24 ls [.int y24_0, .ref (zB Z + 0)]) := by
    intro y24_0 hJ H locs ls V I L A hl gs_24_0
    have wJ_129_2 : (hJ 129 2).toInt = (h 129 2).toInt := congrArg Int32.toInt (A.get 129 2 (by decide))
    have wJ_129_3 : (hJ 129 3).toInt = (h 129 3).toInt := congrArg Int32.toInt (A.get 129 3 (by decide))
    refine xz_v Z rfl rfl (xr_V M V X (m_X11_requireItem l hl9 S I y24_0) km_X11_requireItem (c_is_0 S) pC11 lkM_X11_231 rfl hl.1 rfl (Nat.le_of_ble_eq_true rfl) ⟨Nat.le_of_ble_eq_true rfl, Nat.le_of_ble_eq_true rfl⟩ (g_rk (by omega) (by omega)) dX11_button_24) V (fun E ce q9 yr1 hr1 H locs pr1 V w1 w2 w3 => ?_) (fun yr1 hr1 kr1 nr1 H locs pr1 V => ?_)
    · obtain ⟨hE, e2, I, pA_r1⟩ := pr1
      rw [← e2] at V
      have A := A.wk (l3 := [(0, 10), (22, 5), (36, 4), (36, 5), (122, 1000), (10, 3), (10, 4), (10, 5), (10, 6)]) (by decide)
      have A := A.tr pA_r1 (by decide)
      have L := L.congr (pA_r1.get 129 2 (by decide)) (pA_r1.get 129 3 (by decide))
      have w_r1_129_2 : (hr1 129 2).toInt = (hJ 129 2).toInt := congrArg Int32.toInt (pA_r1.get 129 2 (by decide))
      have w_r1_129_3 : (hr1 129 3).toInt = (hJ 129 3).toInt := congrArg Int32.toInt (pA_r1.get 129 3 (by decide))
      exact xe_out (Z' := Z) V rfl rfl hct hlk w1 w2 w3 ⟨hE, GR, K, I, A.wk (by decide), ⟨by omega, by omega, hP0⟩, L, (show (hr1 129 2).toInt ≤ (h 129 2).toInt + 4 by omega), (show (hr1 129 3).toInt ≤ (h 129 3).toInt + 4 by omega)⟩ (g_rx (by omega) (by omega) hPm)
    · obtain ⟨e2, rfl, rfl, rfl, fr1⟩ := pr1
      rw [← e2] at V
      refine lv_aload_n hx hb dX11_button_27 rfl (lv_at hl 0 rfl) ?_
      refine pg_r M V 11 3 (c_is_0 S) pC11 fk11_3 (c_r_0_3 S) lkF_X11_33 dX11_button_28 ?_
      refine lv_iload_n hx hb dX11_button_31 rfl (lv_at hl 1 rfl) ?_
      refine pk_i (pr_V M V (m_X8_idOf l S I label ) km_X8_idOf (c_is_36 S) pC8 lkM_X11_234 rfl hl.1 rfl (Nat.le_of_ble_eq_true rfl) ⟨Nat.le_of_ble_eq_true rfl, Nat.le_of_ble_eq_true rfl⟩ (g_r0 (by omega) (by omega)) dX11_button_32) V (fun r2 Zr2 hr2 H locs pr2 _ _ V => ?_)
      obtain ⟨rfl, I, pA_r2⟩ := pr2
      have A := A.tr pA_r2 (by decide)
      have L := L.congr (pA_r2.get 129 2 (by decide)) (pA_r2.get 129 3 (by decide))
      have w_r2_129_2 : (hr2 129 2).toInt = (hJ 129 2).toInt := congrArg Int32.toInt (pA_r2.get 129 2 (by decide))
      have w_r2_129_3 : (hr2 129 3).toInt = (hJ 129 3).toInt := congrArg Int32.toInt (pA_r2.get 129 3 (by decide))
      refine lv_istore_n (lv' := [(3, .int r2), (0, .ref (zB Z + 0)), (1, .int label), (2, .int width)]) hx hb dX11_button_35 rfl hl (by decide) rfl (fun ls hl => ?_)
      refine lv_aload_n hx hb dX11_button_36 rfl (lv_at hl 1 rfl) ?_
      refine lv_iload_n hx hb dX11_button_37 rfl (lv_at hl 0 rfl) ?_
      refine lv_iload_n hx hb dX11_button_38 rfl (lv_at hl 3 rfl) ?_
      refine pk_i (pr_V M V (m_X11_tellBehaving l S I r2 width ) km_X11_tellBehaving (c_is_0 S) pC11 lkM_X11_238 rfl hl.1 rfl (Nat.le_of_ble_eq_true rfl) ⟨Nat.le_of_ble_eq_true rfl, Nat.le_of_ble_eq_true rfl⟩ (g_r0 (by omega) (by omega)) dX11_button_39) V (fun r3 Zr3 hr3 H locs pr3 _ _ V => ?_)
      obtain ⟨rfl, I, pA_r3, fr3_0⟩ := pr3
      have A := A.wk (l3 := [(0, 11), (122, 1000)]) (by decide)
      have A := A.tr pA_r3 (by decide)
      have L := L.congr (pA_r3.get 129 2 (by decide)) (pA_r3.get 129 3 (by decide))
      have w_r3_129_2 : (hr3 129 2).toInt = (hr2 129 2).toInt := congrArg Int32.toInt (pA_r3.get 129 2 (by decide))
      have w_r3_129_3 : (hr3 129 3).toInt = (hr2 129 3).toInt := congrArg Int32.toInt (pA_r3.get 129 3 (by decide))
      refine lv_istore (lv' := [(4, .int r3), (3, .int r2), (0, .ref (zB Z + 0)), (1, .int label), (2, .int width)]) hx hb dX11_button_42 hl (by decide) rfl (fun ls hl => ?_)
      refine lv_aload_n hx hb dX11_button_44 rfl (lv_at hl 2 rfl) ?_
      refine lv_iload_n hx hb dX11_button_45 rfl (lv_at hl 1 rfl) ?_
      refine gz_v Z rfl rfl (pr_V M V (m_X11_drawItem l S I r2 K L (by omega)) km_X11_drawItem (c_is_0 S) pC11 lkM_X11_241 rfl hl.1 rfl (Nat.le_of_ble_eq_true rfl) ⟨Nat.le_of_ble_eq_true rfl, Nat.le_of_ble_eq_true rfl⟩ (g_rg (by omega) (by omega) hP0 hPm) dX11_button_46) V (fun yr4 hr4 kr4 nr4 H locs pr4 V => ?_)
      obtain ⟨gr4, K, I, pA_r4, br4, L, fr4_0, fr4_1⟩ := pr4
      have A := A.wk (l3 := [(0, 11), (122, 1000), (129, 2), (129, 3)]) (by decide)
      have A := A.tr pA_r4 (by decide)
      have S := S.gr (Z1 := (gW Z yr4)) rfl gr4
      have M := pM.to (gW Z yr4) rfl M
      have GR := GR.tr gr4
      have hP0 : pPh Z ≤ pPh (gW Z yr4) := by omega
      have hPm := K.ph
      refine W.widen (k := pPh (gW Z yr4) - pPh Z) (n := 2 * (pPh (gW Z yr4) - pPh Z)) (by omega) (by omega) ?_
      refine lv_aload_n hx hb dX11_button_49 rfl (lv_at hl 2 rfl) ?_
      refine lv_iload_n hx hb dX11_button_50 rfl (lv_at hl 3 rfl) ?_
      refine gz_v (Z := (gW Z yr4)) Z rfl rfl (pr_V (Z := (gW Z yr4)) M V (m_X11_drawLabel l S I label K L (by omega)) km_X11_drawLabel (c_is_0 S) pC11 lkM_X11_244 rfl hl.1 rfl (Nat.le_of_ble_eq_true rfl) ⟨Nat.le_of_ble_eq_true rfl, Nat.le_of_ble_eq_true rfl⟩ (g_rg (by omega) (by omega) hP0 hPm) dX11_button_51) V (fun yr5 hr5 kr5 nr5 H locs pr5 V => ?_)
      obtain ⟨gr5, K, I, pA_r5, br5, L, fr5_0, fr5_1⟩ := pr5
      have A := A.tr pA_r5 (by decide)
      have S := S.gr (Z1 := (gW Z yr5)) rfl gr5
      have M := pM.to (gW Z yr5) rfl M
      have GR := GR.tr gr5
      have hP0 : pPh Z ≤ pPh (gW Z yr5) := by omega
      have hPm := K.ph
      refine W.widen (k := pPh (gW Z yr5) - pPh Z) (n := 2 * (pPh (gW Z yr5) - pPh Z)) (by omega) (by omega) ?_
      refine lv_iload hx hb dX11_button_54 (lv_at hl 0 rfl) ?_
      exact vx_ret (ge_i (Z := Z) (Z' := (gW Z yr5)) M V rfl rfl hr hlk (pn_z (pi_z (by omega))).1 ⟨GR, K, I, A.wk (by decide), ⟨by omega, by omega, hP0⟩, L, by omega, (show (hr5 129 2).toInt ≤ (h 129 2).toInt + 4 by omega), (show (hr5 129 3).toInt ≤ (h 129 3).toInt + 4 by omega)⟩ (g_re (by omega) (by omega) hPm) dX11_button_56)
  have J_23 : ∀ (hJ : pH) (H : Heap) (locs : List Loc) (ls : Array Slot), pV Z hJ s.heap H locs → Iv Z hJ → pLk Z hJ → agrD [] h hJ → lv_has ls 5 [(0, .ref (zB Z + 0)), (1, .int label), (2, .int width)] → W p l e (pRm 8 (gmc Z) (gms Z) 165) s m ([.ref (zB Z + 0), .int label, .int width] : List Value).toArray below meth c H locs (pPh Z - pPh Z) (2 * (pPh Z - pPh Z)) (vx_MQ below (gQi Z (fun r Z1 h1 k n => pGr Z Z1 ∧ pSk Z1 ∧ Iv Z1 h1 ∧ agrD [(0, 11), (122, 1000), (129, 2), (129, 3), (0, 10), (22, 5), (36, 4), (36, 5), (10, 3), (10, 4), (10, 5), (10, 6)] h h1 ∧ (k ≤ pPh Z1 - pPh Z ∧ n ≤ 2 * (pPh Z1 - pPh Z) ∧ pPh Z ≤ pPh Z1) ∧ pLk Z1 h1 ∧ (r.toInt = 0 ∨ r.toInt = 1) ∧ ((h1 129 2).toInt ≤ (h 129 2).toInt + 4) ∧ ((h1 129 3).toInt ≤ (h 129 3).toInt + 4))) (gX Z (fun E Z1 h1 k n => (E = xIA ∨ E = xIS) ∧ pGr Z Z1 ∧ pSk Z1 ∧ Iv Z1 h1 ∧ agrD [(0, 11), (122, 1000), (129, 2), (129, 3), (0, 10), (22, 5), (36, 4), (36, 5), (10, 3), (10, 4), (10, 5), (10, 6)] h h1 ∧ (k ≤ pPh Z1 - pPh Z + 1 ∧ n ≤ 2 * (pPh Z1 - pPh Z) + 6 ∧ pPh Z ≤ pPh Z1) ∧ pLk Z1 h1 ∧ ((h1 129 2).toInt ≤ (h 129 2).toInt + 4) ∧ ((h1 129 3).toInt ≤ (h 129 3).toInt + 4))) ([.ref (zB Z + 0), .int label, .int width] : List Value).toArray s (gmc Z) (gms Z) (pA (zB Z))) (F0 m 23 ls [.ref (zB Z + 0)]) := by
    intro hJ H locs ls V I L A hl
    have wJ_129_2 : (hJ 129 2).toInt = (h 129 2).toInt := congrArg Int32.toInt (A.get 129 2 (by decide))
    have wJ_129_3 : (hJ 129 3).toInt = (h 129 3).toInt := congrArg Int32.toInt (A.get 129 3 (by decide))
    refine lv_iconst (v := 0) hx hb dX11_button_23 (by decide) ?_
    have k_0 : (0 : Int32).toInt = 0 := rfl
    exact J_24 (0 : Int32) _ _ _ _ V I L (A.wk (by decide)) (lv_sub hl [0, 1, 2] rfl) (by omega) 
  refine W.widen (k := pPh Z - pPh Z) (n := 2 * (pPh Z - pPh Z)) (Nat.zero_le _) (Nat.zero_le _) ?_
  refine lv_aload_n hx hb dX11_button_0 rfl (lv_at hl 0 rfl) ?_
  refine lv_iload_n hx hb dX11_button_1 rfl (lv_at hl 1 rfl) ?_
  refine pk_i (pr_S M V (m_X11_isLabel l (Z := Z) (h := _) label) km_X11_isLabel lkM_X11_171 rfl hl.1 rfl (Nat.le_of_ble_eq_true rfl) ⟨Nat.le_of_ble_eq_true rfl, Nat.le_of_ble_eq_true rfl⟩ (g_r0 (by omega) (by omega)) dX11_button_2) V (fun r6 Zr6 hr6 H locs pr6 _ _ V => ?_)
  obtain ⟨rfl, rfl, fr6_0⟩ := pr6
  refine lv_if_eq (tgt := 23) hx hb dX11_button_5 (by decide) (fun c_5 => ?_) (fun c_5 => ?_)
  · skip
    have k_0 : (0 : Int32).toInt = 0 := rfl
    have c_5 := pi_eq.mp c_5
    exact J_23 _ _ _ _ V I L (A.wk (by decide)) (lv_sub hl [0, 1, 2] rfl) 
  · skip
    have k_0 : (0 : Int32).toInt = 0 := rfl
    have c_5 := pi_ne c_5
    refine lv_iload_n hx hb dX11_button_8 rfl (lv_at hl 2 rfl) ?_
    refine lv_iconst (v := 1) hx hb dX11_button_9 (by decide) ?_
    refine lv_sipush (v := 200) hx hb dX11_button_10 (by decide) ?_
    have k_1 : (1 : Int32).toInt = 1 := rfl
    have k_200 : (200 : Int32).toInt = 200 := rfl
    refine pk_i (pr_S M V (m_X11_isWithin l (Z := Z) (h := _) width (1 : Int32) (200 : Int32)) km_X11_isWithin lkM_X11_71 rfl hl.1 rfl (Nat.le_of_ble_eq_true rfl) ⟨Nat.le_of_ble_eq_true rfl, Nat.le_of_ble_eq_true rfl⟩ (g_r0 (by omega) (by omega)) dX11_button_13) V (fun r7 Zr7 hr7 H locs pr7 _ _ V => ?_)
    obtain ⟨rfl, rfl, fr7_0⟩ := pr7
    refine lv_if_eq (tgt := 23) hx hb dX11_button_16 (by decide) (fun c_16 => ?_) (fun c_16 => ?_)
    · skip
      have c_16 := pi_eq.mp c_16
      exact J_23 _ _ _ _ V I L (A.wk (by decide)) (lv_sub hl [0, 1, 2] rfl) 
    · skip
      have c_16 := pi_ne c_16
      refine lv_iconst (v := 1) hx hb dX11_button_19 (by decide) ?_
      refine lv_goto (tgt := 24) hx hb dX11_button_20 (by decide) ?_
      exact J_24 (1 : Int32) _ _ _ _ V I L (A.wk (by decide)) (lv_sub hl [0, 1, 2] rfl) (by omega) 
theorem dX11_check_0 : decode cX11_check 0 = .ok (.aload_n 0, 1) := by decide +kernel
theorem dX11_check_1 : decode cX11_check 1 = .ok (.iload_n 1, 1) := by decide +kernel
theorem dX11_check_2 : decode cX11_check 2 = .ok (.invokestatic 171, 3) := by decide +kernel
theorem dX11_check_5 : decode cX11_check 5 = .ok (.invokevirtual 231, 3) := by decide +kernel
theorem dX11_check_8 : decode cX11_check 8 = .ok (.aload_n 0, 1) := by decide +kernel
theorem dX11_check_9 : decode cX11_check 9 = .ok (.getfield 33, 3) := by decide +kernel
theorem dX11_check_12 : decode cX11_check 12 = .ok (.iload_n 1, 1) := by decide +kernel
theorem dX11_check_13 : decode cX11_check 13 = .ok (.invokevirtual 234, 3) := by decide +kernel
theorem dX11_check_16 : decode cX11_check 16 = .ok (.istore_n 2, 1) := by decide +kernel
theorem dX11_check_17 : decode cX11_check 17 = .ok (.aload_n 0, 1) := by decide +kernel
theorem dX11_check_18 : decode cX11_check 18 = .ok (.iload_n 2, 1) := by decide +kernel
theorem dX11_check_19 : decode cX11_check 19 = .ok (.bipush 12, 2) := by decide +kernel
theorem dX11_check_21 : decode cX11_check 21 = .ok (.invokevirtual 238, 3) := by decide +kernel
theorem dX11_check_24 : decode cX11_check 24 = .ok (.ifCond .eq 11, 3) := by decide +kernel
theorem dX11_check_27 : decode cX11_check 27 = .ok (.aload_n 0, 1) := by decide +kernel
theorem dX11_check_28 : decode cX11_check 28 = .ok (.getfield 47, 3) := by decide +kernel
theorem dX11_check_31 : decode cX11_check 31 = .ok (.iload_n 2, 1) := by decide +kernel
theorem dX11_check_32 : decode cX11_check 32 = .ok (.invokevirtual 247, 3) := by decide +kernel
theorem dX11_check_35 : decode cX11_check 35 = .ok (.aload_n 0, 1) := by decide +kernel
theorem dX11_check_36 : decode cX11_check 36 = .ok (.iload_n 2, 1) := by decide +kernel
theorem dX11_check_37 : decode cX11_check 37 = .ok (.invokevirtual 241, 3) := by decide +kernel
theorem dX11_check_40 : decode cX11_check 40 = .ok (.aload_n 0, 1) := by decide +kernel
theorem dX11_check_41 : decode cX11_check 41 = .ok (.getfield 47, 3) := by decide +kernel
theorem dX11_check_44 : decode cX11_check 44 = .ok (.iload_n 2, 1) := by decide +kernel
theorem dX11_check_45 : decode cX11_check 45 = .ok (.invokevirtual 250, 3) := by decide +kernel
theorem dX11_check_48 : decode cX11_check 48 = .ok (.ireturn, 1) := by decide +kernel
set_option maxHeartbeats 4000000 in
set_option maxRecDepth 100000 in
theorem m_X11_check (l : Launch) (hl9 : l.stackTraces = false) {Z : pZ} (S : pSh Z) {h : pH} (I : Iv Z h) (label : Int32) (K : pSk Z) (L : pLk Z h) (hq3 : (h 129 3).toInt ≤ 8900) : xMet l yX11_check cX11_check 3 (some .int) 8 (gmc Z) (gms Z) 147 Z h [.ref (zB Z + 0), .int label] (gQi Z (fun r Z1 h1 k n => pGr Z Z1 ∧ pSk Z1 ∧ Iv Z1 h1 ∧ agrD [(0, 11), (122, 1000), (123, 1000), (124, 1000), (125, 1000), (126, 1000), (127, 1000), (128, 1000), (129, 2), (129, 3), (0, 10), (22, 5), (36, 4), (36, 5), (10, 3), (10, 4), (10, 5), (10, 6)] h h1 ∧ (k ≤ pPh Z1 - pPh Z ∧ n ≤ 2 * (pPh Z1 - pPh Z) ∧ pPh Z ≤ pPh Z1) ∧ pLk Z1 h1 ∧ ((h1 129 2).toInt ≤ (h 129 2).toInt + 1) ∧ ((h1 129 3).toInt ≤ (h 129 3).toInt + 1))) (gX Z (fun E Z1 h1 k n => (E = xIA ∨ E = xIS) ∧ pGr Z Z1 ∧ pSk Z1 ∧ Iv Z1 h1 ∧ agrD [(0, 11), (122, 1000), (123, 1000), (124, 1000), (125, 1000), (126, 1000), (127, 1000), (128, 1000), (129, 2), (129, 3), (0, 10), (22, 5), (36, 4), (36, 5), (10, 3), (10, 4), (10, 5), (10, 6)] h h1 ∧ (k ≤ pPh Z1 - pPh Z + 1 ∧ n ≤ 2 * (pPh Z1 - pPh Z) + 6 ∧ pPh Z ≤ pPh Z1) ∧ pLk Z1 h1 ∧ ((h1 129 2).toInt ≤ (h 129 2).toInt + 1) ∧ ((h1 129 3).toInt ≤ (h 129 3).toInt + 1))) := by
  refine xOfW (lv := [(0, .ref (zB Z + 0)), (1, .int label)]) (by decide) (Nat.le_of_ble_eq_true rfl) rfl ?_
  intro p e s m below meth c ls M hr hlk hnm V hl hct X
  have hx := M.1.1
  have hb := M.1.2.1
  have A : agrD [] h h := agrD.rf
  have hP0 : pPh Z ≤ pPh Z := Nat.le_refl _
  have hPm := K.ph
  have GR : pGr Z Z := pGr.rf
  have J_35 : ∀ (x35_2 : Int32) (hJ : pH) (H : Heap) (locs : List Loc) (ls : Array Slot), pV Z hJ s.heap H locs → Iv Z hJ → pLk Z hJ → agrD [(0, 11), (122, 1000), (123, 5), (124, 1000), (125, 1000)] h hJ → lv_has ls 3 [(0, .ref (zB Z + 0)), (1, .int label), (2, .int x35_2)] → W p l e (pRm 8 (gmc Z) (gms Z) 147) s m ([.ref (zB Z + 0), .int label] : List Value).toArray below meth c H locs (pPh Z - pPh Z) (2 * (pPh Z - pPh Z)) (vx_MQ below (gQi Z (fun r Z1 h1 k n => pGr Z Z1 ∧ pSk Z1 ∧ Iv Z1 h1 ∧ agrD [(0, 11), (122, 1000), (123, 1000), (124, 1000), (125, 1000), (126, 1000), (127, 1000), (128, 1000), (129, 2), (129, 3), (0, 10), (22, 5), (36, 4), (36, 5), (10, 3), (10, 4), (10, 5), (10, 6)] h h1 ∧ (k ≤ pPh Z1 - pPh Z ∧ n ≤ 2 * (pPh Z1 - pPh Z) ∧ pPh Z ≤ pPh Z1) ∧ pLk Z1 h1 ∧ ((h1 129 2).toInt ≤ (h 129 2).toInt + 1) ∧ ((h1 129 3).toInt ≤ (h 129 3).toInt + 1))) (gX Z (fun E Z1 h1 k n => (E = xIA ∨ E = xIS) ∧ pGr Z Z1 ∧ pSk Z1 ∧ Iv Z1 h1 ∧ agrD [(0, 11), (122, 1000), (123, 1000), (124, 1000), (125, 1000), (126, 1000), (127, 1000), (128, 1000), (129, 2), (129, 3), (0, 10), (22, 5), (36, 4), (36, 5), (10, 3), (10, 4), (10, 5), (10, 6)] h h1 ∧ (k ≤ pPh Z1 - pPh Z + 1 ∧ n ≤ 2 * (pPh Z1 - pPh Z) + 6 ∧ pPh Z ≤ pPh Z1) ∧ pLk Z1 h1 ∧ ((h1 129 2).toInt ≤ (h 129 2).toInt + 1) ∧ ((h1 129 3).toInt ≤ (h 129 3).toInt + 1))) ([.ref (zB Z + 0), .int label] : List Value).toArray s (gmc Z) (gms Z) (pA (zB Z))) (F0 m 35 ls []) := by
    intro x35_2 hJ H locs ls V I L A hl
    have wJ_129_2 : (hJ 129 2).toInt = (h 129 2).toInt := congrArg Int32.toInt (A.get 129 2 (by decide))
    have wJ_129_3 : (hJ 129 3).toInt = (h 129 3).toInt := congrArg Int32.toInt (A.get 129 3 (by decide))
    refine lv_aload_n hx hb dX11_check_35 rfl (lv_at hl 0 rfl) ?_
    refine lv_iload_n hx hb dX11_check_36 rfl (lv_at hl 2 rfl) ?_
    refine gz_v Z rfl rfl (pr_V M V (m_X11_drawItem l S I x35_2 K L (by omega)) km_X11_drawItem (c_is_0 S) pC11 lkM_X11_241 rfl hl.1 rfl (Nat.le_of_ble_eq_true rfl) ⟨Nat.le_of_ble_eq_true rfl, Nat.le_of_ble_eq_true rfl⟩ (g_rg (by omega) (by omega) hP0 hPm) dX11_check_37) V (fun yr1 hr1 kr1 nr1 H locs pr1 V => ?_)
    obtain ⟨gr1, K, I, pA_r1, br1, L, fr1_0, fr1_1⟩ := pr1
    have A := A.wk (l3 := [(0, 11), (122, 1000), (123, 5), (124, 1000), (125, 1000), (129, 2), (129, 3)]) (by decide)
    have A := A.tr pA_r1 (by decide)
    have S := S.gr (Z1 := (gW Z yr1)) rfl gr1
    have M := pM.to (gW Z yr1) rfl M
    have GR := GR.tr gr1
    have hP0 : pPh Z ≤ pPh (gW Z yr1) := by omega
    have hPm := K.ph
    refine W.widen (k := pPh (gW Z yr1) - pPh Z) (n := 2 * (pPh (gW Z yr1) - pPh Z)) (by omega) (by omega) ?_
    refine lv_aload_n hx hb dX11_check_40 rfl (lv_at hl 0 rfl) ?_
    refine pg_r (Z := (gW Z yr1)) M V 11 5 (c_is_0 S) pC11 fk11_5 (c_r_0_5 S) lkF_X11_47 dX11_check_41 ?_
    refine lv_iload_n hx hb dX11_check_44 rfl (lv_at hl 2 rfl) ?_
    refine pk_i (pr_V (Z := (gW Z yr1)) M V (m_X10_numberOf l S I x35_2 ) km_X10_numberOf (c_is_123 S) pC10 lkM_X11_250 rfl hl.1 rfl (Nat.le_of_ble_eq_true rfl) ⟨Nat.le_of_ble_eq_true rfl, Nat.le_of_ble_eq_true rfl⟩ (g_r0 (by omega) (by omega)) dX11_check_45) V (fun r2 Zr2 hr2 H locs pr2 _ _ V => ?_)
    obtain ⟨rfl, I, pA_r2⟩ := pr2
    have A := A.tr pA_r2 (by decide)
    have L := L.congr (pA_r2.get 129 2 (by decide)) (pA_r2.get 129 3 (by decide))
    have w_r2_129_2 : (hr2 129 2).toInt = (hr1 129 2).toInt := congrArg Int32.toInt (pA_r2.get 129 2 (by decide))
    have w_r2_129_3 : (hr2 129 3).toInt = (hr1 129 3).toInt := congrArg Int32.toInt (pA_r2.get 129 3 (by decide))
    exact vx_ret (ge_i (Z := Z) (Z' := (gW Z yr1)) M V rfl rfl hr hlk rfl ⟨GR, K, I, A.wk (by decide), ⟨by omega, by omega, hP0⟩, L, (show (hr2 129 2).toInt ≤ (h 129 2).toInt + 1 by omega), (show (hr2 129 3).toInt ≤ (h 129 3).toInt + 1 by omega)⟩ (g_re (by omega) (by omega) hPm) dX11_check_48)
  refine W.widen (k := pPh Z - pPh Z) (n := 2 * (pPh Z - pPh Z)) (Nat.zero_le _) (Nat.zero_le _) ?_
  refine lv_aload_n hx hb dX11_check_0 rfl (lv_at hl 0 rfl) ?_
  refine lv_iload_n hx hb dX11_check_1 rfl (lv_at hl 1 rfl) ?_
  refine pk_i (pr_S M V (m_X11_isLabel l (Z := Z) (h := _) label) km_X11_isLabel lkM_X11_171 rfl hl.1 rfl (Nat.le_of_ble_eq_true rfl) ⟨Nat.le_of_ble_eq_true rfl, Nat.le_of_ble_eq_true rfl⟩ (g_r0 (by omega) (by omega)) dX11_check_2) V (fun r3 Zr3 hr3 H locs pr3 _ _ V => ?_)
  obtain ⟨rfl, rfl, fr3_0⟩ := pr3
  refine xz_v Z rfl rfl (xr_V M V X (m_X11_requireItem l hl9 S I r3) km_X11_requireItem (c_is_0 S) pC11 lkM_X11_231 rfl hl.1 rfl (Nat.le_of_ble_eq_true rfl) ⟨Nat.le_of_ble_eq_true rfl, Nat.le_of_ble_eq_true rfl⟩ (g_rk (by omega) (by omega)) dX11_check_5) V (fun E ce q9 yr4 hr4 H locs pr4 V w1 w2 w3 => ?_) (fun yr4 hr4 kr4 nr4 H locs pr4 V => ?_)
  · obtain ⟨hE, e2, I, pA_r4⟩ := pr4
    rw [← e2] at V
    have A := A.wk (l3 := [(0, 10), (22, 5), (36, 4), (36, 5), (122, 1000), (10, 3), (10, 4), (10, 5), (10, 6)]) (by decide)
    have A := A.tr pA_r4 (by decide)
    have L := L.congr (pA_r4.get 129 2 (by decide)) (pA_r4.get 129 3 (by decide))
    have w_r4_129_2 : (hr4 129 2).toInt = (h 129 2).toInt := congrArg Int32.toInt (pA_r4.get 129 2 (by decide))
    have w_r4_129_3 : (hr4 129 3).toInt = (h 129 3).toInt := congrArg Int32.toInt (pA_r4.get 129 3 (by decide))
    exact xe_out (Z' := Z) V rfl rfl hct hlk w1 w2 w3 ⟨hE, GR, K, I, A.wk (by decide), ⟨by omega, by omega, hP0⟩, L, (show (hr4 129 2).toInt ≤ (h 129 2).toInt + 1 by omega), (show (hr4 129 3).toInt ≤ (h 129 3).toInt + 1 by omega)⟩ (g_rx (by omega) (by omega) hPm)
  · obtain ⟨e2, rfl, rfl, rfl, fr4⟩ := pr4
    rw [← e2] at V
    refine lv_aload_n hx hb dX11_check_8 rfl (lv_at hl 0 rfl) ?_
    refine pg_r M V 11 3 (c_is_0 S) pC11 fk11_3 (c_r_0_3 S) lkF_X11_33 dX11_check_9 ?_
    refine lv_iload_n hx hb dX11_check_12 rfl (lv_at hl 1 rfl) ?_
    refine pk_i (pr_V M V (m_X8_idOf l S I label ) km_X8_idOf (c_is_36 S) pC8 lkM_X11_234 rfl hl.1 rfl (Nat.le_of_ble_eq_true rfl) ⟨Nat.le_of_ble_eq_true rfl, Nat.le_of_ble_eq_true rfl⟩ (g_r0 (by omega) (by omega)) dX11_check_13) V (fun r5 Zr5 hr5 H locs pr5 _ _ V => ?_)
    obtain ⟨rfl, I, pA_r5⟩ := pr5
    have A := A.tr pA_r5 (by decide)
    have L := L.congr (pA_r5.get 129 2 (by decide)) (pA_r5.get 129 3 (by decide))
    have w_r5_129_2 : (hr5 129 2).toInt = (h 129 2).toInt := congrArg Int32.toInt (pA_r5.get 129 2 (by decide))
    have w_r5_129_3 : (hr5 129 3).toInt = (h 129 3).toInt := congrArg Int32.toInt (pA_r5.get 129 3 (by decide))
    refine lv_istore_n (lv' := [(2, .int r5), (0, .ref (zB Z + 0)), (1, .int label)]) hx hb dX11_check_16 rfl hl (by decide) rfl (fun ls hl => ?_)
    refine lv_aload_n hx hb dX11_check_17 rfl (lv_at hl 1 rfl) ?_
    refine lv_iload_n hx hb dX11_check_18 rfl (lv_at hl 0 rfl) ?_
    refine lv_bipush (v := 12) hx hb dX11_check_19 (by decide) ?_
    refine pk_i (pr_V M V (m_X11_tellBehaving l S I r5 (12 : Int32) ) km_X11_tellBehaving (c_is_0 S) pC11 lkM_X11_238 rfl hl.1 rfl (Nat.le_of_ble_eq_true rfl) ⟨Nat.le_of_ble_eq_true rfl, Nat.le_of_ble_eq_true rfl⟩ (g_r0 (by omega) (by omega)) dX11_check_21) V (fun r6 Zr6 hr6 H locs pr6 _ _ V => ?_)
    obtain ⟨rfl, I, pA_r6, fr6_0⟩ := pr6
    have A := A.wk (l3 := [(0, 11), (122, 1000)]) (by decide)
    have A := A.tr pA_r6 (by decide)
    have L := L.congr (pA_r6.get 129 2 (by decide)) (pA_r6.get 129 3 (by decide))
    have w_r6_129_2 : (hr6 129 2).toInt = (hr5 129 2).toInt := congrArg Int32.toInt (pA_r6.get 129 2 (by decide))
    have w_r6_129_3 : (hr6 129 3).toInt = (hr5 129 3).toInt := congrArg Int32.toInt (pA_r6.get 129 3 (by decide))
    refine lv_if_eq (tgt := 35) hx hb dX11_check_24 (by decide) (fun c_24 => ?_) (fun c_24 => ?_)
    · skip
      have k_0 : (0 : Int32).toInt = 0 := rfl
      have c_24 := pi_eq.mp c_24
      exact J_35 r5 _ _ _ _ V I L (A.wk (by decide)) (lv_sub hl [1, 2, 0] rfl) 
    · skip
      have k_0 : (0 : Int32).toInt = 0 := rfl
      have c_24 := pi_ne c_24
      refine lv_aload_n hx hb dX11_check_27 rfl (lv_at hl 1 rfl) ?_
      refine pg_r M V 11 5 (c_is_0 S) pC11 fk11_5 (c_r_0_5 S) lkF_X11_47 dX11_check_28 ?_
      refine lv_iload_n hx hb dX11_check_31 rfl (lv_at hl 0 rfl) ?_
      refine pk_v (pr_V M V (m_X10_toggle l S I r5 ) km_X10_toggle (c_is_123 S) pC10 lkM_X11_247 rfl hl.1 rfl (Nat.le_of_ble_eq_true rfl) ⟨Nat.le_of_ble_eq_true rfl, Nat.le_of_ble_eq_true rfl⟩ (g_r0 (by omega) (by omega)) dX11_check_32) V (fun Zr7 hr7 H locs pr7 _ _ V => ?_)
      obtain ⟨rfl, I, pA_r7⟩ := pr7
      have A := A.wk (l3 := [(0, 11), (122, 1000), (123, 5), (124, 1000), (125, 1000)]) (by decide)
      have A := A.tr pA_r7 (by decide)
      have L := L.congr (pA_r7.get 129 2 (by decide)) (pA_r7.get 129 3 (by decide))
      have w_r7_129_2 : (hr7 129 2).toInt = (hr6 129 2).toInt := congrArg Int32.toInt (pA_r7.get 129 2 (by decide))
      have w_r7_129_3 : (hr7 129 3).toInt = (hr6 129 3).toInt := congrArg Int32.toInt (pA_r7.get 129 3 (by decide))
      exact J_35 r5 _ _ _ _ V I L (A.wk (by decide)) (lv_sub hl [1, 2, 0] rfl) 
theorem dX11_slider_0 : decode cX11_slider 0 = .ok (.aload_n 0, 1) := by decide +kernel
theorem dX11_slider_1 : decode cX11_slider 1 = .ok (.iload_n 1, 1) := by decide +kernel
theorem dX11_slider_2 : decode cX11_slider 2 = .ok (.invokestatic 171, 3) := by decide +kernel
theorem dX11_slider_5 : decode cX11_slider 5 = .ok (.ifCond .eq 51, 3) := by decide +kernel
theorem dX11_slider_8 : decode cX11_slider 8 = .ok (.iload_n 2, 1) := by decide +kernel
theorem dX11_slider_9 : decode cX11_slider 9 = .ok (.iconst 2, 1) := by decide +kernel
theorem dX11_slider_10 : decode cX11_slider 10 = .ok (.sipush 200, 3) := by decide +kernel
theorem dX11_slider_13 : decode cX11_slider 13 = .ok (.invokestatic 71, 3) := by decide +kernel
theorem dX11_slider_16 : decode cX11_slider 16 = .ok (.ifCond .eq 40, 3) := by decide +kernel
theorem dX11_slider_19 : decode cX11_slider 19 = .ok (.iload_n 3, 1) := by decide +kernel
theorem dX11_slider_20 : decode cX11_slider 20 = .ok (.sipush (-1000), 3) := by decide +kernel
theorem dX11_slider_23 : decode cX11_slider 23 = .ok (.sipush 1000, 3) := by decide +kernel
theorem dX11_slider_26 : decode cX11_slider 26 = .ok (.invokestatic 71, 3) := by decide +kernel
theorem dX11_slider_29 : decode cX11_slider 29 = .ok (.ifCond .eq 27, 3) := by decide +kernel
theorem dX11_slider_32 : decode cX11_slider 32 = .ok (.iload 4, 2) := by decide +kernel
theorem dX11_slider_34 : decode cX11_slider 34 = .ok (.sipush (-1000), 3) := by decide +kernel
theorem dX11_slider_37 : decode cX11_slider 37 = .ok (.sipush 1000, 3) := by decide +kernel
theorem dX11_slider_40 : decode cX11_slider 40 = .ok (.invokestatic 71, 3) := by decide +kernel
theorem dX11_slider_43 : decode cX11_slider 43 = .ok (.ifCond .eq 13, 3) := by decide +kernel
theorem dX11_slider_46 : decode cX11_slider 46 = .ok (.iload_n 3, 1) := by decide +kernel
theorem dX11_slider_47 : decode cX11_slider 47 = .ok (.iload 4, 2) := by decide +kernel
theorem dX11_slider_49 : decode cX11_slider 49 = .ok (.if_icmp .ge 7, 3) := by decide +kernel
theorem dX11_slider_52 : decode cX11_slider 52 = .ok (.iconst 1, 1) := by decide +kernel
theorem dX11_slider_53 : decode cX11_slider 53 = .ok (.goto 4, 3) := by decide +kernel
theorem dX11_slider_56 : decode cX11_slider 56 = .ok (.iconst 0, 1) := by decide +kernel
theorem dX11_slider_57 : decode cX11_slider 57 = .ok (.invokevirtual 231, 3) := by decide +kernel
theorem dX11_slider_60 : decode cX11_slider 60 = .ok (.aload_n 0, 1) := by decide +kernel
theorem dX11_slider_61 : decode cX11_slider 61 = .ok (.getfield 33, 3) := by decide +kernel
theorem dX11_slider_64 : decode cX11_slider 64 = .ok (.iload_n 1, 1) := by decide +kernel
theorem dX11_slider_65 : decode cX11_slider 65 = .ok (.invokevirtual 234, 3) := by decide +kernel
theorem dX11_slider_68 : decode cX11_slider 68 = .ok (.istore 5, 2) := by decide +kernel
theorem dX11_slider_70 : decode cX11_slider 70 = .ok (.aload_n 0, 1) := by decide +kernel
theorem dX11_slider_71 : decode cX11_slider 71 = .ok (.iload 5, 2) := by decide +kernel
theorem dX11_slider_73 : decode cX11_slider 73 = .ok (.iload_n 2, 1) := by decide +kernel
theorem dX11_slider_74 : decode cX11_slider 74 = .ok (.invokevirtual 238, 3) := by decide +kernel
theorem dX11_slider_77 : decode cX11_slider 77 = .ok (.pop, 1) := by decide +kernel
theorem dX11_slider_78 : decode cX11_slider 78 = .ok (.aload_n 0, 1) := by decide +kernel
theorem dX11_slider_79 : decode cX11_slider 79 = .ok (.iload 5, 2) := by decide +kernel
theorem dX11_slider_81 : decode cX11_slider 81 = .ok (.iload_n 3, 1) := by decide +kernel
theorem dX11_slider_82 : decode cX11_slider 82 = .ok (.iload 4, 2) := by decide +kernel
theorem dX11_slider_84 : decode cX11_slider 84 = .ok (.invokevirtual 253, 3) := by decide +kernel
theorem dX11_slider_87 : decode cX11_slider 87 = .ok (.istore 6, 2) := by decide +kernel
theorem dX11_slider_89 : decode cX11_slider 89 = .ok (.aload_n 0, 1) := by decide +kernel
theorem dX11_slider_90 : decode cX11_slider 90 = .ok (.getfield 47, 3) := by decide +kernel
theorem dX11_slider_93 : decode cX11_slider 93 = .ok (.iload 5, 2) := by decide +kernel
theorem dX11_slider_95 : decode cX11_slider 95 = .ok (.iload 6, 2) := by decide +kernel
theorem dX11_slider_97 : decode cX11_slider 97 = .ok (.invokevirtual 257, 3) := by decide +kernel
theorem dX11_slider_100 : decode cX11_slider 100 = .ok (.aload_n 0, 1) := by decide +kernel
theorem dX11_slider_101 : decode cX11_slider 101 = .ok (.iload 5, 2) := by decide +kernel
theorem dX11_slider_103 : decode cX11_slider 103 = .ok (.invokevirtual 241, 3) := by decide +kernel
theorem dX11_slider_106 : decode cX11_slider 106 = .ok (.aload_n 0, 1) := by decide +kernel
theorem dX11_slider_107 : decode cX11_slider 107 = .ok (.iload_n 1, 1) := by decide +kernel
theorem dX11_slider_108 : decode cX11_slider 108 = .ok (.invokevirtual 244, 3) := by decide +kernel
theorem dX11_slider_111 : decode cX11_slider 111 = .ok (.iload 6, 2) := by decide +kernel
theorem dX11_slider_113 : decode cX11_slider 113 = .ok (.ireturn, 1) := by decide +kernel
set_option maxHeartbeats 4000000 in
set_option maxRecDepth 100000 in
theorem m_X11_slider (l : Launch) (hl9 : l.stackTraces = false) {Z : pZ} (S : pSh Z) {h : pH} (I : Iv Z h) (label : Int32) (width : Int32) (low : Int32) (high : Int32) (K : pSk Z) (L : pLk Z h) (hq3 : (h 129 3).toInt ≤ 8900) : xMet l yX11_slider cX11_slider 7 (some .int) 8 (gmc Z) (gms Z) 165 Z h [.ref (zB Z + 0), .int label, .int width, .int low, .int high] (gQi Z (fun r Z1 h1 k n => pGr Z Z1 ∧ pSk Z1 ∧ Iv Z1 h1 ∧ agrD [(0, 11), (122, 1000), (123, 1000), (124, 1000), (125, 1000), (126, 1000), (127, 1000), (128, 1000), (129, 2), (129, 3), (0, 10), (22, 5), (36, 4), (36, 5), (10, 3), (10, 4), (10, 5), (10, 6)] h h1 ∧ (k ≤ pPh Z1 - pPh Z ∧ n ≤ 2 * (pPh Z1 - pPh Z) ∧ pPh Z ≤ pPh Z1) ∧ pLk Z1 h1 ∧ ((h1 129 2).toInt ≤ (h 129 2).toInt + 4) ∧ ((h1 129 3).toInt ≤ (h 129 3).toInt + 4))) (gX Z (fun E Z1 h1 k n => (E = xIA ∨ E = xIS) ∧ pGr Z Z1 ∧ pSk Z1 ∧ Iv Z1 h1 ∧ agrD [(0, 11), (122, 1000), (123, 1000), (124, 1000), (125, 1000), (126, 1000), (127, 1000), (128, 1000), (129, 2), (129, 3), (0, 10), (22, 5), (36, 4), (36, 5), (10, 3), (10, 4), (10, 5), (10, 6)] h h1 ∧ (k ≤ pPh Z1 - pPh Z + 1 ∧ n ≤ 2 * (pPh Z1 - pPh Z) + 6 ∧ pPh Z ≤ pPh Z1) ∧ pLk Z1 h1 ∧ ((h1 129 2).toInt ≤ (h 129 2).toInt + 4) ∧ ((h1 129 3).toInt ≤ (h 129 3).toInt + 4))) := by
  refine xOfW (lv := [(0, .ref (zB Z + 0)), (1, .int label), (2, .int width), (3, .int low), (4, .int high)]) (by decide) (Nat.le_of_ble_eq_true rfl) rfl ?_
  intro p e s m below meth c ls M hr hlk hnm V hl hct X
  have hx := M.1.1
  have hb := M.1.2.1
  have A : agrD [] h h := agrD.rf
  have hP0 : pPh Z ≤ pPh Z := Nat.le_refl _
  have hPm := K.ph
  have GR : pGr Z Z := pGr.rf
  have J_57 : ∀ (y57_0 : Int32) (hJ : pH) (H : Heap) (locs : List Loc) (ls : Array Slot), pV Z hJ s.heap H locs → Iv Z hJ → pLk Z hJ → agrD [] h hJ → lv_has ls 7 [(0, .ref (zB Z + 0)), (1, .int label), (2, .int width), (3, .int low), (4, .int high)] → (0 ≤ y57_0.toInt ∧ y57_0.toInt ≤ 1) → W p l e (pRm 8 (gmc Z) (gms Z) 165) s m ([.ref (zB Z + 0), .int label, .int width, .int low, .int high] : List Value).toArray below meth c H locs (pPh Z - pPh Z) (2 * (pPh Z - pPh Z)) (vx_MQ below (gQi Z (fun r Z1 h1 k n => pGr Z Z1 ∧ pSk Z1 ∧ Iv Z1 h1 ∧ agrD [(0, 11), (122, 1000), (123, 1000), (124, 1000), (125, 1000), (126, 1000), (127, 1000), (128, 1000), (129, 2), (129, 3), (0, 10), (22, 5), (36, 4), (36, 5), (10, 3), (10, 4), (10, 5), (10, 6)] h h1 ∧ (k ≤ pPh Z1 - pPh Z ∧ n ≤ 2 * (pPh Z1 - pPh Z) ∧ pPh Z ≤ pPh Z1) ∧ pLk Z1 h1 ∧ ((h1 129 2).toInt ≤ (h 129 2).toInt + 4) ∧ ((h1 129 3).toInt ≤ (h 129 3).toInt + 4))) (gX Z (fun E Z1 h1 k n => (E = xIA ∨ E = xIS) ∧ pGr Z Z1 ∧ pSk Z1 ∧ Iv Z1 h1 ∧ agrD [(0, 11), (122, 1000), (123, 1000), (124, 1000), (125, 1000), (126, 1000), (127, 1000), (128, 1000), (129, 2), (129, 3), (0, 10), (22, 5), (36, 4), (36, 5), (10, 3), (10, 4), (10, 5), (10, 6)] h h1 ∧ (k ≤ pPh Z1 - pPh Z + 1 ∧ n ≤ 2 * (pPh Z1 - pPh Z) + 6 ∧ pPh Z ≤ pPh Z1) ∧ pLk Z1 h1 ∧ ((h1 129 2).toInt ≤ (h 129 2).toInt + 4) ∧ ((h1 129 3).toInt ≤ (h 129 3).toInt + 4))) ([.ref (zB Z + 0), .int label, .int width, .int low, .int high] : List Value).toArray s (gmc Z) (gms Z) (pA (zB Z))) (F0 m 57 ls [.int y57_0, .ref (zB Z + 0)]) := by
    intro y57_0 hJ H locs ls V I L A hl gs_57_0
    have wJ_129_2 : (hJ 129 2).toInt = (h 129 2).toInt := congrArg Int32.toInt (A.get 129 2 (by decide))
    have wJ_129_3 : (hJ 129 3).toInt = (h 129 3).toInt := congrArg Int32.toInt (A.get 129 3 (by decide))
    refine xz_v Z rfl rfl (xr_V M V X (m_X11_requireItem l hl9 S I y57_0) km_X11_requireItem (c_is_0 S) pC11 lkM_X11_231 rfl hl.1 rfl (Nat.le_of_ble_eq_true rfl) ⟨Nat.le_of_ble_eq_true rfl, Nat.le_of_ble_eq_true rfl⟩ (g_rk (by omega) (by omega)) dX11_slider_57) V (fun E ce q9 yr1 hr1 H locs pr1 V w1 w2 w3 => ?_) (fun yr1 hr1 kr1 nr1 H locs pr1 V => ?_)
    · obtain ⟨hE, e2, I, pA_r1⟩ := pr1
      rw [← e2] at V
      have A := A.wk (l3 := [(0, 10), (22, 5), (36, 4), (36, 5), (122, 1000), (10, 3), (10, 4), (10, 5), (10, 6)]) (by decide)
      have A := A.tr pA_r1 (by decide)
      have L := L.congr (pA_r1.get 129 2 (by decide)) (pA_r1.get 129 3 (by decide))
      have w_r1_129_2 : (hr1 129 2).toInt = (hJ 129 2).toInt := congrArg Int32.toInt (pA_r1.get 129 2 (by decide))
      have w_r1_129_3 : (hr1 129 3).toInt = (hJ 129 3).toInt := congrArg Int32.toInt (pA_r1.get 129 3 (by decide))
      exact xe_out (Z' := Z) V rfl rfl hct hlk w1 w2 w3 ⟨hE, GR, K, I, A.wk (by decide), ⟨by omega, by omega, hP0⟩, L, (show (hr1 129 2).toInt ≤ (h 129 2).toInt + 4 by omega), (show (hr1 129 3).toInt ≤ (h 129 3).toInt + 4 by omega)⟩ (g_rx (by omega) (by omega) hPm)
    · obtain ⟨e2, rfl, rfl, rfl, fr1⟩ := pr1
      rw [← e2] at V
      refine lv_aload_n hx hb dX11_slider_60 rfl (lv_at hl 0 rfl) ?_
      refine pg_r M V 11 3 (c_is_0 S) pC11 fk11_3 (c_r_0_3 S) lkF_X11_33 dX11_slider_61 ?_
      refine lv_iload_n hx hb dX11_slider_64 rfl (lv_at hl 1 rfl) ?_
      refine pk_i (pr_V M V (m_X8_idOf l S I label ) km_X8_idOf (c_is_36 S) pC8 lkM_X11_234 rfl hl.1 rfl (Nat.le_of_ble_eq_true rfl) ⟨Nat.le_of_ble_eq_true rfl, Nat.le_of_ble_eq_true rfl⟩ (g_r0 (by omega) (by omega)) dX11_slider_65) V (fun r2 Zr2 hr2 H locs pr2 _ _ V => ?_)
      obtain ⟨rfl, I, pA_r2⟩ := pr2
      have A := A.tr pA_r2 (by decide)
      have L := L.congr (pA_r2.get 129 2 (by decide)) (pA_r2.get 129 3 (by decide))
      have w_r2_129_2 : (hr2 129 2).toInt = (hJ 129 2).toInt := congrArg Int32.toInt (pA_r2.get 129 2 (by decide))
      have w_r2_129_3 : (hr2 129 3).toInt = (hJ 129 3).toInt := congrArg Int32.toInt (pA_r2.get 129 3 (by decide))
      refine lv_istore (lv' := [(5, .int r2), (0, .ref (zB Z + 0)), (1, .int label), (2, .int width), (3, .int low), (4, .int high)]) hx hb dX11_slider_68 hl (by decide) rfl (fun ls hl => ?_)
      refine lv_aload_n hx hb dX11_slider_70 rfl (lv_at hl 1 rfl) ?_
      refine lv_iload hx hb dX11_slider_71 (lv_at hl 0 rfl) ?_
      refine lv_iload_n hx hb dX11_slider_73 rfl (lv_at hl 3 rfl) ?_
      refine pk_i (pr_V M V (m_X11_tellBehaving l S I r2 width ) km_X11_tellBehaving (c_is_0 S) pC11 lkM_X11_238 rfl hl.1 rfl (Nat.le_of_ble_eq_true rfl) ⟨Nat.le_of_ble_eq_true rfl, Nat.le_of_ble_eq_true rfl⟩ (g_r0 (by omega) (by omega)) dX11_slider_74) V (fun r3 Zr3 hr3 H locs pr3 _ _ V => ?_)
      obtain ⟨rfl, I, pA_r3, fr3_0⟩ := pr3
      have A := A.wk (l3 := [(0, 11), (122, 1000)]) (by decide)
      have A := A.tr pA_r3 (by decide)
      have L := L.congr (pA_r3.get 129 2 (by decide)) (pA_r3.get 129 3 (by decide))
      have w_r3_129_2 : (hr3 129 2).toInt = (hr2 129 2).toInt := congrArg Int32.toInt (pA_r3.get 129 2 (by decide))
      have w_r3_129_3 : (hr3 129 3).toInt = (hr2 129 3).toInt := congrArg Int32.toInt (pA_r3.get 129 3 (by decide))
      refine lv_pop hx hb dX11_slider_77 rfl ?_
      refine lv_aload_n hx hb dX11_slider_78 rfl (lv_at hl 1 rfl) ?_
      refine lv_iload hx hb dX11_slider_79 (lv_at hl 0 rfl) ?_
      refine lv_iload_n hx hb dX11_slider_81 rfl (lv_at hl 4 rfl) ?_
      refine lv_iload hx hb dX11_slider_82 (lv_at hl 5 rfl) ?_
      refine pk_i (pr_V M V (m_X11_slide l S I r2 low high ) km_X11_slide (c_is_0 S) pC11 lkM_X11_253 rfl hl.1 rfl (Nat.le_of_ble_eq_true rfl) ⟨Nat.le_of_ble_eq_true rfl, Nat.le_of_ble_eq_true rfl⟩ (g_r0 (by omega) (by omega)) dX11_slider_84) V (fun r4 Zr4 hr4 H locs pr4 _ _ V => ?_)
      obtain ⟨rfl, I, pA_r4⟩ := pr4
      have A := A.tr pA_r4 (by decide)
      have L := L.congr (pA_r4.get 129 2 (by decide)) (pA_r4.get 129 3 (by decide))
      have w_r4_129_2 : (hr4 129 2).toInt = (hr3 129 2).toInt := congrArg Int32.toInt (pA_r4.get 129 2 (by decide))
      have w_r4_129_3 : (hr4 129 3).toInt = (hr3 129 3).toInt := congrArg Int32.toInt (pA_r4.get 129 3 (by decide))
      refine lv_istore (lv' := [(6, .int r4), (5, .int r2), (0, .ref (zB Z + 0)), (1, .int label), (2, .int width), (3, .int low), (4, .int high)]) hx hb dX11_slider_87 hl (by decide) rfl (fun ls hl => ?_)
      refine lv_aload_n hx hb dX11_slider_89 rfl (lv_at hl 2 rfl) ?_
      refine pg_r M V 11 5 (c_is_0 S) pC11 fk11_5 (c_r_0_5 S) lkF_X11_47 dX11_slider_90 ?_
      refine lv_iload hx hb dX11_slider_93 (lv_at hl 1 rfl) ?_
      refine lv_iload hx hb dX11_slider_95 (lv_at hl 0 rfl) ?_
      refine pk_v (pr_V M V (m_X10_setNumber l S I r2 r4 ) km_X10_setNumber (c_is_123 S) pC10 lkM_X11_257 rfl hl.1 rfl (Nat.le_of_ble_eq_true rfl) ⟨Nat.le_of_ble_eq_true rfl, Nat.le_of_ble_eq_true rfl⟩ (g_r0 (by omega) (by omega)) dX11_slider_97) V (fun Zr5 hr5 H locs pr5 _ _ V => ?_)
      obtain ⟨rfl, I, pA_r5⟩ := pr5
      have A := A.wk (l3 := [(0, 11), (122, 1000), (123, 5), (124, 1000), (125, 1000)]) (by decide)
      have A := A.tr pA_r5 (by decide)
      have L := L.congr (pA_r5.get 129 2 (by decide)) (pA_r5.get 129 3 (by decide))
      have w_r5_129_2 : (hr5 129 2).toInt = (hr4 129 2).toInt := congrArg Int32.toInt (pA_r5.get 129 2 (by decide))
      have w_r5_129_3 : (hr5 129 3).toInt = (hr4 129 3).toInt := congrArg Int32.toInt (pA_r5.get 129 3 (by decide))
      refine lv_aload_n hx hb dX11_slider_100 rfl (lv_at hl 2 rfl) ?_
      refine lv_iload hx hb dX11_slider_101 (lv_at hl 1 rfl) ?_
      refine gz_v Z rfl rfl (pr_V M V (m_X11_drawItem l S I r2 K L (by omega)) km_X11_drawItem (c_is_0 S) pC11 lkM_X11_241 rfl hl.1 rfl (Nat.le_of_ble_eq_true rfl) ⟨Nat.le_of_ble_eq_true rfl, Nat.le_of_ble_eq_true rfl⟩ (g_rg (by omega) (by omega) hP0 hPm) dX11_slider_103) V (fun yr6 hr6 kr6 nr6 H locs pr6 V => ?_)
      obtain ⟨gr6, K, I, pA_r6, br6, L, fr6_0, fr6_1⟩ := pr6
      have A := A.wk (l3 := [(0, 11), (122, 1000), (123, 5), (124, 1000), (125, 1000), (129, 2), (129, 3)]) (by decide)
      have A := A.tr pA_r6 (by decide)
      have S := S.gr (Z1 := (gW Z yr6)) rfl gr6
      have M := pM.to (gW Z yr6) rfl M
      have GR := GR.tr gr6
      have hP0 : pPh Z ≤ pPh (gW Z yr6) := by omega
      have hPm := K.ph
      refine W.widen (k := pPh (gW Z yr6) - pPh Z) (n := 2 * (pPh (gW Z yr6) - pPh Z)) (by omega) (by omega) ?_
      refine lv_aload_n hx hb dX11_slider_106 rfl (lv_at hl 2 rfl) ?_
      refine lv_iload_n hx hb dX11_slider_107 rfl (lv_at hl 3 rfl) ?_
      refine gz_v (Z := (gW Z yr6)) Z rfl rfl (pr_V (Z := (gW Z yr6)) M V (m_X11_drawLabel l S I label K L (by omega)) km_X11_drawLabel (c_is_0 S) pC11 lkM_X11_244 rfl hl.1 rfl (Nat.le_of_ble_eq_true rfl) ⟨Nat.le_of_ble_eq_true rfl, Nat.le_of_ble_eq_true rfl⟩ (g_rg (by omega) (by omega) hP0 hPm) dX11_slider_108) V (fun yr7 hr7 kr7 nr7 H locs pr7 V => ?_)
      obtain ⟨gr7, K, I, pA_r7, br7, L, fr7_0, fr7_1⟩ := pr7
      have A := A.tr pA_r7 (by decide)
      have S := S.gr (Z1 := (gW Z yr7)) rfl gr7
      have M := pM.to (gW Z yr7) rfl M
      have GR := GR.tr gr7
      have hP0 : pPh Z ≤ pPh (gW Z yr7) := by omega
      have hPm := K.ph
      refine W.widen (k := pPh (gW Z yr7) - pPh Z) (n := 2 * (pPh (gW Z yr7) - pPh Z)) (by omega) (by omega) ?_
      refine lv_iload hx hb dX11_slider_111 (lv_at hl 0 rfl) ?_
      exact vx_ret (ge_i (Z := Z) (Z' := (gW Z yr7)) M V rfl rfl hr hlk rfl ⟨GR, K, I, A.wk (by decide), ⟨by omega, by omega, hP0⟩, L, (show (hr7 129 2).toInt ≤ (h 129 2).toInt + 4 by omega), (show (hr7 129 3).toInt ≤ (h 129 3).toInt + 4 by omega)⟩ (g_re (by omega) (by omega) hPm) dX11_slider_113)
  have J_56 : ∀ (hJ : pH) (H : Heap) (locs : List Loc) (ls : Array Slot), pV Z hJ s.heap H locs → Iv Z hJ → pLk Z hJ → agrD [] h hJ → lv_has ls 7 [(0, .ref (zB Z + 0)), (1, .int label), (2, .int width), (3, .int low), (4, .int high)] → W p l e (pRm 8 (gmc Z) (gms Z) 165) s m ([.ref (zB Z + 0), .int label, .int width, .int low, .int high] : List Value).toArray below meth c H locs (pPh Z - pPh Z) (2 * (pPh Z - pPh Z)) (vx_MQ below (gQi Z (fun r Z1 h1 k n => pGr Z Z1 ∧ pSk Z1 ∧ Iv Z1 h1 ∧ agrD [(0, 11), (122, 1000), (123, 1000), (124, 1000), (125, 1000), (126, 1000), (127, 1000), (128, 1000), (129, 2), (129, 3), (0, 10), (22, 5), (36, 4), (36, 5), (10, 3), (10, 4), (10, 5), (10, 6)] h h1 ∧ (k ≤ pPh Z1 - pPh Z ∧ n ≤ 2 * (pPh Z1 - pPh Z) ∧ pPh Z ≤ pPh Z1) ∧ pLk Z1 h1 ∧ ((h1 129 2).toInt ≤ (h 129 2).toInt + 4) ∧ ((h1 129 3).toInt ≤ (h 129 3).toInt + 4))) (gX Z (fun E Z1 h1 k n => (E = xIA ∨ E = xIS) ∧ pGr Z Z1 ∧ pSk Z1 ∧ Iv Z1 h1 ∧ agrD [(0, 11), (122, 1000), (123, 1000), (124, 1000), (125, 1000), (126, 1000), (127, 1000), (128, 1000), (129, 2), (129, 3), (0, 10), (22, 5), (36, 4), (36, 5), (10, 3), (10, 4), (10, 5), (10, 6)] h h1 ∧ (k ≤ pPh Z1 - pPh Z + 1 ∧ n ≤ 2 * (pPh Z1 - pPh Z) + 6 ∧ pPh Z ≤ pPh Z1) ∧ pLk Z1 h1 ∧ ((h1 129 2).toInt ≤ (h 129 2).toInt + 4) ∧ ((h1 129 3).toInt ≤ (h 129 3).toInt + 4))) ([.ref (zB Z + 0), .int label, .int width, .int low, .int high] : List Value).toArray s (gmc Z) (gms Z) (pA (zB Z))) (F0 m 56 ls [.ref (zB Z + 0)]) := by
    intro hJ H locs ls V I L A hl
    have wJ_129_2 : (hJ 129 2).toInt = (h 129 2).toInt := congrArg Int32.toInt (A.get 129 2 (by decide))
    have wJ_129_3 : (hJ 129 3).toInt = (h 129 3).toInt := congrArg Int32.toInt (A.get 129 3 (by decide))
    refine lv_iconst (v := 0) hx hb dX11_slider_56 (by decide) ?_
    have k_0 : (0 : Int32).toInt = 0 := rfl
    exact J_57 (0 : Int32) _ _ _ _ V I L (A.wk (by decide)) (lv_sub hl [0, 1, 2, 3, 4] rfl) (by omega) 
  refine W.widen (k := pPh Z - pPh Z) (n := 2 * (pPh Z - pPh Z)) (Nat.zero_le _) (Nat.zero_le _) ?_
  refine lv_aload_n hx hb dX11_slider_0 rfl (lv_at hl 0 rfl) ?_
  refine lv_iload_n hx hb dX11_slider_1 rfl (lv_at hl 1 rfl) ?_
  refine pk_i (pr_S M V (m_X11_isLabel l (Z := Z) (h := _) label) km_X11_isLabel lkM_X11_171 rfl hl.1 rfl (Nat.le_of_ble_eq_true rfl) ⟨Nat.le_of_ble_eq_true rfl, Nat.le_of_ble_eq_true rfl⟩ (g_r0 (by omega) (by omega)) dX11_slider_2) V (fun r8 Zr8 hr8 H locs pr8 _ _ V => ?_)
  obtain ⟨rfl, rfl, fr8_0⟩ := pr8
  refine lv_if_eq (tgt := 56) hx hb dX11_slider_5 (by decide) (fun c_5 => ?_) (fun c_5 => ?_)
  · skip
    have k_0 : (0 : Int32).toInt = 0 := rfl
    have c_5 := pi_eq.mp c_5
    exact J_56 _ _ _ _ V I L (A.wk (by decide)) (lv_sub hl [0, 1, 2, 3, 4] rfl) 
  · skip
    have k_0 : (0 : Int32).toInt = 0 := rfl
    have c_5 := pi_ne c_5
    refine lv_iload_n hx hb dX11_slider_8 rfl (lv_at hl 2 rfl) ?_
    refine lv_iconst (v := 2) hx hb dX11_slider_9 (by decide) ?_
    refine lv_sipush (v := 200) hx hb dX11_slider_10 (by decide) ?_
    have k_2 : (2 : Int32).toInt = 2 := rfl
    have k_200 : (200 : Int32).toInt = 200 := rfl
    refine pk_i (pr_S M V (m_X11_isWithin l (Z := Z) (h := _) width (2 : Int32) (200 : Int32)) km_X11_isWithin lkM_X11_71 rfl hl.1 rfl (Nat.le_of_ble_eq_true rfl) ⟨Nat.le_of_ble_eq_true rfl, Nat.le_of_ble_eq_true rfl⟩ (g_r0 (by omega) (by omega)) dX11_slider_13) V (fun r9 Zr9 hr9 H locs pr9 _ _ V => ?_)
    obtain ⟨rfl, rfl, fr9_0⟩ := pr9
    refine lv_if_eq (tgt := 56) hx hb dX11_slider_16 (by decide) (fun c_16 => ?_) (fun c_16 => ?_)
    · skip
      have c_16 := pi_eq.mp c_16
      exact J_56 _ _ _ _ V I L (A.wk (by decide)) (lv_sub hl [0, 1, 2, 3, 4] rfl) 
    · skip
      have c_16 := pi_ne c_16
      refine lv_iload_n hx hb dX11_slider_19 rfl (lv_at hl 3 rfl) ?_
      refine lv_sipush (v := (-1000)) hx hb dX11_slider_20 (by decide) ?_
      refine lv_sipush (v := 1000) hx hb dX11_slider_23 (by decide) ?_
      have k_m1000 : (-1000 : Int32).toInt = -1000 := rfl
      have k_1000 : (1000 : Int32).toInt = 1000 := rfl
      refine pk_i (pr_S M V (m_X11_isWithin l (Z := Z) (h := _) low (-1000 : Int32) (1000 : Int32)) km_X11_isWithin lkM_X11_71 rfl hl.1 rfl (Nat.le_of_ble_eq_true rfl) ⟨Nat.le_of_ble_eq_true rfl, Nat.le_of_ble_eq_true rfl⟩ (g_r0 (by omega) (by omega)) dX11_slider_26) V (fun r10 Zr10 hr10 H locs pr10 _ _ V => ?_)
      obtain ⟨rfl, rfl, fr10_0⟩ := pr10
      refine lv_if_eq (tgt := 56) hx hb dX11_slider_29 (by decide) (fun c_29 => ?_) (fun c_29 => ?_)
      · skip
        have c_29 := pi_eq.mp c_29
        exact J_56 _ _ _ _ V I L (A.wk (by decide)) (lv_sub hl [0, 1, 2, 3, 4] rfl) 
      · skip
        have c_29 := pi_ne c_29
        refine lv_iload hx hb dX11_slider_32 (lv_at hl 4 rfl) ?_
        refine lv_sipush (v := (-1000)) hx hb dX11_slider_34 (by decide) ?_
        refine lv_sipush (v := 1000) hx hb dX11_slider_37 (by decide) ?_
        refine pk_i (pr_S M V (m_X11_isWithin l (Z := Z) (h := _) high (-1000 : Int32) (1000 : Int32)) km_X11_isWithin lkM_X11_71 rfl hl.1 rfl (Nat.le_of_ble_eq_true rfl) ⟨Nat.le_of_ble_eq_true rfl, Nat.le_of_ble_eq_true rfl⟩ (g_r0 (by omega) (by omega)) dX11_slider_40) V (fun r11 Zr11 hr11 H locs pr11 _ _ V => ?_)
        obtain ⟨rfl, rfl, fr11_0⟩ := pr11
        refine lv_if_eq (tgt := 56) hx hb dX11_slider_43 (by decide) (fun c_43 => ?_) (fun c_43 => ?_)
        · skip
          have c_43 := pi_eq.mp c_43
          exact J_56 _ _ _ _ V I L (A.wk (by decide)) (lv_sub hl [0, 1, 2, 3, 4] rfl) 
        · skip
          have c_43 := pi_ne c_43
          refine lv_iload_n hx hb dX11_slider_46 rfl (lv_at hl 3 rfl) ?_
          refine lv_iload hx hb dX11_slider_47 (lv_at hl 4 rfl) ?_
          refine lv_icmp_ge (tgt := 56) hx hb dX11_slider_49 (by decide) (fun c_49 => ?_) (fun c_49 => ?_)
          · skip
            have c_49 := pi_le.mp c_49
            exact J_56 _ _ _ _ V I L (A.wk (by decide)) (lv_sub hl [0, 1, 2, 3, 4] rfl) 
          · skip
            have c_49 := pi_le' c_49
            refine lv_iconst (v := 1) hx hb dX11_slider_52 (by decide) ?_
            refine lv_goto (tgt := 57) hx hb dX11_slider_53 (by decide) ?_
            have k_1 : (1 : Int32).toInt = 1 := rfl
            exact J_57 (1 : Int32) _ _ _ _ V I L (A.wk (by decide)) (lv_sub hl [0, 1, 2, 3, 4] rfl) (by omega) 
theorem dX11_tree_0 : decode cX11_tree 0 = .ok (.aload_n 0, 1) := by decide +kernel
theorem dX11_tree_1 : decode cX11_tree 1 = .ok (.iload_n 1, 1) := by decide +kernel
theorem dX11_tree_2 : decode cX11_tree 2 = .ok (.invokestatic 171, 3) := by decide +kernel
theorem dX11_tree_5 : decode cX11_tree 5 = .ok (.ifCond .eq 18, 3) := by decide +kernel
theorem dX11_tree_8 : decode cX11_tree 8 = .ok (.iload_n 2, 1) := by decide +kernel
theorem dX11_tree_9 : decode cX11_tree 9 = .ok (.iconst 1, 1) := by decide +kernel
theorem dX11_tree_10 : decode cX11_tree 10 = .ok (.sipush 200, 3) := by decide +kernel
theorem dX11_tree_13 : decode cX11_tree 13 = .ok (.invokestatic 71, 3) := by decide +kernel
theorem dX11_tree_16 : decode cX11_tree 16 = .ok (.ifCond .eq 7, 3) := by decide +kernel
theorem dX11_tree_19 : decode cX11_tree 19 = .ok (.iconst 1, 1) := by decide +kernel
theorem dX11_tree_20 : decode cX11_tree 20 = .ok (.goto 4, 3) := by decide +kernel
theorem dX11_tree_23 : decode cX11_tree 23 = .ok (.iconst 0, 1) := by decide +kernel
theorem dX11_tree_24 : decode cX11_tree 24 = .ok (.invokevirtual 231, 3) := by decide +kernel
theorem dX11_tree_27 : decode cX11_tree 27 = .ok (.aload_n 0, 1) := by decide +kernel
theorem dX11_tree_28 : decode cX11_tree 28 = .ok (.getfield 33, 3) := by decide +kernel
theorem dX11_tree_31 : decode cX11_tree 31 = .ok (.iload_n 1, 1) := by decide +kernel
theorem dX11_tree_32 : decode cX11_tree 32 = .ok (.invokevirtual 234, 3) := by decide +kernel
theorem dX11_tree_35 : decode cX11_tree 35 = .ok (.istore_n 3, 1) := by decide +kernel
theorem dX11_tree_36 : decode cX11_tree 36 = .ok (.aload_n 0, 1) := by decide +kernel
theorem dX11_tree_37 : decode cX11_tree 37 = .ok (.iload_n 3, 1) := by decide +kernel
theorem dX11_tree_38 : decode cX11_tree 38 = .ok (.iload_n 2, 1) := by decide +kernel
theorem dX11_tree_39 : decode cX11_tree 39 = .ok (.invokevirtual 238, 3) := by decide +kernel
theorem dX11_tree_42 : decode cX11_tree 42 = .ok (.ifCond .eq 11, 3) := by decide +kernel
theorem dX11_tree_45 : decode cX11_tree 45 = .ok (.aload_n 0, 1) := by decide +kernel
theorem dX11_tree_46 : decode cX11_tree 46 = .ok (.getfield 47, 3) := by decide +kernel
theorem dX11_tree_49 : decode cX11_tree 49 = .ok (.iload_n 3, 1) := by decide +kernel
theorem dX11_tree_50 : decode cX11_tree 50 = .ok (.invokevirtual 247, 3) := by decide +kernel
theorem dX11_tree_53 : decode cX11_tree 53 = .ok (.aload_n 0, 1) := by decide +kernel
theorem dX11_tree_54 : decode cX11_tree 54 = .ok (.iload_n 3, 1) := by decide +kernel
theorem dX11_tree_55 : decode cX11_tree 55 = .ok (.invokevirtual 241, 3) := by decide +kernel
theorem dX11_tree_58 : decode cX11_tree 58 = .ok (.aload_n 0, 1) := by decide +kernel
theorem dX11_tree_59 : decode cX11_tree 59 = .ok (.iload_n 1, 1) := by decide +kernel
theorem dX11_tree_60 : decode cX11_tree 60 = .ok (.invokevirtual 244, 3) := by decide +kernel
theorem dX11_tree_63 : decode cX11_tree 63 = .ok (.aload_n 0, 1) := by decide +kernel
theorem dX11_tree_64 : decode cX11_tree 64 = .ok (.getfield 47, 3) := by decide +kernel
theorem dX11_tree_67 : decode cX11_tree 67 = .ok (.iload_n 3, 1) := by decide +kernel
theorem dX11_tree_68 : decode cX11_tree 68 = .ok (.invokevirtual 250, 3) := by decide +kernel
theorem dX11_tree_71 : decode cX11_tree 71 = .ok (.ifCond .ne 5, 3) := by decide +kernel
theorem dX11_tree_74 : decode cX11_tree 74 = .ok (.iconst 0, 1) := by decide +kernel
theorem dX11_tree_75 : decode cX11_tree 75 = .ok (.ireturn, 1) := by decide +kernel
theorem dX11_tree_76 : decode cX11_tree 76 = .ok (.aload_n 0, 1) := by decide +kernel
theorem dX11_tree_77 : decode cX11_tree 77 = .ok (.aload_n 0, 1) := by decide +kernel
theorem dX11_tree_78 : decode cX11_tree 78 = .ok (.getfield 33, 3) := by decide +kernel
theorem dX11_tree_81 : decode cX11_tree 81 = .ok (.invokevirtual 276, 3) := by decide +kernel
theorem dX11_tree_84 : decode cX11_tree 84 = .ok (.invokevirtual 88, 3) := by decide +kernel
theorem dX11_tree_87 : decode cX11_tree 87 = .ok (.aload_n 0, 1) := by decide +kernel
theorem dX11_tree_88 : decode cX11_tree 88 = .ok (.getfield 33, 3) := by decide +kernel
theorem dX11_tree_91 : decode cX11_tree 91 = .ok (.iconst 2, 1) := by decide +kernel
theorem dX11_tree_92 : decode cX11_tree 92 = .ok (.iload_n 3, 1) := by decide +kernel
theorem dX11_tree_93 : decode cX11_tree 93 = .ok (.invokevirtual 280, 3) := by decide +kernel
theorem dX11_tree_96 : decode cX11_tree 96 = .ok (.aload_n 0, 1) := by decide +kernel
theorem dX11_tree_97 : decode cX11_tree 97 = .ok (.getfield 33, 3) := by decide +kernel
theorem dX11_tree_100 : decode cX11_tree 100 = .ok (.invokevirtual 185, 3) := by decide +kernel
theorem dX11_tree_103 : decode cX11_tree 103 = .ok (.dup, 1) := by decide +kernel
theorem dX11_tree_104 : decode cX11_tree 104 = .ok (.getfield 208, 3) := by decide +kernel
theorem dX11_tree_107 : decode cX11_tree 107 = .ok (.bipush 10, 2) := by decide +kernel
theorem dX11_tree_109 : decode cX11_tree 109 = .ok (.iadd, 1) := by decide +kernel
theorem dX11_tree_110 : decode cX11_tree 110 = .ok (.putfield 208, 3) := by decide +kernel
theorem dX11_tree_113 : decode cX11_tree 113 = .ok (.iconst 1, 1) := by decide +kernel
theorem dX11_tree_114 : decode cX11_tree 114 = .ok (.ireturn, 1) := by decide +kernel
set_option maxHeartbeats 4000000 in
set_option maxRecDepth 100000 in
theorem m_X11_tree (l : Launch) (hl9 : l.stackTraces = false) {Z : pZ} (S : pSh Z) {h : pH} (I : Iv Z h) (label : Int32) (width : Int32) (K : pSk Z) (L : pLk Z h) (hq3 : (h 129 3).toInt ≤ 8900) : xMet l yX11_tree cX11_tree 4 (some .boolean) 8 (gmc Z) (gms Z) 165 Z h [.ref (zB Z + 0), .int label, .int width] (gQi Z (fun r Z1 h1 k n => pGr Z Z1 ∧ pSk Z1 ∧ Iv Z1 h1 ∧ agrD [(0, 11), (122, 1000), (123, 1000), (124, 1000), (125, 1000), (126, 1000), (127, 1000), (128, 1000), (129, 2), (129, 3), (36, 4), (36, 5), (37, 1000), (38, 1000), (0, 10), (22, 5), (10, 3), (10, 4), (10, 5), (10, 6)] h h1 ∧ (k ≤ pPh Z1 - pPh Z ∧ n ≤ 2 * (pPh Z1 - pPh Z) ∧ pPh Z ≤ pPh Z1) ∧ pLk Z1 h1 ∧ (r.toInt = 0 ∨ r.toInt = 1) ∧ ((h1 129 2).toInt ≤ (h 129 2).toInt + 4) ∧ ((h1 129 3).toInt ≤ (h 129 3).toInt + 4))) (gX Z (fun E Z1 h1 k n => (E = xIA ∨ E = xIS) ∧ pGr Z Z1 ∧ pSk Z1 ∧ Iv Z1 h1 ∧ agrD [(0, 11), (122, 1000), (123, 1000), (124, 1000), (125, 1000), (126, 1000), (127, 1000), (128, 1000), (129, 2), (129, 3), (36, 4), (36, 5), (37, 1000), (38, 1000), (0, 10), (22, 5), (10, 3), (10, 4), (10, 5), (10, 6)] h h1 ∧ (k ≤ pPh Z1 - pPh Z + 1 ∧ n ≤ 2 * (pPh Z1 - pPh Z) + 6 ∧ pPh Z ≤ pPh Z1) ∧ pLk Z1 h1 ∧ ((h1 129 2).toInt ≤ (h 129 2).toInt + 4) ∧ ((h1 129 3).toInt ≤ (h 129 3).toInt + 4))) := by
  refine xOfW (lv := [(0, .ref (zB Z + 0)), (1, .int label), (2, .int width)]) (by decide) (Nat.le_of_ble_eq_true rfl) rfl ?_
  intro p e s m below meth c ls M hr hlk hnm V hl hct X
  have hx := M.1.1
  have hb := M.1.2.1
  have A : agrD [] h h := agrD.rf
  have hP0 : pPh Z ≤ pPh Z := Nat.le_refl _
  have hPm := K.ph
  have GR : pGr Z Z := pGr.rf
  have J_53 : ∀ (x53_3 : Int32) (hJ : pH) (H : Heap) (locs : List Loc) (ls : Array Slot), pV Z hJ s.heap H locs → Iv Z hJ → pLk Z hJ → agrD [(0, 11), (122, 1000), (123, 5), (124, 1000), (125, 1000)] h hJ → lv_has ls 4 [(0, .ref (zB Z + 0)), (1, .int label), (2, .int width), (3, .int x53_3)] → W p l e (pRm 8 (gmc Z) (gms Z) 165) s m ([.ref (zB Z + 0), .int label, .int width] : List Value).toArray below meth c H locs (pPh Z - pPh Z) (2 * (pPh Z - pPh Z)) (vx_MQ below (gQi Z (fun r Z1 h1 k n => pGr Z Z1 ∧ pSk Z1 ∧ Iv Z1 h1 ∧ agrD [(0, 11), (122, 1000), (123, 1000), (124, 1000), (125, 1000), (126, 1000), (127, 1000), (128, 1000), (129, 2), (129, 3), (36, 4), (36, 5), (37, 1000), (38, 1000), (0, 10), (22, 5), (10, 3), (10, 4), (10, 5), (10, 6)] h h1 ∧ (k ≤ pPh Z1 - pPh Z ∧ n ≤ 2 * (pPh Z1 - pPh Z) ∧ pPh Z ≤ pPh Z1) ∧ pLk Z1 h1 ∧ (r.toInt = 0 ∨ r.toInt = 1) ∧ ((h1 129 2).toInt ≤ (h 129 2).toInt + 4) ∧ ((h1 129 3).toInt ≤ (h 129 3).toInt + 4))) (gX Z (fun E Z1 h1 k n => (E = xIA ∨ E = xIS) ∧ pGr Z Z1 ∧ pSk Z1 ∧ Iv Z1 h1 ∧ agrD [(0, 11), (122, 1000), (123, 1000), (124, 1000), (125, 1000), (126, 1000), (127, 1000), (128, 1000), (129, 2), (129, 3), (36, 4), (36, 5), (37, 1000), (38, 1000), (0, 10), (22, 5), (10, 3), (10, 4), (10, 5), (10, 6)] h h1 ∧ (k ≤ pPh Z1 - pPh Z + 1 ∧ n ≤ 2 * (pPh Z1 - pPh Z) + 6 ∧ pPh Z ≤ pPh Z1) ∧ pLk Z1 h1 ∧ ((h1 129 2).toInt ≤ (h 129 2).toInt + 4) ∧ ((h1 129 3).toInt ≤ (h 129 3).toInt + 4))) ([.ref (zB Z + 0), .int label, .int width] : List Value).toArray s (gmc Z) (gms Z) (pA (zB Z))) (F0 m 53 ls []) := by
    intro x53_3 hJ H locs ls V I L A hl
    have wJ_129_2 : (hJ 129 2).toInt = (h 129 2).toInt := congrArg Int32.toInt (A.get 129 2 (by decide))
    have wJ_129_3 : (hJ 129 3).toInt = (h 129 3).toInt := congrArg Int32.toInt (A.get 129 3 (by decide))
    refine lv_aload_n hx hb dX11_tree_53 rfl (lv_at hl 0 rfl) ?_
    refine lv_iload_n hx hb dX11_tree_54 rfl (lv_at hl 3 rfl) ?_
    refine gz_v Z rfl rfl (pr_V M V (m_X11_drawItem l S I x53_3 K L (by omega)) km_X11_drawItem (c_is_0 S) pC11 lkM_X11_241 rfl hl.1 rfl (Nat.le_of_ble_eq_true rfl) ⟨Nat.le_of_ble_eq_true rfl, Nat.le_of_ble_eq_true rfl⟩ (g_rg (by omega) (by omega) hP0 hPm) dX11_tree_55) V (fun yr1 hr1 kr1 nr1 H locs pr1 V => ?_)
    obtain ⟨gr1, K, I, pA_r1, br1, L, fr1_0, fr1_1⟩ := pr1
    have A := A.wk (l3 := [(0, 11), (122, 1000), (123, 5), (124, 1000), (125, 1000), (129, 2), (129, 3)]) (by decide)
    have A := A.tr pA_r1 (by decide)
    have S := S.gr (Z1 := (gW Z yr1)) rfl gr1
    have M := pM.to (gW Z yr1) rfl M
    have GR := GR.tr gr1
    have hP0 : pPh Z ≤ pPh (gW Z yr1) := by omega
    have hPm := K.ph
    refine W.widen (k := pPh (gW Z yr1) - pPh Z) (n := 2 * (pPh (gW Z yr1) - pPh Z)) (by omega) (by omega) ?_
    refine lv_aload_n hx hb dX11_tree_58 rfl (lv_at hl 0 rfl) ?_
    refine lv_iload_n hx hb dX11_tree_59 rfl (lv_at hl 1 rfl) ?_
    refine gz_v (Z := (gW Z yr1)) Z rfl rfl (pr_V (Z := (gW Z yr1)) M V (m_X11_drawLabel l S I label K L (by omega)) km_X11_drawLabel (c_is_0 S) pC11 lkM_X11_244 rfl hl.1 rfl (Nat.le_of_ble_eq_true rfl) ⟨Nat.le_of_ble_eq_true rfl, Nat.le_of_ble_eq_true rfl⟩ (g_rg (by omega) (by omega) hP0 hPm) dX11_tree_60) V (fun yr2 hr2 kr2 nr2 H locs pr2 V => ?_)
    obtain ⟨gr2, K, I, pA_r2, br2, L, fr2_0, fr2_1⟩ := pr2
    have A := A.tr pA_r2 (by decide)
    have S := S.gr (Z1 := (gW Z yr2)) rfl gr2
    have M := pM.to (gW Z yr2) rfl M
    have GR := GR.tr gr2
    have hP0 : pPh Z ≤ pPh (gW Z yr2) := by omega
    have hPm := K.ph
    refine W.widen (k := pPh (gW Z yr2) - pPh Z) (n := 2 * (pPh (gW Z yr2) - pPh Z)) (by omega) (by omega) ?_
    refine lv_aload_n hx hb dX11_tree_63 rfl (lv_at hl 0 rfl) ?_
    refine pg_r (Z := (gW Z yr2)) M V 11 5 (c_is_0 S) pC11 fk11_5 (c_r_0_5 S) lkF_X11_47 dX11_tree_64 ?_
    refine lv_iload_n hx hb dX11_tree_67 rfl (lv_at hl 3 rfl) ?_
    refine pk_i (pr_V (Z := (gW Z yr2)) M V (m_X10_numberOf l S I x53_3 ) km_X10_numberOf (c_is_123 S) pC10 lkM_X11_250 rfl hl.1 rfl (Nat.le_of_ble_eq_true rfl) ⟨Nat.le_of_ble_eq_true rfl, Nat.le_of_ble_eq_true rfl⟩ (g_r0 (by omega) (by omega)) dX11_tree_68) V (fun r3 Zr3 hr3 H locs pr3 _ _ V => ?_)
    obtain ⟨rfl, I, pA_r3⟩ := pr3
    have A := A.tr pA_r3 (by decide)
    have L := L.congr (pA_r3.get 129 2 (by decide)) (pA_r3.get 129 3 (by decide))
    have w_r3_129_2 : (hr3 129 2).toInt = (hr2 129 2).toInt := congrArg Int32.toInt (pA_r3.get 129 2 (by decide))
    have w_r3_129_3 : (hr3 129 3).toInt = (hr2 129 3).toInt := congrArg Int32.toInt (pA_r3.get 129 3 (by decide))
    refine lv_if_ne (tgt := 76) hx hb dX11_tree_71 (by decide) (fun c_71 => ?_) (fun c_71 => ?_)
    · skip
      have k_0 : (0 : Int32).toInt = 0 := rfl
      have c_71 := pi_ne c_71
      refine lv_aload_n hx hb dX11_tree_76 rfl (lv_at hl 0 rfl) ?_
      refine lv_aload_n hx hb dX11_tree_77 rfl (lv_at hl 0 rfl) ?_
      refine pg_r (Z := (gW Z yr2)) M V 11 3 (c_is_0 S) pC11 fk11_3 (c_r_0_3 S) lkF_X11_33 dX11_tree_78 ?_
      refine pk_i (pr_V (Z := (gW Z yr2)) M V (m_X8_hasRoom l S I  ) km_X8_hasRoom (c_is_36 S) pC8 lkM_X11_276 rfl hl.1 rfl (Nat.le_of_ble_eq_true rfl) ⟨Nat.le_of_ble_eq_true rfl, Nat.le_of_ble_eq_true rfl⟩ (g_r0 (by omega) (by omega)) dX11_tree_81) V (fun r4 Zr4 hr4 H locs pr4 _ _ V => ?_)
      obtain ⟨rfl, I, pA_r4, fr4_0⟩ := pr4
      have A := A.tr pA_r4 (by decide)
      have L := L.congr (pA_r4.get 129 2 (by decide)) (pA_r4.get 129 3 (by decide))
      have w_r4_129_2 : (hr4 129 2).toInt = (hr3 129 2).toInt := congrArg Int32.toInt (pA_r4.get 129 2 (by decide))
      have w_r4_129_3 : (hr4 129 3).toInt = (hr3 129 3).toInt := congrArg Int32.toInt (pA_r4.get 129 3 (by decide))
      refine xz_v (Z := (gW Z yr2)) Z rfl rfl (xr_V (Z := (gW Z yr2)) M V X (m_X11_requireState l hl9 S I r4) km_X11_requireState (c_is_0 S) pC11 lkM_X11_88 rfl hl.1 rfl (Nat.le_of_ble_eq_true rfl) ⟨Nat.le_of_ble_eq_true rfl, Nat.le_of_ble_eq_true rfl⟩ (g_rk (by omega) (by omega)) dX11_tree_84) V (fun E ce q9 yr5 hr5 H locs pr5 V w1 w2 w3 => ?_) (fun yr5 hr5 kr5 nr5 H locs pr5 V => ?_)
      · obtain ⟨hE, e2, I, pA_r5⟩ := pr5
        rw [← e2] at V
        have A := A.wk (l3 := [(0, 11), (122, 1000), (123, 5), (124, 1000), (125, 1000), (129, 2), (129, 3), (0, 10), (22, 5), (36, 4), (36, 5), (10, 3), (10, 4), (10, 5), (10, 6)]) (by decide)
        have A := A.tr pA_r5 (by decide)
        have L := L.congr (pA_r5.get 129 2 (by decide)) (pA_r5.get 129 3 (by decide))
        have w_r5_129_2 : (hr5 129 2).toInt = (hr4 129 2).toInt := congrArg Int32.toInt (pA_r5.get 129 2 (by decide))
        have w_r5_129_3 : (hr5 129 3).toInt = (hr4 129 3).toInt := congrArg Int32.toInt (pA_r5.get 129 3 (by decide))
        exact xe_out (Z' := (gW Z yr2)) V rfl rfl hct hlk w1 w2 w3 ⟨Or.inr hE, GR, K, I, A.wk (by decide), ⟨by omega, by omega, hP0⟩, L, (show (hr5 129 2).toInt ≤ (h 129 2).toInt + 4 by omega), (show (hr5 129 3).toInt ≤ (h 129 3).toInt + 4 by omega)⟩ (g_rx (by omega) (by omega) hPm)
      · obtain ⟨e2, rfl, rfl, rfl, fr5⟩ := pr5
        rw [← e2] at V
        refine lv_aload_n hx hb dX11_tree_87 rfl (lv_at hl 0 rfl) ?_
        refine pg_r (Z := (gW Z yr2)) M V 11 3 (c_is_0 S) pC11 fk11_3 (c_r_0_3 S) lkF_X11_33 dX11_tree_88 ?_
        refine lv_iconst (v := 2) hx hb dX11_tree_91 (by decide) ?_
        refine lv_iload_n hx hb dX11_tree_92 rfl (lv_at hl 3 rfl) ?_
        refine pk_v (pr_V (Z := (gW Z yr2)) M V (m_X8_put l S I (2 : Int32) x53_3 ) km_X8_put (c_is_36 S) pC8 lkM_X11_280 rfl hl.1 rfl (Nat.le_of_ble_eq_true rfl) ⟨Nat.le_of_ble_eq_true rfl, Nat.le_of_ble_eq_true rfl⟩ (g_r0 (by omega) (by omega)) dX11_tree_93) V (fun Zr6 hr6 H locs pr6 _ _ V => ?_)
        obtain ⟨rfl, I, pA_r6⟩ := pr6
        have A := A.wk (l3 := [(0, 11), (122, 1000), (123, 5), (124, 1000), (125, 1000), (129, 2), (129, 3), (36, 4), (36, 5), (37, 1000), (38, 1000)]) (by decide)
        have A := A.tr pA_r6 (by decide)
        have L := L.congr (pA_r6.get 129 2 (by decide)) (pA_r6.get 129 3 (by decide))
        have w_r6_129_2 : (hr6 129 2).toInt = (hr4 129 2).toInt := congrArg Int32.toInt (pA_r6.get 129 2 (by decide))
        have w_r6_129_3 : (hr6 129 3).toInt = (hr4 129 3).toInt := congrArg Int32.toInt (pA_r6.get 129 3 (by decide))
        refine lv_aload_n hx hb dX11_tree_96 rfl (lv_at hl 0 rfl) ?_
        refine pg_r (Z := (gW Z yr2)) M V 11 3 (c_is_0 S) pC11 fk11_3 (c_r_0_3 S) lkF_X11_33 dX11_tree_97 ?_
        refine pk_r (pr_V (Z := (gW Z yr2)) M V (m_X8_area l S I ) km_X8_area (c_is_36 S) pC8 lkM_X11_185 rfl hl.1 rfl (Nat.le_of_ble_eq_true rfl) ⟨Nat.le_of_ble_eq_true rfl, Nat.le_of_ble_eq_true rfl⟩ (g_r0 (by omega) (by omega)) dX11_tree_100) V (fun r7 Zr7 hr7 H locs pr7 _ _ V => ?_)
        obtain ⟨rfl, rfl, fr7_0⟩ := pr7
        refine lv_dup hx hb dX11_tree_103 rfl ?_
        refine pg_i (Z := (gW Z yr2)) M V 0 3 fr7_0.1 pC0 fk0_3 lkF_X11_208 dX11_tree_104 ?_
        refine lv_topi (fun v8 ev8 => ?_)
        refine lv_bipush (v := 10) hx hb dX11_tree_107 (by decide) ?_
        refine lv_iadd hx hb dX11_tree_109 ?_
        refine lv_topi (fun v9 ev9 => ?_)
        refine gp_i (Z := (gW Z yr2)) M V I S 0 3 fr7_0.1 (by decide) pC0 fk0_3 rfl lkF_X11_208 ⟨rfl, rfl⟩ (pi_full _) dX11_tree_110 (fun H locs hr10 I pA_r10 V => ?_)
        have A := A.tr pA_r10 (by decide)
        have L := L.congr (pA_r10.get 129 2 (by decide)) (pA_r10.get 129 3 (by decide))
        have w_r10_129_2 : (hr10 129 2).toInt = (hr6 129 2).toInt := congrArg Int32.toInt (pA_r10.get 129 2 (by decide))
        have w_r10_129_3 : (hr10 129 3).toInt = (hr6 129 3).toInt := congrArg Int32.toInt (pA_r10.get 129 3 (by decide))
        refine lv_iconst (v := 1) hx hb dX11_tree_113 (by decide) ?_
        have k_1 : (1 : Int32).toInt = 1 := rfl
        exact vx_ret (ge_i (Z := Z) (Z' := (gW Z yr2)) M V rfl rfl hr hlk (pn_z (pi_z (by omega))).1 ⟨GR, K, I, A.wk (by decide), ⟨by omega, by omega, hP0⟩, L, by omega, (show (hr10 129 2).toInt ≤ (h 129 2).toInt + 4 by omega), (show (hr10 129 3).toInt ≤ (h 129 3).toInt + 4 by omega)⟩ (g_re (by omega) (by omega) hPm) dX11_tree_114)
    · skip
      have k_0 : (0 : Int32).toInt = 0 := rfl
      have c_71 := pi_eq.mp c_71
      refine lv_iconst (v := 0) hx hb dX11_tree_74 (by decide) ?_
      exact vx_ret (ge_i (Z := Z) (Z' := (gW Z yr2)) M V rfl rfl hr hlk (pn_z (pi_z (by omega))).1 ⟨GR, K, I, A.wk (by decide), ⟨by omega, by omega, hP0⟩, L, by omega, (show (hr3 129 2).toInt ≤ (h 129 2).toInt + 4 by omega), (show (hr3 129 3).toInt ≤ (h 129 3).toInt + 4 by omega)⟩ (g_re (by omega) (by omega) hPm) dX11_tree_75)
  have J_24 : ∀ (y24_0 : Int32) (hJ : pH) (H : Heap) (locs : List Loc) (ls : Array Slot), pV Z hJ s.heap H locs → Iv Z hJ → pLk Z hJ → agrD [] h hJ → lv_has ls 4 [(0, .ref (zB Z + 0)), (1, .int label), (2, .int width)] → (0 ≤ y24_0.toInt ∧ y24_0.toInt ≤ 1) → W p l e (pRm 8 (gmc Z) (gms Z) 165) s m ([.ref (zB Z + 0), .int label, .int width] : List Value).toArray below meth c H locs (pPh Z - pPh Z) (2 * (pPh Z - pPh Z)) (vx_MQ below (gQi Z (fun r Z1 h1 k n => pGr Z Z1 ∧ pSk Z1 ∧ Iv Z1 h1 ∧ agrD [(0, 11), (122, 1000), (123, 1000), (124, 1000), (125, 1000), (126, 1000), (127, 1000), (128, 1000), (129, 2), (129, 3), (36, 4), (36, 5), (37, 1000), (38, 1000), (0, 10), (22, 5), (10, 3), (10, 4), (10, 5), (10, 6)] h h1 ∧ (k ≤ pPh Z1 - pPh Z ∧ n ≤ 2 * (pPh Z1 - pPh Z) ∧ pPh Z ≤ pPh Z1) ∧ pLk Z1 h1 ∧ (r.toInt = 0 ∨ r.toInt = 1) ∧ ((h1 129 2).toInt ≤ (h 129 2).toInt + 4) ∧ ((h1 129 3).toInt ≤ (h 129 3).toInt + 4))) (gX Z (fun E Z1 h1 k n => (E = xIA ∨ E = xIS) ∧ pGr Z Z1 ∧ pSk Z1 ∧ Iv Z1 h1 ∧ agrD [(0, 11), (122, 1000), (123, 1000), (124, 1000), (125, 1000), (126, 1000), (127, 1000), (128, 1000), (129, 2), (129, 3), (36, 4), (36, 5), (37, 1000), (38, 1000), (0, 10), (22, 5), (10, 3), (10, 4), (10, 5), (10, 6)] h h1 ∧ (k ≤ pPh Z1 - pPh Z + 1 ∧ n ≤ 2 * (pPh Z1 - pPh Z) + 6 ∧ pPh Z ≤ pPh Z1) ∧ pLk Z1 h1 ∧ ((h1 129 2).toInt ≤ (h 129 2).toInt + 4) ∧ ((h1 129 3).toInt ≤ (h 129 3).toInt + 4))) ([.ref (zB Z + 0), .int label, .int width] : List Value).toArray s (gmc Z) (gms Z) (pA (zB Z))) (F0 m 24 ls [.int y24_0, .ref (zB Z + 0)]) := by
    intro y24_0 hJ H locs ls V I L A hl gs_24_0
    have wJ_129_2 : (hJ 129 2).toInt = (h 129 2).toInt := congrArg Int32.toInt (A.get 129 2 (by decide))
    have wJ_129_3 : (hJ 129 3).toInt = (h 129 3).toInt := congrArg Int32.toInt (A.get 129 3 (by decide))
    refine xz_v Z rfl rfl (xr_V M V X (m_X11_requireItem l hl9 S I y24_0) km_X11_requireItem (c_is_0 S) pC11 lkM_X11_231 rfl hl.1 rfl (Nat.le_of_ble_eq_true rfl) ⟨Nat.le_of_ble_eq_true rfl, Nat.le_of_ble_eq_true rfl⟩ (g_rk (by omega) (by omega)) dX11_tree_24) V (fun E ce q9 yr11 hr11 H locs pr11 V w1 w2 w3 => ?_) (fun yr11 hr11 kr11 nr11 H locs pr11 V => ?_)
    · obtain ⟨hE, e2, I, pA_r11⟩ := pr11
      rw [← e2] at V
      have A := A.wk (l3 := [(0, 10), (22, 5), (36, 4), (36, 5), (122, 1000), (10, 3), (10, 4), (10, 5), (10, 6)]) (by decide)
      have A := A.tr pA_r11 (by decide)
      have L := L.congr (pA_r11.get 129 2 (by decide)) (pA_r11.get 129 3 (by decide))
      have w_r11_129_2 : (hr11 129 2).toInt = (hJ 129 2).toInt := congrArg Int32.toInt (pA_r11.get 129 2 (by decide))
      have w_r11_129_3 : (hr11 129 3).toInt = (hJ 129 3).toInt := congrArg Int32.toInt (pA_r11.get 129 3 (by decide))
      exact xe_out (Z' := Z) V rfl rfl hct hlk w1 w2 w3 ⟨hE, GR, K, I, A.wk (by decide), ⟨by omega, by omega, hP0⟩, L, (show (hr11 129 2).toInt ≤ (h 129 2).toInt + 4 by omega), (show (hr11 129 3).toInt ≤ (h 129 3).toInt + 4 by omega)⟩ (g_rx (by omega) (by omega) hPm)
    · obtain ⟨e2, rfl, rfl, rfl, fr11⟩ := pr11
      rw [← e2] at V
      refine lv_aload_n hx hb dX11_tree_27 rfl (lv_at hl 0 rfl) ?_
      refine pg_r M V 11 3 (c_is_0 S) pC11 fk11_3 (c_r_0_3 S) lkF_X11_33 dX11_tree_28 ?_
      refine lv_iload_n hx hb dX11_tree_31 rfl (lv_at hl 1 rfl) ?_
      refine pk_i (pr_V M V (m_X8_idOf l S I label ) km_X8_idOf (c_is_36 S) pC8 lkM_X11_234 rfl hl.1 rfl (Nat.le_of_ble_eq_true rfl) ⟨Nat.le_of_ble_eq_true rfl, Nat.le_of_ble_eq_true rfl⟩ (g_r0 (by omega) (by omega)) dX11_tree_32) V (fun r12 Zr12 hr12 H locs pr12 _ _ V => ?_)
      obtain ⟨rfl, I, pA_r12⟩ := pr12
      have A := A.tr pA_r12 (by decide)
      have L := L.congr (pA_r12.get 129 2 (by decide)) (pA_r12.get 129 3 (by decide))
      have w_r12_129_2 : (hr12 129 2).toInt = (hJ 129 2).toInt := congrArg Int32.toInt (pA_r12.get 129 2 (by decide))
      have w_r12_129_3 : (hr12 129 3).toInt = (hJ 129 3).toInt := congrArg Int32.toInt (pA_r12.get 129 3 (by decide))
      refine lv_istore_n (lv' := [(3, .int r12), (0, .ref (zB Z + 0)), (1, .int label), (2, .int width)]) hx hb dX11_tree_35 rfl hl (by decide) rfl (fun ls hl => ?_)
      refine lv_aload_n hx hb dX11_tree_36 rfl (lv_at hl 1 rfl) ?_
      refine lv_iload_n hx hb dX11_tree_37 rfl (lv_at hl 0 rfl) ?_
      refine lv_iload_n hx hb dX11_tree_38 rfl (lv_at hl 3 rfl) ?_
      refine pk_i (pr_V M V (m_X11_tellBehaving l S I r12 width ) km_X11_tellBehaving (c_is_0 S) pC11 lkM_X11_238 rfl hl.1 rfl (Nat.le_of_ble_eq_true rfl) ⟨Nat.le_of_ble_eq_true rfl, Nat.le_of_ble_eq_true rfl⟩ (g_r0 (by omega) (by omega)) dX11_tree_39) V (fun r13 Zr13 hr13 H locs pr13 _ _ V => ?_)
      obtain ⟨rfl, I, pA_r13, fr13_0⟩ := pr13
      have A := A.wk (l3 := [(0, 11), (122, 1000)]) (by decide)
      have A := A.tr pA_r13 (by decide)
      have L := L.congr (pA_r13.get 129 2 (by decide)) (pA_r13.get 129 3 (by decide))
      have w_r13_129_2 : (hr13 129 2).toInt = (hr12 129 2).toInt := congrArg Int32.toInt (pA_r13.get 129 2 (by decide))
      have w_r13_129_3 : (hr13 129 3).toInt = (hr12 129 3).toInt := congrArg Int32.toInt (pA_r13.get 129 3 (by decide))
      refine lv_if_eq (tgt := 53) hx hb dX11_tree_42 (by decide) (fun c_42 => ?_) (fun c_42 => ?_)
      · skip
        have k_0 : (0 : Int32).toInt = 0 := rfl
        have c_42 := pi_eq.mp c_42
        exact J_53 r12 _ _ _ _ V I L (A.wk (by decide)) (lv_sub hl [1, 2, 3, 0] rfl) 
      · skip
        have k_0 : (0 : Int32).toInt = 0 := rfl
        have c_42 := pi_ne c_42
        refine lv_aload_n hx hb dX11_tree_45 rfl (lv_at hl 1 rfl) ?_
        refine pg_r M V 11 5 (c_is_0 S) pC11 fk11_5 (c_r_0_5 S) lkF_X11_47 dX11_tree_46 ?_
        refine lv_iload_n hx hb dX11_tree_49 rfl (lv_at hl 0 rfl) ?_
        refine pk_v (pr_V M V (m_X10_toggle l S I r12 ) km_X10_toggle (c_is_123 S) pC10 lkM_X11_247 rfl hl.1 rfl (Nat.le_of_ble_eq_true rfl) ⟨Nat.le_of_ble_eq_true rfl, Nat.le_of_ble_eq_true rfl⟩ (g_r0 (by omega) (by omega)) dX11_tree_50) V (fun Zr14 hr14 H locs pr14 _ _ V => ?_)
        obtain ⟨rfl, I, pA_r14⟩ := pr14
        have A := A.wk (l3 := [(0, 11), (122, 1000), (123, 5), (124, 1000), (125, 1000)]) (by decide)
        have A := A.tr pA_r14 (by decide)
        have L := L.congr (pA_r14.get 129 2 (by decide)) (pA_r14.get 129 3 (by decide))
        have w_r14_129_2 : (hr14 129 2).toInt = (hr13 129 2).toInt := congrArg Int32.toInt (pA_r14.get 129 2 (by decide))
        have w_r14_129_3 : (hr14 129 3).toInt = (hr13 129 3).toInt := congrArg Int32.toInt (pA_r14.get 129 3 (by decide))
        exact J_53 r12 _ _ _ _ V I L (A.wk (by decide)) (lv_sub hl [1, 2, 3, 0] rfl) 
  have J_23 : ∀ (hJ : pH) (H : Heap) (locs : List Loc) (ls : Array Slot), pV Z hJ s.heap H locs → Iv Z hJ → pLk Z hJ → agrD [] h hJ → lv_has ls 4 [(0, .ref (zB Z + 0)), (1, .int label), (2, .int width)] → W p l e (pRm 8 (gmc Z) (gms Z) 165) s m ([.ref (zB Z + 0), .int label, .int width] : List Value).toArray below meth c H locs (pPh Z - pPh Z) (2 * (pPh Z - pPh Z)) (vx_MQ below (gQi Z (fun r Z1 h1 k n => pGr Z Z1 ∧ pSk Z1 ∧ Iv Z1 h1 ∧ agrD [(0, 11), (122, 1000), (123, 1000), (124, 1000), (125, 1000), (126, 1000), (127, 1000), (128, 1000), (129, 2), (129, 3), (36, 4), (36, 5), (37, 1000), (38, 1000), (0, 10), (22, 5), (10, 3), (10, 4), (10, 5), (10, 6)] h h1 ∧ (k ≤ pPh Z1 - pPh Z ∧ n ≤ 2 * (pPh Z1 - pPh Z) ∧ pPh Z ≤ pPh Z1) ∧ pLk Z1 h1 ∧ (r.toInt = 0 ∨ r.toInt = 1) ∧ ((h1 129 2).toInt ≤ (h 129 2).toInt + 4) ∧ ((h1 129 3).toInt ≤ (h 129 3).toInt + 4))) (gX Z (fun E Z1 h1 k n => (E = xIA ∨ E = xIS) ∧ pGr Z Z1 ∧ pSk Z1 ∧ Iv Z1 h1 ∧ agrD [(0, 11), (122, 1000), (123, 1000), (124, 1000), (125, 1000), (126, 1000), (127, 1000), (128, 1000), (129, 2), (129, 3), (36, 4), (36, 5), (37, 1000), (38, 1000), (0, 10), (22, 5), (10, 3), (10, 4), (10, 5), (10, 6)] h h1 ∧ (k ≤ pPh Z1 - pPh Z + 1 ∧ n ≤ 2 * (pPh Z1 - pPh Z) + 6 ∧ pPh Z ≤ pPh Z1) ∧ pLk Z1 h1 ∧ ((h1 129 2).toInt ≤ (h 129 2).toInt + 4) ∧ ((h1 129 3).toInt ≤ (h 129 3).toInt + 4))) ([.ref (zB Z + 0), .int label, .int width] : List Value).toArray s (gmc Z) (gms Z) (pA (zB Z))) (F0 m 23 ls [.ref (zB Z + 0)]) := by
    intro hJ H locs ls V I L A hl
    have wJ_129_2 : (hJ 129 2).toInt = (h 129 2).toInt := congrArg Int32.toInt (A.get 129 2 (by decide))
    have wJ_129_3 : (hJ 129 3).toInt = (h 129 3).toInt := congrArg Int32.toInt (A.get 129 3 (by decide))
    refine lv_iconst (v := 0) hx hb dX11_tree_23 (by decide) ?_
    have k_0 : (0 : Int32).toInt = 0 := rfl
    exact J_24 (0 : Int32) _ _ _ _ V I L (A.wk (by decide)) (lv_sub hl [0, 1, 2] rfl) (by omega) 
  refine W.widen (k := pPh Z - pPh Z) (n := 2 * (pPh Z - pPh Z)) (Nat.zero_le _) (Nat.zero_le _) ?_
  refine lv_aload_n hx hb dX11_tree_0 rfl (lv_at hl 0 rfl) ?_
  refine lv_iload_n hx hb dX11_tree_1 rfl (lv_at hl 1 rfl) ?_
  refine pk_i (pr_S M V (m_X11_isLabel l (Z := Z) (h := _) label) km_X11_isLabel lkM_X11_171 rfl hl.1 rfl (Nat.le_of_ble_eq_true rfl) ⟨Nat.le_of_ble_eq_true rfl, Nat.le_of_ble_eq_true rfl⟩ (g_r0 (by omega) (by omega)) dX11_tree_2) V (fun r15 Zr15 hr15 H locs pr15 _ _ V => ?_)
  obtain ⟨rfl, rfl, fr15_0⟩ := pr15
  refine lv_if_eq (tgt := 23) hx hb dX11_tree_5 (by decide) (fun c_5 => ?_) (fun c_5 => ?_)
  · skip
    have k_0 : (0 : Int32).toInt = 0 := rfl
    have c_5 := pi_eq.mp c_5
    exact J_23 _ _ _ _ V I L (A.wk (by decide)) (lv_sub hl [0, 1, 2] rfl) 
  · skip
    have k_0 : (0 : Int32).toInt = 0 := rfl
    have c_5 := pi_ne c_5
    refine lv_iload_n hx hb dX11_tree_8 rfl (lv_at hl 2 rfl) ?_
    refine lv_iconst (v := 1) hx hb dX11_tree_9 (by decide) ?_
    refine lv_sipush (v := 200) hx hb dX11_tree_10 (by decide) ?_
    have k_1 : (1 : Int32).toInt = 1 := rfl
    have k_200 : (200 : Int32).toInt = 200 := rfl
    refine pk_i (pr_S M V (m_X11_isWithin l (Z := Z) (h := _) width (1 : Int32) (200 : Int32)) km_X11_isWithin lkM_X11_71 rfl hl.1 rfl (Nat.le_of_ble_eq_true rfl) ⟨Nat.le_of_ble_eq_true rfl, Nat.le_of_ble_eq_true rfl⟩ (g_r0 (by omega) (by omega)) dX11_tree_13) V (fun r16 Zr16 hr16 H locs pr16 _ _ V => ?_)
    obtain ⟨rfl, rfl, fr16_0⟩ := pr16
    refine lv_if_eq (tgt := 23) hx hb dX11_tree_16 (by decide) (fun c_16 => ?_) (fun c_16 => ?_)
    · skip
      have c_16 := pi_eq.mp c_16
      exact J_23 _ _ _ _ V I L (A.wk (by decide)) (lv_sub hl [0, 1, 2] rfl) 
    · skip
      have c_16 := pi_ne c_16
      refine lv_iconst (v := 1) hx hb dX11_tree_19 (by decide) ?_
      refine lv_goto (tgt := 24) hx hb dX11_tree_20 (by decide) ?_
      exact J_24 (1 : Int32) _ _ _ _ V I L (A.wk (by decide)) (lv_sub hl [0, 1, 2] rfl) (by omega) 
theorem dX11_child_0 : decode cX11_child 0 = .ok (.aload_n 0, 1) := by decide +kernel
theorem dX11_child_1 : decode cX11_child 1 = .ok (.iload_n 1, 1) := by decide +kernel
theorem dX11_child_2 : decode cX11_child 2 = .ok (.invokestatic 171, 3) := by decide +kernel
theorem dX11_child_5 : decode cX11_child 5 = .ok (.ifCond .eq 29, 3) := by decide +kernel
theorem dX11_child_8 : decode cX11_child 8 = .ok (.iload_n 2, 1) := by decide +kernel
theorem dX11_child_9 : decode cX11_child 9 = .ok (.iconst 1, 1) := by decide +kernel
theorem dX11_child_10 : decode cX11_child 10 = .ok (.sipush 200, 3) := by decide +kernel
theorem dX11_child_13 : decode cX11_child 13 = .ok (.invokestatic 71, 3) := by decide +kernel
theorem dX11_child_16 : decode cX11_child 16 = .ok (.ifCond .eq 18, 3) := by decide +kernel
theorem dX11_child_19 : decode cX11_child 19 = .ok (.iload_n 3, 1) := by decide +kernel
theorem dX11_child_20 : decode cX11_child 20 = .ok (.iconst 1, 1) := by decide +kernel
theorem dX11_child_21 : decode cX11_child 21 = .ok (.sipush 200, 3) := by decide +kernel
theorem dX11_child_24 : decode cX11_child 24 = .ok (.invokestatic 71, 3) := by decide +kernel
theorem dX11_child_27 : decode cX11_child 27 = .ok (.ifCond .eq 7, 3) := by decide +kernel
theorem dX11_child_30 : decode cX11_child 30 = .ok (.iconst 1, 1) := by decide +kernel
theorem dX11_child_31 : decode cX11_child 31 = .ok (.goto 4, 3) := by decide +kernel
theorem dX11_child_34 : decode cX11_child 34 = .ok (.iconst 0, 1) := by decide +kernel
theorem dX11_child_35 : decode cX11_child 35 = .ok (.invokevirtual 231, 3) := by decide +kernel
theorem dX11_child_38 : decode cX11_child 38 = .ok (.aload_n 0, 1) := by decide +kernel
theorem dX11_child_39 : decode cX11_child 39 = .ok (.aload_n 0, 1) := by decide +kernel
theorem dX11_child_40 : decode cX11_child 40 = .ok (.getfield 33, 3) := by decide +kernel
theorem dX11_child_43 : decode cX11_child 43 = .ok (.invokevirtual 276, 3) := by decide +kernel
theorem dX11_child_46 : decode cX11_child 46 = .ok (.ifCond .eq 17, 3) := by decide +kernel
theorem dX11_child_49 : decode cX11_child 49 = .ok (.aload_n 0, 1) := by decide +kernel
theorem dX11_child_50 : decode cX11_child 50 = .ok (.getfield 26, 3) := by decide +kernel
theorem dX11_child_53 : decode cX11_child 53 = .ok (.invokevirtual 283, 3) := by decide +kernel
theorem dX11_child_56 : decode cX11_child 56 = .ok (.ifCond .eq 7, 3) := by decide +kernel
theorem dX11_child_59 : decode cX11_child 59 = .ok (.iconst 1, 1) := by decide +kernel
theorem dX11_child_60 : decode cX11_child 60 = .ok (.goto 4, 3) := by decide +kernel
theorem dX11_child_63 : decode cX11_child 63 = .ok (.iconst 0, 1) := by decide +kernel
theorem dX11_child_64 : decode cX11_child 64 = .ok (.invokevirtual 88, 3) := by decide +kernel
theorem dX11_child_67 : decode cX11_child 67 = .ok (.aload_n 0, 1) := by decide +kernel
theorem dX11_child_68 : decode cX11_child 68 = .ok (.getfield 33, 3) := by decide +kernel
theorem dX11_child_71 : decode cX11_child 71 = .ok (.iload_n 1, 1) := by decide +kernel
theorem dX11_child_72 : decode cX11_child 72 = .ok (.invokevirtual 234, 3) := by decide +kernel
theorem dX11_child_75 : decode cX11_child 75 = .ok (.istore 4, 2) := by decide +kernel
theorem dX11_child_77 : decode cX11_child 77 = .ok (.aload_n 0, 1) := by decide +kernel
theorem dX11_child_78 : decode cX11_child 78 = .ok (.iload_n 2, 1) := by decide +kernel
theorem dX11_child_79 : decode cX11_child 79 = .ok (.iload_n 3, 1) := by decide +kernel
theorem dX11_child_80 : decode cX11_child 80 = .ok (.invokevirtual 284, 3) := by decide +kernel
theorem dX11_child_83 : decode cX11_child 83 = .ok (.aload_n 0, 1) := by decide +kernel
theorem dX11_child_84 : decode cX11_child 84 = .ok (.getfield 40, 3) := by decide +kernel
theorem dX11_child_87 : decode cX11_child 87 = .ok (.iload 4, 2) := by decide +kernel
theorem dX11_child_89 : decode cX11_child 89 = .ok (.invokevirtual 287, 3) := by decide +kernel
theorem dX11_child_92 : decode cX11_child 92 = .ok (.aload_n 0, 1) := by decide +kernel
theorem dX11_child_93 : decode cX11_child 93 = .ok (.iload 4, 2) := by decide +kernel
theorem dX11_child_95 : decode cX11_child 95 = .ok (.invokevirtual 241, 3) := by decide +kernel
theorem dX11_child_98 : decode cX11_child 98 = .ok (.aload_n 0, 1) := by decide +kernel
theorem dX11_child_99 : decode cX11_child 99 = .ok (.getfield 26, 3) := by decide +kernel
theorem dX11_child_102 : decode cX11_child 102 = .ok (.aload_n 0, 1) := by decide +kernel
theorem dX11_child_103 : decode cX11_child 103 = .ok (.getfield 19, 3) := by decide +kernel
theorem dX11_child_106 : decode cX11_child 106 = .ok (.getfield 290, 3) := by decide +kernel
theorem dX11_child_109 : decode cX11_child 109 = .ok (.aload_n 0, 1) := by decide +kernel
theorem dX11_child_110 : decode cX11_child 110 = .ok (.getfield 10, 3) := by decide +kernel
theorem dX11_child_113 : decode cX11_child 113 = .ok (.getfield 293, 3) := by decide +kernel
theorem dX11_child_116 : decode cX11_child 116 = .ok (.iload_n 3, 1) := by decide +kernel
theorem dX11_child_117 : decode cX11_child 117 = .ok (.invokevirtual 296, 3) := by decide +kernel
theorem dX11_child_120 : decode cX11_child 120 = .ok (.istore 5, 2) := by decide +kernel
theorem dX11_child_122 : decode cX11_child 122 = .ok (.aload_n 0, 1) := by decide +kernel
theorem dX11_child_123 : decode cX11_child 123 = .ok (.getfield 33, 3) := by decide +kernel
theorem dX11_child_126 : decode cX11_child 126 = .ok (.invokevirtual 185, 3) := by decide +kernel
theorem dX11_child_129 : decode cX11_child 129 = .ok (.astore 6, 2) := by decide +kernel
theorem dX11_child_131 : decode cX11_child 131 = .ok (.aload_n 0, 1) := by decide +kernel
theorem dX11_child_132 : decode cX11_child 132 = .ok (.getfield 33, 3) := by decide +kernel
theorem dX11_child_135 : decode cX11_child 135 = .ok (.iconst 1, 1) := by decide +kernel
theorem dX11_child_136 : decode cX11_child 136 = .ok (.iload 4, 2) := by decide +kernel
theorem dX11_child_138 : decode cX11_child 138 = .ok (.invokevirtual 280, 3) := by decide +kernel
theorem dX11_child_141 : decode cX11_child 141 = .ok (.aload_n 0, 1) := by decide +kernel
theorem dX11_child_142 : decode cX11_child 142 = .ok (.getfield 33, 3) := by decide +kernel
theorem dX11_child_145 : decode cX11_child 145 = .ok (.invokevirtual 185, 3) := by decide +kernel
theorem dX11_child_148 : decode cX11_child 148 = .ok (.astore 7, 2) := by decide +kernel
theorem dX11_child_150 : decode cX11_child 150 = .ok (.aload 7, 2) := by decide +kernel
theorem dX11_child_152 : decode cX11_child 152 = .ok (.aload_n 0, 1) := by decide +kernel
theorem dX11_child_153 : decode cX11_child 153 = .ok (.getfield 64, 3) := by decide +kernel
theorem dX11_child_156 : decode cX11_child 156 = .ok (.getfield 299, 3) := by decide +kernel
theorem dX11_child_159 : decode cX11_child 159 = .ok (.iconst 2, 1) := by decide +kernel
theorem dX11_child_160 : decode cX11_child 160 = .ok (.iadd, 1) := by decide +kernel
theorem dX11_child_161 : decode cX11_child 161 = .ok (.aload_n 0, 1) := by decide +kernel
theorem dX11_child_162 : decode cX11_child 162 = .ok (.getfield 64, 3) := by decide +kernel
theorem dX11_child_165 : decode cX11_child 165 = .ok (.getfield 302, 3) := by decide +kernel
theorem dX11_child_168 : decode cX11_child 168 = .ok (.iconst 2, 1) := by decide +kernel
theorem dX11_child_169 : decode cX11_child 169 = .ok (.iadd, 1) := by decide +kernel
theorem dX11_child_170 : decode cX11_child 170 = .ok (.aload_n 0, 1) := by decide +kernel
theorem dX11_child_171 : decode cX11_child 171 = .ok (.getfield 26, 3) := by decide +kernel
theorem dX11_child_174 : decode cX11_child 174 = .ok (.iload 5, 2) := by decide +kernel
theorem dX11_child_176 : decode cX11_child 176 = .ok (.invokevirtual 305, 3) := by decide +kernel
theorem dX11_child_179 : decode cX11_child 179 = .ok (.isub, 1) := by decide +kernel
theorem dX11_child_180 : decode cX11_child 180 = .ok (.iload 5, 2) := by decide +kernel
theorem dX11_child_182 : decode cX11_child 182 = .ok (.invokevirtual 308, 3) := by decide +kernel
theorem dX11_child_185 : decode cX11_child 185 = .ok (.aload 7, 2) := by decide +kernel
theorem dX11_child_187 : decode cX11_child 187 = .ok (.getfield 312, 3) := by decide +kernel
theorem dX11_child_190 : decode cX11_child 190 = .ok (.aload_n 0, 1) := by decide +kernel
theorem dX11_child_191 : decode cX11_child 191 = .ok (.getfield 64, 3) := by decide +kernel
theorem dX11_child_194 : decode cX11_child 194 = .ok (.aload 6, 2) := by decide +kernel
theorem dX11_child_196 : decode cX11_child 196 = .ok (.getfield 312, 3) := by decide +kernel
theorem dX11_child_199 : decode cX11_child 199 = .ok (.invokevirtual 315, 3) := by decide +kernel
theorem dX11_child_202 : decode cX11_child 202 = .ok (.aload_n 0, 1) := by decide +kernel
theorem dX11_child_203 : decode cX11_child 203 = .ok (.getfield 26, 3) := by decide +kernel
theorem dX11_child_206 : decode cX11_child 206 = .ok (.iload 5, 2) := by decide +kernel
theorem dX11_child_208 : decode cX11_child 208 = .ok (.invokevirtual 319, 3) := by decide +kernel
theorem dX11_child_211 : decode cX11_child 211 = .ok (.aload 7, 2) := by decide +kernel
theorem dX11_child_213 : decode cX11_child 213 = .ok (.getfield 312, 3) := by decide +kernel
theorem dX11_child_216 : decode cX11_child 216 = .ok (.invokevirtual 323, 3) := by decide +kernel
theorem dX11_child_219 : decode cX11_child 219 = .ok (.return_, 1) := by decide +kernel
set_option maxHeartbeats 4000000 in
set_option maxRecDepth 100000 in
theorem m_X11_child (l : Launch) (hl9 : l.stackTraces = false) {Z : pZ} (S : pSh Z) {h : pH} (I : Iv Z h) (label : Int32) (width : Int32) (height : Int32) (K : pSk Z) (L : pLk Z h) (hq3 : (h 129 3).toInt ≤ 8900) : xMet l yX11_child cX11_child 8 none 8 (gmc Z) (gms Z) 147 Z h [.ref (zB Z + 0), .int label, .int width, .int height] (gQv Z (fun Z1 h1 k n => pGr Z Z1 ∧ pSk Z1 ∧ Iv Z1 h1 ∧ agrD [(0, 11), (122, 1000), (129, 2), (129, 3), (36, 4), (36, 5), (37, 1000), (38, 1000), (22, 5), (23, 1000), (25, 1000), (0, 10), (10, 3), (10, 4), (10, 5), (10, 6)] h h1 ∧ (k ≤ pPh Z1 - pPh Z ∧ n ≤ 2 * (pPh Z1 - pPh Z) ∧ pPh Z ≤ pPh Z1) ∧ pLk Z1 h1 ∧ ((h1 129 2).toInt ≤ (h 129 2).toInt + 1) ∧ ((h1 129 3).toInt ≤ (h 129 3).toInt + 1))) (gX Z (fun E Z1 h1 k n => (E = xIA ∨ E = xIS) ∧ pGr Z Z1 ∧ pSk Z1 ∧ Iv Z1 h1 ∧ agrD [(0, 11), (122, 1000), (129, 2), (129, 3), (36, 4), (36, 5), (37, 1000), (38, 1000), (22, 5), (23, 1000), (25, 1000), (0, 10), (10, 3), (10, 4), (10, 5), (10, 6)] h h1 ∧ (k ≤ pPh Z1 - pPh Z + 1 ∧ n ≤ 2 * (pPh Z1 - pPh Z) + 6 ∧ pPh Z ≤ pPh Z1) ∧ pLk Z1 h1 ∧ ((h1 129 2).toInt ≤ (h 129 2).toInt + 1) ∧ ((h1 129 3).toInt ≤ (h 129 3).toInt + 1))) := by
  refine xOfW (lv := [(0, .ref (zB Z + 0)), (1, .int label), (2, .int width), (3, .int height)]) (by decide) (Nat.le_of_ble_eq_true rfl) rfl ?_
  intro p e s m below meth c ls M hr hlk hnm V hl hct X
  have hx := M.1.1
  have hb := M.1.2.1
  have A : agrD [] h h := agrD.rf
  have hP0 : pPh Z ≤ pPh Z := Nat.le_refl _
  have hPm := K.ph
  have GR : pGr Z Z := pGr.rf
  have J_64 : ∀ (y64_0 : Int32) (hJ : pH) (H : Heap) (locs : List Loc) (ls : Array Slot), pV Z hJ s.heap H locs → Iv Z hJ → pLk Z hJ → agrD [] h hJ → lv_has ls 8 [(0, .ref (zB Z + 0)), (1, .int label), (2, .int width), (3, .int height)] → (0 ≤ y64_0.toInt ∧ y64_0.toInt ≤ 1) → W p l e (pRm 8 (gmc Z) (gms Z) 147) s m ([.ref (zB Z + 0), .int label, .int width, .int height] : List Value).toArray below meth c H locs (pPh Z - pPh Z) (2 * (pPh Z - pPh Z)) (vx_MQ below (gQv Z (fun Z1 h1 k n => pGr Z Z1 ∧ pSk Z1 ∧ Iv Z1 h1 ∧ agrD [(0, 11), (122, 1000), (129, 2), (129, 3), (36, 4), (36, 5), (37, 1000), (38, 1000), (22, 5), (23, 1000), (25, 1000), (0, 10), (10, 3), (10, 4), (10, 5), (10, 6)] h h1 ∧ (k ≤ pPh Z1 - pPh Z ∧ n ≤ 2 * (pPh Z1 - pPh Z) ∧ pPh Z ≤ pPh Z1) ∧ pLk Z1 h1 ∧ ((h1 129 2).toInt ≤ (h 129 2).toInt + 1) ∧ ((h1 129 3).toInt ≤ (h 129 3).toInt + 1))) (gX Z (fun E Z1 h1 k n => (E = xIA ∨ E = xIS) ∧ pGr Z Z1 ∧ pSk Z1 ∧ Iv Z1 h1 ∧ agrD [(0, 11), (122, 1000), (129, 2), (129, 3), (36, 4), (36, 5), (37, 1000), (38, 1000), (22, 5), (23, 1000), (25, 1000), (0, 10), (10, 3), (10, 4), (10, 5), (10, 6)] h h1 ∧ (k ≤ pPh Z1 - pPh Z + 1 ∧ n ≤ 2 * (pPh Z1 - pPh Z) + 6 ∧ pPh Z ≤ pPh Z1) ∧ pLk Z1 h1 ∧ ((h1 129 2).toInt ≤ (h 129 2).toInt + 1) ∧ ((h1 129 3).toInt ≤ (h 129 3).toInt + 1))) ([.ref (zB Z + 0), .int label, .int width, .int height] : List Value).toArray s (gmc Z) (gms Z) (pA (zB Z))) (F0 m 64 ls [.int y64_0, .ref (zB Z + 0)]) := by
    intro y64_0 hJ H locs ls V I L A hl gs_64_0
    have wJ_129_2 : (hJ 129 2).toInt = (h 129 2).toInt := congrArg Int32.toInt (A.get 129 2 (by decide))
    have wJ_129_3 : (hJ 129 3).toInt = (h 129 3).toInt := congrArg Int32.toInt (A.get 129 3 (by decide))
    refine xz_v Z rfl rfl (xr_V M V X (m_X11_requireState l hl9 S I y64_0) km_X11_requireState (c_is_0 S) pC11 lkM_X11_88 rfl hl.1 rfl (Nat.le_of_ble_eq_true rfl) ⟨Nat.le_of_ble_eq_true rfl, Nat.le_of_ble_eq_true rfl⟩ (g_rk (by omega) (by omega)) dX11_child_64) V (fun E ce q9 yr1 hr1 H locs pr1 V w1 w2 w3 => ?_) (fun yr1 hr1 kr1 nr1 H locs pr1 V => ?_)
    · obtain ⟨hE, e2, I, pA_r1⟩ := pr1
      rw [← e2] at V
      have A := A.wk (l3 := [(0, 10), (22, 5), (36, 4), (36, 5), (122, 1000), (10, 3), (10, 4), (10, 5), (10, 6)]) (by decide)
      have A := A.tr pA_r1 (by decide)
      have L := L.congr (pA_r1.get 129 2 (by decide)) (pA_r1.get 129 3 (by decide))
      have w_r1_129_2 : (hr1 129 2).toInt = (hJ 129 2).toInt := congrArg Int32.toInt (pA_r1.get 129 2 (by decide))
      have w_r1_129_3 : (hr1 129 3).toInt = (hJ 129 3).toInt := congrArg Int32.toInt (pA_r1.get 129 3 (by decide))
      exact xe_out (Z' := Z) V rfl rfl hct hlk w1 w2 w3 ⟨Or.inr hE, GR, K, I, A.wk (by decide), ⟨by omega, by omega, hP0⟩, L, (show (hr1 129 2).toInt ≤ (h 129 2).toInt + 1 by omega), (show (hr1 129 3).toInt ≤ (h 129 3).toInt + 1 by omega)⟩ (g_rx (by omega) (by omega) hPm)
    · obtain ⟨e2, rfl, rfl, rfl, fr1⟩ := pr1
      rw [← e2] at V
      refine lv_aload_n hx hb dX11_child_67 rfl (lv_at hl 0 rfl) ?_
      refine pg_r M V 11 3 (c_is_0 S) pC11 fk11_3 (c_r_0_3 S) lkF_X11_33 dX11_child_68 ?_
      refine lv_iload_n hx hb dX11_child_71 rfl (lv_at hl 1 rfl) ?_
      refine pk_i (pr_V M V (m_X8_idOf l S I label ) km_X8_idOf (c_is_36 S) pC8 lkM_X11_234 rfl hl.1 rfl (Nat.le_of_ble_eq_true rfl) ⟨Nat.le_of_ble_eq_true rfl, Nat.le_of_ble_eq_true rfl⟩ (g_r0 (by omega) (by omega)) dX11_child_72) V (fun r2 Zr2 hr2 H locs pr2 _ _ V => ?_)
      obtain ⟨rfl, I, pA_r2⟩ := pr2
      have A := A.tr pA_r2 (by decide)
      have L := L.congr (pA_r2.get 129 2 (by decide)) (pA_r2.get 129 3 (by decide))
      have w_r2_129_2 : (hr2 129 2).toInt = (hJ 129 2).toInt := congrArg Int32.toInt (pA_r2.get 129 2 (by decide))
      have w_r2_129_3 : (hr2 129 3).toInt = (hJ 129 3).toInt := congrArg Int32.toInt (pA_r2.get 129 3 (by decide))
      refine lv_istore (lv' := [(4, .int r2), (0, .ref (zB Z + 0)), (1, .int label), (2, .int width), (3, .int height)]) hx hb dX11_child_75 hl (by decide) rfl (fun ls hl => ?_)
      refine lv_aload_n hx hb dX11_child_77 rfl (lv_at hl 1 rfl) ?_
      refine lv_iload_n hx hb dX11_child_78 rfl (lv_at hl 3 rfl) ?_
      refine lv_iload_n hx hb dX11_child_79 rfl (lv_at hl 4 rfl) ?_
      refine pk_v (pr_V M V (m_X11_layItem l S I width height ) km_X11_layItem (c_is_0 S) pC11 lkM_X11_284 rfl hl.1 rfl (Nat.le_of_ble_eq_true rfl) ⟨Nat.le_of_ble_eq_true rfl, Nat.le_of_ble_eq_true rfl⟩ (g_r0 (by omega) (by omega)) dX11_child_80) V (fun Zr3 hr3 H locs pr3 _ _ V => ?_)
      obtain ⟨rfl, I, pA_r3⟩ := pr3
      have A := A.wk (l3 := [(0, 11)]) (by decide)
      have A := A.tr pA_r3 (by decide)
      have L := L.congr (pA_r3.get 129 2 (by decide)) (pA_r3.get 129 3 (by decide))
      have w_r3_129_2 : (hr3 129 2).toInt = (hr2 129 2).toInt := congrArg Int32.toInt (pA_r3.get 129 2 (by decide))
      have w_r3_129_3 : (hr3 129 3).toInt = (hr2 129 3).toInt := congrArg Int32.toInt (pA_r3.get 129 3 (by decide))
      refine lv_aload_n hx hb dX11_child_83 rfl (lv_at hl 1 rfl) ?_
      refine pg_r M V 11 4 (c_is_0 S) pC11 fk11_4 (c_r_0_4 S) lkF_X11_40 dX11_child_84 ?_
      refine lv_iload hx hb dX11_child_87 (lv_at hl 0 rfl) ?_
      refine pk_v (pr_V M V (m_X1_noteTold l S I r2 ) km_X1_noteTold (c_is_122 S) pC1 lkM_X11_287 rfl hl.1 rfl (Nat.le_of_ble_eq_true rfl) ⟨Nat.le_of_ble_eq_true rfl, Nat.le_of_ble_eq_true rfl⟩ (g_r0 (by omega) (by omega)) dX11_child_89) V (fun Zr4 hr4 H locs pr4 _ _ V => ?_)
      obtain ⟨rfl, I, pA_r4⟩ := pr4
      have A := A.wk (l3 := [(0, 11), (122, 1000)]) (by decide)
      have A := A.tr pA_r4 (by decide)
      have L := L.congr (pA_r4.get 129 2 (by decide)) (pA_r4.get 129 3 (by decide))
      have w_r4_129_2 : (hr4 129 2).toInt = (hr3 129 2).toInt := congrArg Int32.toInt (pA_r4.get 129 2 (by decide))
      have w_r4_129_3 : (hr4 129 3).toInt = (hr3 129 3).toInt := congrArg Int32.toInt (pA_r4.get 129 3 (by decide))
      refine lv_aload_n hx hb dX11_child_92 rfl (lv_at hl 1 rfl) ?_
      refine lv_iload hx hb dX11_child_93 (lv_at hl 0 rfl) ?_
      refine gz_v Z rfl rfl (pr_V M V (m_X11_drawItem l S I r2 K L (by omega)) km_X11_drawItem (c_is_0 S) pC11 lkM_X11_241 rfl hl.1 rfl (Nat.le_of_ble_eq_true rfl) ⟨Nat.le_of_ble_eq_true rfl, Nat.le_of_ble_eq_true rfl⟩ (g_rg (by omega) (by omega) hP0 hPm) dX11_child_95) V (fun yr5 hr5 kr5 nr5 H locs pr5 V => ?_)
      obtain ⟨gr5, K, I, pA_r5, br5, L, fr5_0, fr5_1⟩ := pr5
      have A := A.wk (l3 := [(0, 11), (122, 1000), (129, 2), (129, 3)]) (by decide)
      have A := A.tr pA_r5 (by decide)
      have S := S.gr (Z1 := (gW Z yr5)) rfl gr5
      have M := pM.to (gW Z yr5) rfl M
      have GR := GR.tr gr5
      have hP0 : pPh Z ≤ pPh (gW Z yr5) := by omega
      have hPm := K.ph
      refine W.widen (k := pPh (gW Z yr5) - pPh Z) (n := 2 * (pPh (gW Z yr5) - pPh Z)) (by omega) (by omega) ?_
      refine lv_aload_n hx hb dX11_child_98 rfl (lv_at hl 1 rfl) ?_
      refine pg_r (Z := (gW Z yr5)) M V 11 2 (c_is_0 S) pC11 fk11_2 (c_r_0_2 S) lkF_X11_26 dX11_child_99 ?_
      refine lv_aload_n hx hb dX11_child_102 rfl (lv_at hl 1 rfl) ?_
      refine pg_r (Z := (gW Z yr5)) M V 11 1 (c_is_0 S) pC11 fk11_1 (c_r_0_1 S) lkF_X11_19 dX11_child_103 ?_
      refine pg_i (Z := (gW Z yr5)) M V 3 4 (c_is_10 S) pC3 fk3_4 lkF_X11_290 dX11_child_106 ?_
      refine lv_topi (fun v6 ev6 => ?_)
      refine lv_aload_n hx hb dX11_child_109 rfl (lv_at hl 1 rfl) ?_
      refine pg_r (Z := (gW Z yr5)) M V 11 0 (c_is_0 S) pC11 fk11_0 (c_r_0_0 S) lkF_X11_10 dX11_child_110 ?_
      refine pg_i (Z := (gW Z yr5)) M V 5 6 (c_is_1 S) pC5 fk5_6 lkF_X11_293 dX11_child_113 ?_
      refine lv_topi (fun v7 ev7 => ?_)
      refine lv_iload_n hx hb dX11_child_116 rfl (lv_at hl 4 rfl) ?_
      refine pk_i (pr_V (Z := (gW Z yr5)) M V (m_X6_tell l S I v6 v7 height ) km_X6_tell (c_is_22 S) pC6 lkM_X11_296 rfl hl.1 rfl (Nat.le_of_ble_eq_true rfl) ⟨Nat.le_of_ble_eq_true rfl, Nat.le_of_ble_eq_true rfl⟩ (g_r0 (by omega) (by omega)) dX11_child_117) V (fun r8 Zr8 hr8 H locs pr8 _ _ V => ?_)
      obtain ⟨rfl, I, pA_r8, fr8_0⟩ := pr8
      have A := A.wk (l3 := [(0, 11), (122, 1000), (129, 2), (129, 3), (22, 5), (23, 1000), (25, 1000)]) (by decide)
      have A := A.tr pA_r8 (by decide)
      have L := L.congr (pA_r8.get 129 2 (by decide)) (pA_r8.get 129 3 (by decide))
      have w_r8_129_2 : (hr8 129 2).toInt = (hr5 129 2).toInt := congrArg Int32.toInt (pA_r8.get 129 2 (by decide))
      have w_r8_129_3 : (hr8 129 3).toInt = (hr5 129 3).toInt := congrArg Int32.toInt (pA_r8.get 129 3 (by decide))
      refine lv_istore (lv' := [(5, .int r8), (4, .int r2), (0, .ref (zB Z + 0)), (1, .int label), (2, .int width), (3, .int height)]) hx hb dX11_child_120 hl (by decide) rfl (fun ls hl => ?_)
      refine lv_aload_n hx hb dX11_child_122 rfl (lv_at hl 2 rfl) ?_
      refine pg_r (Z := (gW Z yr5)) M V 11 3 (c_is_0 S) pC11 fk11_3 (c_r_0_3 S) lkF_X11_33 dX11_child_123 ?_
      refine pk_r (pr_V (Z := (gW Z yr5)) M V (m_X8_area l S I ) km_X8_area (c_is_36 S) pC8 lkM_X11_185 rfl hl.1 rfl (Nat.le_of_ble_eq_true rfl) ⟨Nat.le_of_ble_eq_true rfl, Nat.le_of_ble_eq_true rfl⟩ (g_r0 (by omega) (by omega)) dX11_child_126) V (fun r9 Zr9 hr9 H locs pr9 _ _ V => ?_)
      obtain ⟨rfl, rfl, fr9_0⟩ := pr9
      refine lv_astore (lv' := [(6, .ref (zB Z + r9)), (5, .int r8), (4, .int r2), (0, .ref (zB Z + 0)), (1, .int label), (2, .int width), (3, .int height)]) hx hb dX11_child_129 hl (by decide) rfl (fun ls hl => ?_)
      refine lv_aload_n hx hb dX11_child_131 rfl (lv_at hl 3 rfl) ?_
      refine pg_r (Z := (gW Z yr5)) M V 11 3 (c_is_0 S) pC11 fk11_3 (c_r_0_3 S) lkF_X11_33 dX11_child_132 ?_
      refine lv_iconst (v := 1) hx hb dX11_child_135 (by decide) ?_
      refine lv_iload hx hb dX11_child_136 (lv_at hl 2 rfl) ?_
      refine pk_v (pr_V (Z := (gW Z yr5)) M V (m_X8_put l S I (1 : Int32) r2 ) km_X8_put (c_is_36 S) pC8 lkM_X11_280 rfl hl.1 rfl (Nat.le_of_ble_eq_true rfl) ⟨Nat.le_of_ble_eq_true rfl, Nat.le_of_ble_eq_true rfl⟩ (g_r0 (by omega) (by omega)) dX11_child_138) V (fun Zr10 hr10 H locs pr10 _ _ V => ?_)
      obtain ⟨rfl, I, pA_r10⟩ := pr10
      have A := A.wk (l3 := [(0, 11), (122, 1000), (129, 2), (129, 3), (22, 5), (23, 1000), (25, 1000), (36, 4), (36, 5), (37, 1000), (38, 1000)]) (by decide)
      have A := A.tr pA_r10 (by decide)
      have L := L.congr (pA_r10.get 129 2 (by decide)) (pA_r10.get 129 3 (by decide))
      have w_r10_129_2 : (hr10 129 2).toInt = (hr8 129 2).toInt := congrArg Int32.toInt (pA_r10.get 129 2 (by decide))
      have w_r10_129_3 : (hr10 129 3).toInt = (hr8 129 3).toInt := congrArg Int32.toInt (pA_r10.get 129 3 (by decide))
      refine lv_aload_n hx hb dX11_child_141 rfl (lv_at hl 3 rfl) ?_
      refine pg_r (Z := (gW Z yr5)) M V 11 3 (c_is_0 S) pC11 fk11_3 (c_r_0_3 S) lkF_X11_33 dX11_child_142 ?_
      refine pk_r (pr_V (Z := (gW Z yr5)) M V (m_X8_area l S I ) km_X8_area (c_is_36 S) pC8 lkM_X11_185 rfl hl.1 rfl (Nat.le_of_ble_eq_true rfl) ⟨Nat.le_of_ble_eq_true rfl, Nat.le_of_ble_eq_true rfl⟩ (g_r0 (by omega) (by omega)) dX11_child_145) V (fun r11 Zr11 hr11 H locs pr11 _ _ V => ?_)
      obtain ⟨rfl, rfl, fr11_0⟩ := pr11
      refine lv_astore (lv' := [(7, .ref (zB Z + r11)), (6, .ref (zB Z + r9)), (5, .int r8), (4, .int r2), (0, .ref (zB Z + 0)), (1, .int label), (2, .int width), (3, .int height)]) hx hb dX11_child_148 hl (by decide) rfl (fun ls hl => ?_)
      refine lv_aload hx hb dX11_child_150 (lv_at hl 0 rfl) ?_
      refine lv_aload_n hx hb dX11_child_152 rfl (lv_at hl 4 rfl) ?_
      refine pg_r (Z := (gW Z yr5)) M V 11 8 (c_is_0 S) pC11 fk11_8 (c_r_0_8 S) lkF_X11_64 dX11_child_153 ?_
      refine pg_i (Z := (gW Z yr5)) M V 2 0 (c_is_135 S) pC2 fk2_0 lkF_X11_299 dX11_child_156 ?_
      refine lv_topi (fun v12 ev12 => ?_)
      refine lv_iconst (v := 2) hx hb dX11_child_159 (by decide) ?_
      refine lv_iadd hx hb dX11_child_160 ?_
      refine lv_topi (fun v13 ev13 => ?_)
      refine lv_aload_n hx hb dX11_child_161 rfl (lv_at hl 4 rfl) ?_
      refine pg_r (Z := (gW Z yr5)) M V 11 8 (c_is_0 S) pC11 fk11_8 (c_r_0_8 S) lkF_X11_64 dX11_child_162 ?_
      refine pg_i (Z := (gW Z yr5)) M V 2 1 (c_is_135 S) pC2 fk2_1 lkF_X11_302 dX11_child_165 ?_
      refine lv_topi (fun v14 ev14 => ?_)
      refine lv_iconst (v := 2) hx hb dX11_child_168 (by decide) ?_
      refine lv_iadd hx hb dX11_child_169 ?_
      refine lv_topi (fun v15 ev15 => ?_)
      refine lv_aload_n hx hb dX11_child_170 rfl (lv_at hl 4 rfl) ?_
      refine pg_r (Z := (gW Z yr5)) M V 11 2 (c_is_0 S) pC11 fk11_2 (c_r_0_2 S) lkF_X11_26 dX11_child_171 ?_
      refine lv_iload hx hb dX11_child_174 (lv_at hl 2 rfl) ?_
      refine pk_i (pr_V (Z := (gW Z yr5)) M V (m_X6_scrollOf l S I r8 ) km_X6_scrollOf (c_is_22 S) pC6 lkM_X11_305 rfl hl.1 rfl (Nat.le_of_ble_eq_true rfl) ⟨Nat.le_of_ble_eq_true rfl, Nat.le_of_ble_eq_true rfl⟩ (g_r0 (by omega) (by omega)) dX11_child_176) V (fun r16 Zr16 hr16 H locs pr16 _ _ V => ?_)
      obtain ⟨rfl, I, pA_r16⟩ := pr16
      have A := A.tr pA_r16 (by decide)
      have L := L.congr (pA_r16.get 129 2 (by decide)) (pA_r16.get 129 3 (by decide))
      have w_r16_129_2 : (hr16 129 2).toInt = (hr10 129 2).toInt := congrArg Int32.toInt (pA_r16.get 129 2 (by decide))
      have w_r16_129_3 : (hr16 129 3).toInt = (hr10 129 3).toInt := congrArg Int32.toInt (pA_r16.get 129 3 (by decide))
      refine lv_isub hx hb dX11_child_179 ?_
      refine lv_topi (fun v17 ev17 => ?_)
      refine lv_iload hx hb dX11_child_180 (lv_at hl 2 rfl) ?_
      refine pk_v (pr_V (Z := (gW Z yr5)) M V (m_X0_start l S I r11 fr11_0.1 v13 v17 r8 ) km_X0_start fr11_0.1 pC0 lkM_X11_308 rfl hl.1 rfl (Nat.le_of_ble_eq_true rfl) ⟨Nat.le_of_ble_eq_true rfl, Nat.le_of_ble_eq_true rfl⟩ (g_r0 (by omega) (by omega)) dX11_child_182) V (fun Zr18 hr18 H locs pr18 _ _ V => ?_)
      obtain ⟨rfl, I, pA_r18⟩ := pr18
      have A := A.tr pA_r18 (by decide)
      have L := L.congr (pA_r18.get 129 2 (by decide)) (pA_r18.get 129 3 (by decide))
      have w_r18_129_2 : (hr18 129 2).toInt = (hr16 129 2).toInt := congrArg Int32.toInt (pA_r18.get 129 2 (by decide))
      have w_r18_129_3 : (hr18 129 3).toInt = (hr16 129 3).toInt := congrArg Int32.toInt (pA_r18.get 129 3 (by decide))
      refine lv_aload hx hb dX11_child_185 (lv_at hl 0 rfl) ?_
      refine pg_r (Z := (gW Z yr5)) M V 0 0 fr11_0.1 pC0 fk0_0 fr11_0.2.1 lkF_X11_312 dX11_child_187 ?_
      refine lv_aload_n hx hb dX11_child_190 rfl (lv_at hl 4 rfl) ?_
      refine pg_r (Z := (gW Z yr5)) M V 11 8 (c_is_0 S) pC11 fk11_8 (c_r_0_8 S) lkF_X11_64 dX11_child_191 ?_
      refine lv_aload hx hb dX11_child_194 (lv_at hl 1 rfl) ?_
      refine pg_r (Z := (gW Z yr5)) M V 0 0 fr9_0.1 pC0 fk0_0 fr9_0.2.1 lkF_X11_312 dX11_child_196 ?_
      refine pk_v (pr_V (Z := (gW Z yr5)) M V (m_X2_setMeeting l S I (r11 + 1) fr11_0.2.2 135 (c_is_135 S) (r9 + 1) fr9_0.2.2 ) km_X2_setMeeting fr11_0.2.2 pC2 lkM_X11_315 rfl hl.1 rfl (Nat.le_of_ble_eq_true rfl) ⟨Nat.le_of_ble_eq_true rfl, Nat.le_of_ble_eq_true rfl⟩ (g_r0 (by omega) (by omega)) dX11_child_199) V (fun Zr19 hr19 H locs pr19 _ _ V => ?_)
      obtain ⟨rfl, I, pA_r19⟩ := pr19
      have A := A.tr pA_r19 (by decide)
      have L := L.congr (pA_r19.get 129 2 (by decide)) (pA_r19.get 129 3 (by decide))
      have w_r19_129_2 : (hr19 129 2).toInt = (hr18 129 2).toInt := congrArg Int32.toInt (pA_r19.get 129 2 (by decide))
      have w_r19_129_3 : (hr19 129 3).toInt = (hr18 129 3).toInt := congrArg Int32.toInt (pA_r19.get 129 3 (by decide))
      refine lv_aload_n hx hb dX11_child_202 rfl (lv_at hl 4 rfl) ?_
      refine pg_r (Z := (gW Z yr5)) M V 11 2 (c_is_0 S) pC11 fk11_2 (c_r_0_2 S) lkF_X11_26 dX11_child_203 ?_
      refine lv_iload hx hb dX11_child_206 (lv_at hl 2 rfl) ?_
      refine pk_r (pr_V (Z := (gW Z yr5)) M V (m_X6_clipOf l S I r8) km_X6_clipOf (c_is_22 S) pC6 lkM_X11_319 rfl hl.1 rfl (Nat.le_of_ble_eq_true rfl) ⟨Nat.le_of_ble_eq_true rfl, Nat.le_of_ble_eq_true rfl⟩ (g_r0 (by omega) (by omega)) dX11_child_208) V (fun r20 Zr20 hr20 H locs pr20 _ _ V => ?_)
      obtain ⟨rfl, rfl, fr20_0⟩ := pr20
      refine lv_aload hx hb dX11_child_211 (lv_at hl 0 rfl) ?_
      refine pg_r (Z := (gW Z yr5)) M V 0 0 fr11_0.1 pC0 fk0_0 fr11_0.2.1 lkF_X11_312 dX11_child_213 ?_
      refine pk_v (pr_V (Z := (gW Z yr5)) M V (m_X2_setLike l S I r20 fr20_0 (r11 + 1) fr11_0.2.2 ) km_X2_setLike fr20_0 pC2 lkM_X11_323 rfl hl.1 rfl (Nat.le_of_ble_eq_true rfl) ⟨Nat.le_of_ble_eq_true rfl, Nat.le_of_ble_eq_true rfl⟩ (g_r0 (by omega) (by omega)) dX11_child_216) V (fun Zr21 hr21 H locs pr21 _ _ V => ?_)
      obtain ⟨rfl, I, pA_r21⟩ := pr21
      have A := A.tr pA_r21 (by decide)
      have L := L.congr (pA_r21.get 129 2 (by decide)) (pA_r21.get 129 3 (by decide))
      have w_r21_129_2 : (hr21 129 2).toInt = (hr19 129 2).toInt := congrArg Int32.toInt (pA_r21.get 129 2 (by decide))
      have w_r21_129_3 : (hr21 129 3).toInt = (hr19 129 3).toInt := congrArg Int32.toInt (pA_r21.get 129 3 (by decide))
      exact vx_ret (ge_v (Z := Z) (Z' := (gW Z yr5)) M V rfl rfl hr hlk ⟨GR, K, I, A.wk (by decide), ⟨by omega, by omega, hP0⟩, L, (show (hr21 129 2).toInt ≤ (h 129 2).toInt + 1 by omega), (show (hr21 129 3).toInt ≤ (h 129 3).toInt + 1 by omega)⟩ (g_re (by omega) (by omega) hPm) dX11_child_219)
  have J_63 : ∀ (hJ : pH) (H : Heap) (locs : List Loc) (ls : Array Slot), pV Z hJ s.heap H locs → Iv Z hJ → pLk Z hJ → agrD [] h hJ → lv_has ls 8 [(0, .ref (zB Z + 0)), (1, .int label), (2, .int width), (3, .int height)] → W p l e (pRm 8 (gmc Z) (gms Z) 147) s m ([.ref (zB Z + 0), .int label, .int width, .int height] : List Value).toArray below meth c H locs (pPh Z - pPh Z) (2 * (pPh Z - pPh Z)) (vx_MQ below (gQv Z (fun Z1 h1 k n => pGr Z Z1 ∧ pSk Z1 ∧ Iv Z1 h1 ∧ agrD [(0, 11), (122, 1000), (129, 2), (129, 3), (36, 4), (36, 5), (37, 1000), (38, 1000), (22, 5), (23, 1000), (25, 1000), (0, 10), (10, 3), (10, 4), (10, 5), (10, 6)] h h1 ∧ (k ≤ pPh Z1 - pPh Z ∧ n ≤ 2 * (pPh Z1 - pPh Z) ∧ pPh Z ≤ pPh Z1) ∧ pLk Z1 h1 ∧ ((h1 129 2).toInt ≤ (h 129 2).toInt + 1) ∧ ((h1 129 3).toInt ≤ (h 129 3).toInt + 1))) (gX Z (fun E Z1 h1 k n => (E = xIA ∨ E = xIS) ∧ pGr Z Z1 ∧ pSk Z1 ∧ Iv Z1 h1 ∧ agrD [(0, 11), (122, 1000), (129, 2), (129, 3), (36, 4), (36, 5), (37, 1000), (38, 1000), (22, 5), (23, 1000), (25, 1000), (0, 10), (10, 3), (10, 4), (10, 5), (10, 6)] h h1 ∧ (k ≤ pPh Z1 - pPh Z + 1 ∧ n ≤ 2 * (pPh Z1 - pPh Z) + 6 ∧ pPh Z ≤ pPh Z1) ∧ pLk Z1 h1 ∧ ((h1 129 2).toInt ≤ (h 129 2).toInt + 1) ∧ ((h1 129 3).toInt ≤ (h 129 3).toInt + 1))) ([.ref (zB Z + 0), .int label, .int width, .int height] : List Value).toArray s (gmc Z) (gms Z) (pA (zB Z))) (F0 m 63 ls [.ref (zB Z + 0)]) := by
    intro hJ H locs ls V I L A hl
    have wJ_129_2 : (hJ 129 2).toInt = (h 129 2).toInt := congrArg Int32.toInt (A.get 129 2 (by decide))
    have wJ_129_3 : (hJ 129 3).toInt = (h 129 3).toInt := congrArg Int32.toInt (A.get 129 3 (by decide))
    refine lv_iconst (v := 0) hx hb dX11_child_63 (by decide) ?_
    have k_0 : (0 : Int32).toInt = 0 := rfl
    exact J_64 (0 : Int32) _ _ _ _ V I L (A.wk (by decide)) (lv_sub hl [0, 1, 2, 3] rfl) (by omega) 
  have J_35 : ∀ (y35_0 : Int32) (hJ : pH) (H : Heap) (locs : List Loc) (ls : Array Slot), pV Z hJ s.heap H locs → Iv Z hJ → pLk Z hJ → agrD [] h hJ → lv_has ls 8 [(0, .ref (zB Z + 0)), (1, .int label), (2, .int width), (3, .int height)] → (0 ≤ y35_0.toInt ∧ y35_0.toInt ≤ 1) → W p l e (pRm 8 (gmc Z) (gms Z) 147) s m ([.ref (zB Z + 0), .int label, .int width, .int height] : List Value).toArray below meth c H locs (pPh Z - pPh Z) (2 * (pPh Z - pPh Z)) (vx_MQ below (gQv Z (fun Z1 h1 k n => pGr Z Z1 ∧ pSk Z1 ∧ Iv Z1 h1 ∧ agrD [(0, 11), (122, 1000), (129, 2), (129, 3), (36, 4), (36, 5), (37, 1000), (38, 1000), (22, 5), (23, 1000), (25, 1000), (0, 10), (10, 3), (10, 4), (10, 5), (10, 6)] h h1 ∧ (k ≤ pPh Z1 - pPh Z ∧ n ≤ 2 * (pPh Z1 - pPh Z) ∧ pPh Z ≤ pPh Z1) ∧ pLk Z1 h1 ∧ ((h1 129 2).toInt ≤ (h 129 2).toInt + 1) ∧ ((h1 129 3).toInt ≤ (h 129 3).toInt + 1))) (gX Z (fun E Z1 h1 k n => (E = xIA ∨ E = xIS) ∧ pGr Z Z1 ∧ pSk Z1 ∧ Iv Z1 h1 ∧ agrD [(0, 11), (122, 1000), (129, 2), (129, 3), (36, 4), (36, 5), (37, 1000), (38, 1000), (22, 5), (23, 1000), (25, 1000), (0, 10), (10, 3), (10, 4), (10, 5), (10, 6)] h h1 ∧ (k ≤ pPh Z1 - pPh Z + 1 ∧ n ≤ 2 * (pPh Z1 - pPh Z) + 6 ∧ pPh Z ≤ pPh Z1) ∧ pLk Z1 h1 ∧ ((h1 129 2).toInt ≤ (h 129 2).toInt + 1) ∧ ((h1 129 3).toInt ≤ (h 129 3).toInt + 1))) ([.ref (zB Z + 0), .int label, .int width, .int height] : List Value).toArray s (gmc Z) (gms Z) (pA (zB Z))) (F0 m 35 ls [.int y35_0, .ref (zB Z + 0)]) := by
    intro y35_0 hJ H locs ls V I L A hl gs_35_0
    have wJ_129_2 : (hJ 129 2).toInt = (h 129 2).toInt := congrArg Int32.toInt (A.get 129 2 (by decide))
    have wJ_129_3 : (hJ 129 3).toInt = (h 129 3).toInt := congrArg Int32.toInt (A.get 129 3 (by decide))
    refine xz_v Z rfl rfl (xr_V M V X (m_X11_requireItem l hl9 S I y35_0) km_X11_requireItem (c_is_0 S) pC11 lkM_X11_231 rfl hl.1 rfl (Nat.le_of_ble_eq_true rfl) ⟨Nat.le_of_ble_eq_true rfl, Nat.le_of_ble_eq_true rfl⟩ (g_rk (by omega) (by omega)) dX11_child_35) V (fun E ce q9 yr22 hr22 H locs pr22 V w1 w2 w3 => ?_) (fun yr22 hr22 kr22 nr22 H locs pr22 V => ?_)
    · obtain ⟨hE, e2, I, pA_r22⟩ := pr22
      rw [← e2] at V
      have A := A.wk (l3 := [(0, 10), (22, 5), (36, 4), (36, 5), (122, 1000), (10, 3), (10, 4), (10, 5), (10, 6)]) (by decide)
      have A := A.tr pA_r22 (by decide)
      have L := L.congr (pA_r22.get 129 2 (by decide)) (pA_r22.get 129 3 (by decide))
      have w_r22_129_2 : (hr22 129 2).toInt = (hJ 129 2).toInt := congrArg Int32.toInt (pA_r22.get 129 2 (by decide))
      have w_r22_129_3 : (hr22 129 3).toInt = (hJ 129 3).toInt := congrArg Int32.toInt (pA_r22.get 129 3 (by decide))
      exact xe_out (Z' := Z) V rfl rfl hct hlk w1 w2 w3 ⟨hE, GR, K, I, A.wk (by decide), ⟨by omega, by omega, hP0⟩, L, (show (hr22 129 2).toInt ≤ (h 129 2).toInt + 1 by omega), (show (hr22 129 3).toInt ≤ (h 129 3).toInt + 1 by omega)⟩ (g_rx (by omega) (by omega) hPm)
    · obtain ⟨e2, rfl, rfl, rfl, fr22⟩ := pr22
      rw [← e2] at V
      refine lv_aload_n hx hb dX11_child_38 rfl (lv_at hl 0 rfl) ?_
      refine lv_aload_n hx hb dX11_child_39 rfl (lv_at hl 0 rfl) ?_
      refine pg_r M V 11 3 (c_is_0 S) pC11 fk11_3 (c_r_0_3 S) lkF_X11_33 dX11_child_40 ?_
      refine pk_i (pr_V M V (m_X8_hasRoom l S I  ) km_X8_hasRoom (c_is_36 S) pC8 lkM_X11_276 rfl hl.1 rfl (Nat.le_of_ble_eq_true rfl) ⟨Nat.le_of_ble_eq_true rfl, Nat.le_of_ble_eq_true rfl⟩ (g_r0 (by omega) (by omega)) dX11_child_43) V (fun r23 Zr23 hr23 H locs pr23 _ _ V => ?_)
      obtain ⟨rfl, I, pA_r23, fr23_0⟩ := pr23
      have A := A.tr pA_r23 (by decide)
      have L := L.congr (pA_r23.get 129 2 (by decide)) (pA_r23.get 129 3 (by decide))
      have w_r23_129_2 : (hr23 129 2).toInt = (hJ 129 2).toInt := congrArg Int32.toInt (pA_r23.get 129 2 (by decide))
      have w_r23_129_3 : (hr23 129 3).toInt = (hJ 129 3).toInt := congrArg Int32.toInt (pA_r23.get 129 3 (by decide))
      refine lv_if_eq (tgt := 63) hx hb dX11_child_46 (by decide) (fun c_46 => ?_) (fun c_46 => ?_)
      · skip
        have k_0 : (0 : Int32).toInt = 0 := rfl
        have c_46 := pi_eq.mp c_46
        exact J_63 _ _ _ _ V I L (A.wk (by decide)) (lv_sub hl [0, 1, 2, 3] rfl) 
      · skip
        have k_0 : (0 : Int32).toInt = 0 := rfl
        have c_46 := pi_ne c_46
        refine lv_aload_n hx hb dX11_child_49 rfl (lv_at hl 0 rfl) ?_
        refine pg_r M V 11 2 (c_is_0 S) pC11 fk11_2 (c_r_0_2 S) lkF_X11_26 dX11_child_50 ?_
        refine pk_i (pr_V M V (m_X6_hasRoom l S I  ) km_X6_hasRoom (c_is_22 S) pC6 lkM_X11_283 rfl hl.1 rfl (Nat.le_of_ble_eq_true rfl) ⟨Nat.le_of_ble_eq_true rfl, Nat.le_of_ble_eq_true rfl⟩ (g_r0 (by omega) (by omega)) dX11_child_53) V (fun r24 Zr24 hr24 H locs pr24 _ _ V => ?_)
        obtain ⟨rfl, I, pA_r24, fr24_0⟩ := pr24
        have A := A.tr pA_r24 (by decide)
        have L := L.congr (pA_r24.get 129 2 (by decide)) (pA_r24.get 129 3 (by decide))
        have w_r24_129_2 : (hr24 129 2).toInt = (hr23 129 2).toInt := congrArg Int32.toInt (pA_r24.get 129 2 (by decide))
        have w_r24_129_3 : (hr24 129 3).toInt = (hr23 129 3).toInt := congrArg Int32.toInt (pA_r24.get 129 3 (by decide))
        refine lv_if_eq (tgt := 63) hx hb dX11_child_56 (by decide) (fun c_56 => ?_) (fun c_56 => ?_)
        · skip
          have c_56 := pi_eq.mp c_56
          exact J_63 _ _ _ _ V I L (A.wk (by decide)) (lv_sub hl [0, 1, 2, 3] rfl) 
        · skip
          have c_56 := pi_ne c_56
          refine lv_iconst (v := 1) hx hb dX11_child_59 (by decide) ?_
          refine lv_goto (tgt := 64) hx hb dX11_child_60 (by decide) ?_
          have k_1 : (1 : Int32).toInt = 1 := rfl
          exact J_64 (1 : Int32) _ _ _ _ V I L (A.wk (by decide)) (lv_sub hl [0, 1, 2, 3] rfl) (by omega) 
  have J_34 : ∀ (hJ : pH) (H : Heap) (locs : List Loc) (ls : Array Slot), pV Z hJ s.heap H locs → Iv Z hJ → pLk Z hJ → agrD [] h hJ → lv_has ls 8 [(0, .ref (zB Z + 0)), (1, .int label), (2, .int width), (3, .int height)] → W p l e (pRm 8 (gmc Z) (gms Z) 147) s m ([.ref (zB Z + 0), .int label, .int width, .int height] : List Value).toArray below meth c H locs (pPh Z - pPh Z) (2 * (pPh Z - pPh Z)) (vx_MQ below (gQv Z (fun Z1 h1 k n => pGr Z Z1 ∧ pSk Z1 ∧ Iv Z1 h1 ∧ agrD [(0, 11), (122, 1000), (129, 2), (129, 3), (36, 4), (36, 5), (37, 1000), (38, 1000), (22, 5), (23, 1000), (25, 1000), (0, 10), (10, 3), (10, 4), (10, 5), (10, 6)] h h1 ∧ (k ≤ pPh Z1 - pPh Z ∧ n ≤ 2 * (pPh Z1 - pPh Z) ∧ pPh Z ≤ pPh Z1) ∧ pLk Z1 h1 ∧ ((h1 129 2).toInt ≤ (h 129 2).toInt + 1) ∧ ((h1 129 3).toInt ≤ (h 129 3).toInt + 1))) (gX Z (fun E Z1 h1 k n => (E = xIA ∨ E = xIS) ∧ pGr Z Z1 ∧ pSk Z1 ∧ Iv Z1 h1 ∧ agrD [(0, 11), (122, 1000), (129, 2), (129, 3), (36, 4), (36, 5), (37, 1000), (38, 1000), (22, 5), (23, 1000), (25, 1000), (0, 10), (10, 3), (10, 4), (10, 5), (10, 6)] h h1 ∧ (k ≤ pPh Z1 - pPh Z + 1 ∧ n ≤ 2 * (pPh Z1 - pPh Z) + 6 ∧ pPh Z ≤ pPh Z1) ∧ pLk Z1 h1 ∧ ((h1 129 2).toInt ≤ (h 129 2).toInt + 1) ∧ ((h1 129 3).toInt ≤ (h 129 3).toInt + 1))) ([.ref (zB Z + 0), .int label, .int width, .int height] : List Value).toArray s (gmc Z) (gms Z) (pA (zB Z))) (F0 m 34 ls [.ref (zB Z + 0)]) := by
    intro hJ H locs ls V I L A hl
    have wJ_129_2 : (hJ 129 2).toInt = (h 129 2).toInt := congrArg Int32.toInt (A.get 129 2 (by decide))
    have wJ_129_3 : (hJ 129 3).toInt = (h 129 3).toInt := congrArg Int32.toInt (A.get 129 3 (by decide))
    refine lv_iconst (v := 0) hx hb dX11_child_34 (by decide) ?_
    have k_0 : (0 : Int32).toInt = 0 := rfl
    exact J_35 (0 : Int32) _ _ _ _ V I L (A.wk (by decide)) (lv_sub hl [0, 1, 2, 3] rfl) (by omega) 
  refine W.widen (k := pPh Z - pPh Z) (n := 2 * (pPh Z - pPh Z)) (Nat.zero_le _) (Nat.zero_le _) ?_
  refine lv_aload_n hx hb dX11_child_0 rfl (lv_at hl 0 rfl) ?_
  refine lv_iload_n hx hb dX11_child_1 rfl (lv_at hl 1 rfl) ?_
  refine pk_i (pr_S M V (m_X11_isLabel l (Z := Z) (h := _) label) km_X11_isLabel lkM_X11_171 rfl hl.1 rfl (Nat.le_of_ble_eq_true rfl) ⟨Nat.le_of_ble_eq_true rfl, Nat.le_of_ble_eq_true rfl⟩ (g_r0 (by omega) (by omega)) dX11_child_2) V (fun r25 Zr25 hr25 H locs pr25 _ _ V => ?_)
  obtain ⟨rfl, rfl, fr25_0⟩ := pr25
  refine lv_if_eq (tgt := 34) hx hb dX11_child_5 (by decide) (fun c_5 => ?_) (fun c_5 => ?_)
  · skip
    have k_0 : (0 : Int32).toInt = 0 := rfl
    have c_5 := pi_eq.mp c_5
    exact J_34 _ _ _ _ V I L (A.wk (by decide)) (lv_sub hl [0, 1, 2, 3] rfl) 
  · skip
    have k_0 : (0 : Int32).toInt = 0 := rfl
    have c_5 := pi_ne c_5
    refine lv_iload_n hx hb dX11_child_8 rfl (lv_at hl 2 rfl) ?_
    refine lv_iconst (v := 1) hx hb dX11_child_9 (by decide) ?_
    refine lv_sipush (v := 200) hx hb dX11_child_10 (by decide) ?_
    have k_1 : (1 : Int32).toInt = 1 := rfl
    have k_200 : (200 : Int32).toInt = 200 := rfl
    refine pk_i (pr_S M V (m_X11_isWithin l (Z := Z) (h := _) width (1 : Int32) (200 : Int32)) km_X11_isWithin lkM_X11_71 rfl hl.1 rfl (Nat.le_of_ble_eq_true rfl) ⟨Nat.le_of_ble_eq_true rfl, Nat.le_of_ble_eq_true rfl⟩ (g_r0 (by omega) (by omega)) dX11_child_13) V (fun r26 Zr26 hr26 H locs pr26 _ _ V => ?_)
    obtain ⟨rfl, rfl, fr26_0⟩ := pr26
    refine lv_if_eq (tgt := 34) hx hb dX11_child_16 (by decide) (fun c_16 => ?_) (fun c_16 => ?_)
    · skip
      have c_16 := pi_eq.mp c_16
      exact J_34 _ _ _ _ V I L (A.wk (by decide)) (lv_sub hl [0, 1, 2, 3] rfl) 
    · skip
      have c_16 := pi_ne c_16
      refine lv_iload_n hx hb dX11_child_19 rfl (lv_at hl 3 rfl) ?_
      refine lv_iconst (v := 1) hx hb dX11_child_20 (by decide) ?_
      refine lv_sipush (v := 200) hx hb dX11_child_21 (by decide) ?_
      refine pk_i (pr_S M V (m_X11_isWithin l (Z := Z) (h := _) height (1 : Int32) (200 : Int32)) km_X11_isWithin lkM_X11_71 rfl hl.1 rfl (Nat.le_of_ble_eq_true rfl) ⟨Nat.le_of_ble_eq_true rfl, Nat.le_of_ble_eq_true rfl⟩ (g_r0 (by omega) (by omega)) dX11_child_24) V (fun r27 Zr27 hr27 H locs pr27 _ _ V => ?_)
      obtain ⟨rfl, rfl, fr27_0⟩ := pr27
      refine lv_if_eq (tgt := 34) hx hb dX11_child_27 (by decide) (fun c_27 => ?_) (fun c_27 => ?_)
      · skip
        have c_27 := pi_eq.mp c_27
        exact J_34 _ _ _ _ V I L (A.wk (by decide)) (lv_sub hl [0, 1, 2, 3] rfl) 
      · skip
        have c_27 := pi_ne c_27
        refine lv_iconst (v := 1) hx hb dX11_child_30 (by decide) ?_
        refine lv_goto (tgt := 35) hx hb dX11_child_31 (by decide) ?_
        exact J_35 (1 : Int32) _ _ _ _ V I L (A.wk (by decide)) (lv_sub hl [0, 1, 2, 3] rfl) (by omega) 
