theorem dX11_drawGlyph_0 : decode cX11_drawGlyph 0 = .ok (.aload_n 0, 1) := by decide +kernel
theorem dX11_drawGlyph_1 : decode cX11_drawGlyph 1 = .ok (.getfield 64, 3) := by decide +kernel
theorem dX11_drawGlyph_4 : decode cX11_drawGlyph 4 = .ok (.getfield 299, 3) := by decide +kernel
theorem dX11_drawGlyph_7 : decode cX11_drawGlyph 7 = .ok (.iconst 2, 1) := by decide +kernel
theorem dX11_drawGlyph_8 : decode cX11_drawGlyph 8 = .ok (.iadd, 1) := by decide +kernel
theorem dX11_drawGlyph_9 : decode cX11_drawGlyph 9 = .ok (.bipush 6, 2) := by decide +kernel
theorem dX11_drawGlyph_11 : decode cX11_drawGlyph 11 = .ok (.iload_n 1, 1) := by decide +kernel
theorem dX11_drawGlyph_12 : decode cX11_drawGlyph 12 = .ok (.imul, 1) := by decide +kernel
theorem dX11_drawGlyph_13 : decode cX11_drawGlyph 13 = .ok (.iadd, 1) := by decide +kernel
theorem dX11_drawGlyph_14 : decode cX11_drawGlyph 14 = .ok (.istore_n 3, 1) := by decide +kernel
theorem dX11_drawGlyph_15 : decode cX11_drawGlyph 15 = .ok (.aload_n 0, 1) := by decide +kernel
theorem dX11_drawGlyph_16 : decode cX11_drawGlyph 16 = .ok (.getfield 64, 3) := by decide +kernel
theorem dX11_drawGlyph_19 : decode cX11_drawGlyph 19 = .ok (.getfield 302, 3) := by decide +kernel
theorem dX11_drawGlyph_22 : decode cX11_drawGlyph 22 = .ok (.iconst 2, 1) := by decide +kernel
theorem dX11_drawGlyph_23 : decode cX11_drawGlyph 23 = .ok (.iadd, 1) := by decide +kernel
theorem dX11_drawGlyph_24 : decode cX11_drawGlyph 24 = .ok (.istore 4, 2) := by decide +kernel
theorem dX11_drawGlyph_26 : decode cX11_drawGlyph 26 = .ok (.aload_n 0, 1) := by decide +kernel
theorem dX11_drawGlyph_27 : decode cX11_drawGlyph 27 = .ok (.getfield 68, 3) := by decide +kernel
theorem dX11_drawGlyph_30 : decode cX11_drawGlyph 30 = .ok (.iload_n 3, 1) := by decide +kernel
theorem dX11_drawGlyph_31 : decode cX11_drawGlyph 31 = .ok (.iload 4, 2) := by decide +kernel
theorem dX11_drawGlyph_33 : decode cX11_drawGlyph 33 = .ok (.iload_n 3, 1) := by decide +kernel
theorem dX11_drawGlyph_34 : decode cX11_drawGlyph 34 = .ok (.bipush 6, 2) := by decide +kernel
theorem dX11_drawGlyph_36 : decode cX11_drawGlyph 36 = .ok (.iadd, 1) := by decide +kernel
theorem dX11_drawGlyph_37 : decode cX11_drawGlyph 37 = .ok (.iload 4, 2) := by decide +kernel
theorem dX11_drawGlyph_39 : decode cX11_drawGlyph 39 = .ok (.bipush 8, 2) := by decide +kernel
theorem dX11_drawGlyph_41 : decode cX11_drawGlyph 41 = .ok (.iadd, 1) := by decide +kernel
theorem dX11_drawGlyph_42 : decode cX11_drawGlyph 42 = .ok (.invokevirtual 223, 3) := by decide +kernel
theorem dX11_drawGlyph_45 : decode cX11_drawGlyph 45 = .ok (.aload_n 0, 1) := by decide +kernel
theorem dX11_drawGlyph_46 : decode cX11_drawGlyph 46 = .ok (.getfield 54, 3) := by decide +kernel
theorem dX11_drawGlyph_49 : decode cX11_drawGlyph 49 = .ok (.aload_n 0, 1) := by decide +kernel
theorem dX11_drawGlyph_50 : decode cX11_drawGlyph 50 = .ok (.getfield 68, 3) := by decide +kernel
theorem dX11_drawGlyph_53 : decode cX11_drawGlyph 53 = .ok (.bipush 6, 2) := by decide +kernel
theorem dX11_drawGlyph_55 : decode cX11_drawGlyph 55 = .ok (.iload_n 2, 1) := by decide +kernel
theorem dX11_drawGlyph_56 : decode cX11_drawGlyph 56 = .ok (.aload_n 0, 1) := by decide +kernel
theorem dX11_drawGlyph_57 : decode cX11_drawGlyph 57 = .ok (.getfield 33, 3) := by decide +kernel
theorem dX11_drawGlyph_60 : decode cX11_drawGlyph 60 = .ok (.invokevirtual 185, 3) := by decide +kernel
theorem dX11_drawGlyph_63 : decode cX11_drawGlyph 63 = .ok (.getfield 312, 3) := by decide +kernel
theorem dX11_drawGlyph_66 : decode cX11_drawGlyph 66 = .ok (.invokevirtual 470, 3) := by decide +kernel
theorem dX11_drawGlyph_69 : decode cX11_drawGlyph 69 = .ok (.return_, 1) := by decide +kernel
set_option maxHeartbeats 4000000 in
set_option maxRecDepth 100000 in
theorem m_X11_drawGlyph (l : Launch) {Z : pZ} (S : pSh Z) {h : pH} (I : Iv Z h) (k : Int32) (texture : Int32) (K : pSk Z) (L : pLk Z h) (hq3 : (h 129 3).toInt ≤ 8990) : pMet l yX11_drawGlyph cX11_drawGlyph 5 none 5 (gmc Z) (gms Z) 119 Z h [.ref (zB Z + 0), .int k, .int texture] (gQv Z (fun Z1 h1 k n => pGr Z Z1 ∧ pSk Z1 ∧ Iv Z1 h1 ∧ agrD [(129, 2), (129, 3)] h h1 ∧ (k ≤ pPh Z1 - pPh Z ∧ n ≤ 2 * (pPh Z1 - pPh Z) ∧ pPh Z ≤ pPh Z1) ∧ pLk Z1 h1 ∧ ((h1 129 2).toInt ≤ (h 129 2).toInt + 1) ∧ ((h1 129 3).toInt ≤ (h 129 3).toInt + 1))) := by
  refine pOfW (lv := [(0, .ref (zB Z + 0)), (1, .int k), (2, .int texture)]) (by decide) (Nat.le_of_ble_eq_true rfl) rfl ?_
  intro p e s m below meth c ls M hr hlk hnm V hl
  have hx := M.1.1
  have hb := M.1.2.1
  have A : agrD [] h h := agrD.rf
  have hP0 : pPh Z ≤ pPh Z := Nat.le_refl _
  have hPm := K.ph
  have GR : pGr Z Z := pGr.rf
  refine W.widen (k := pPh Z - pPh Z) (n := 2 * (pPh Z - pPh Z)) (Nat.zero_le _) (Nat.zero_le _) ?_
  refine lv_aload_n hx hb dX11_drawGlyph_0 rfl (lv_at hl 0 rfl) ?_
  refine pg_r M V 11 8 (c_is_0 S) pC11 fk11_8 (c_r_0_8 S) lkF_X11_64 dX11_drawGlyph_1 ?_
  refine pg_i M V 2 0 (c_is_135 S) pC2 fk2_0 lkF_X11_299 dX11_drawGlyph_4 ?_
  refine lv_topi (fun v1 ev1 => ?_)
  refine lv_iconst (v := 2) hx hb dX11_drawGlyph_7 (by decide) ?_
  refine lv_iadd hx hb dX11_drawGlyph_8 ?_
  refine lv_topi (fun v2 ev2 => ?_)
  refine lv_bipush (v := 6) hx hb dX11_drawGlyph_9 (by decide) ?_
  refine lv_iload_n hx hb dX11_drawGlyph_11 rfl (lv_at hl 1 rfl) ?_
  refine lv_imul hx hb dX11_drawGlyph_12 ?_
  refine lv_topi (fun v3 ev3 => ?_)
  refine lv_iadd hx hb dX11_drawGlyph_13 ?_
  refine lv_topi (fun v4 ev4 => ?_)
  refine lv_istore_n (lv' := [(3, .int v4), (0, .ref (zB Z + 0)), (1, .int k), (2, .int texture)]) hx hb dX11_drawGlyph_14 rfl hl (by decide) rfl (fun ls hl => ?_)
  refine lv_aload_n hx hb dX11_drawGlyph_15 rfl (lv_at hl 1 rfl) ?_
  refine pg_r M V 11 8 (c_is_0 S) pC11 fk11_8 (c_r_0_8 S) lkF_X11_64 dX11_drawGlyph_16 ?_
  refine pg_i M V 2 1 (c_is_135 S) pC2 fk2_1 lkF_X11_302 dX11_drawGlyph_19 ?_
  refine lv_topi (fun v5 ev5 => ?_)
  refine lv_iconst (v := 2) hx hb dX11_drawGlyph_22 (by decide) ?_
  refine lv_iadd hx hb dX11_drawGlyph_23 ?_
  refine lv_topi (fun v6 ev6 => ?_)
  refine lv_istore (lv' := [(4, .int v6), (3, .int v4), (0, .ref (zB Z + 0)), (1, .int k), (2, .int texture)]) hx hb dX11_drawGlyph_24 hl (by decide) rfl (fun ls hl => ?_)
  refine lv_aload_n hx hb dX11_drawGlyph_26 rfl (lv_at hl 2 rfl) ?_
  refine pg_r M V 11 9 (c_is_0 S) pC11 fk11_9 (c_r_0_9 S) lkF_X11_68 dX11_drawGlyph_27 ?_
  refine lv_iload_n hx hb dX11_drawGlyph_30 rfl (lv_at hl 1 rfl) ?_
  refine lv_iload hx hb dX11_drawGlyph_31 (lv_at hl 0 rfl) ?_
  refine lv_iload_n hx hb dX11_drawGlyph_33 rfl (lv_at hl 1 rfl) ?_
  refine lv_bipush (v := 6) hx hb dX11_drawGlyph_34 (by decide) ?_
  refine lv_iadd hx hb dX11_drawGlyph_36 ?_
  refine lv_topi (fun v7 ev7 => ?_)
  refine lv_iload hx hb dX11_drawGlyph_37 (lv_at hl 0 rfl) ?_
  refine lv_bipush (v := 8) hx hb dX11_drawGlyph_39 (by decide) ?_
  refine lv_iadd hx hb dX11_drawGlyph_41 ?_
  refine lv_topi (fun v8 ev8 => ?_)
  refine pk_v (pr_V M V (m_X2_set l S I 136 (c_is_136 S) v4 v6 v7 v8 ) km_X2_set (c_is_136 S) pC2 lkM_X11_223 rfl hl.1 rfl (Nat.le_of_ble_eq_true rfl) ⟨Nat.le_of_ble_eq_true rfl, Nat.le_of_ble_eq_true rfl⟩ (g_r0 (by omega) (by omega)) dX11_drawGlyph_42) V (fun Zr9 hr9 H locs pr9 _ _ V => ?_)
  obtain ⟨rfl, I, pA_r9⟩ := pr9
  have A := A.tr pA_r9 (by decide)
  have L := L.congr (pA_r9.get 129 2 (by decide)) (pA_r9.get 129 3 (by decide))
  have w_r9_129_2 : (hr9 129 2).toInt = (h 129 2).toInt := congrArg Int32.toInt (pA_r9.get 129 2 (by decide))
  have w_r9_129_3 : (hr9 129 3).toInt = (h 129 3).toInt := congrArg Int32.toInt (pA_r9.get 129 3 (by decide))
  refine lv_aload_n hx hb dX11_drawGlyph_45 rfl (lv_at hl 2 rfl) ?_
  refine pg_r M V 11 6 (c_is_0 S) pC11 fk11_6 (c_r_0_6 S) lkF_X11_54 dX11_drawGlyph_46 ?_
  refine lv_aload_n hx hb dX11_drawGlyph_49 rfl (lv_at hl 2 rfl) ?_
  refine pg_r M V 11 9 (c_is_0 S) pC11 fk11_9 (c_r_0_9 S) lkF_X11_68 dX11_drawGlyph_50 ?_
  refine lv_bipush (v := 6) hx hb dX11_drawGlyph_53 (by decide) ?_
  refine lv_iload_n hx hb dX11_drawGlyph_55 rfl (lv_at hl 4 rfl) ?_
  refine lv_aload_n hx hb dX11_drawGlyph_56 rfl (lv_at hl 2 rfl) ?_
  refine pg_r M V 11 3 (c_is_0 S) pC11 fk11_3 (c_r_0_3 S) lkF_X11_33 dX11_drawGlyph_57 ?_
  refine pk_r (pr_V M V (m_X8_area l S I ) km_X8_area (c_is_36 S) pC8 lkM_X11_185 rfl hl.1 rfl (Nat.le_of_ble_eq_true rfl) ⟨Nat.le_of_ble_eq_true rfl, Nat.le_of_ble_eq_true rfl⟩ (g_r0 (by omega) (by omega)) dX11_drawGlyph_60) V (fun r10 Zr10 hr10 H locs pr10 _ _ V => ?_)
  obtain ⟨rfl, rfl, fr10_0⟩ := pr10
  refine pg_r M V 0 0 fr10_0.1 pC0 fk0_0 fr10_0.2.1 lkF_X11_312 dX11_drawGlyph_63 ?_
  refine gz_v Z rfl rfl (pr_V M V (m_X9_draw l S I 136 (c_is_136 S) (6 : Int32) texture (r10 + 1) fr10_0.2.2 K L (by omega)) km_X9_draw (c_is_129 S) pC9 lkM_X11_470 rfl hl.1 rfl (Nat.le_of_ble_eq_true rfl) ⟨Nat.le_of_ble_eq_true rfl, Nat.le_of_ble_eq_true rfl⟩ (g_rg (by omega) (by omega) hP0 hPm) dX11_drawGlyph_66) V (fun yr11 hr11 kr11 nr11 H locs pr11 V => ?_)
  obtain ⟨gr11, K, I, pA_r11, br11, L, fr11_0, fr11_1⟩ := pr11
  have A := A.wk (l3 := [(129, 2), (129, 3)]) (by decide)
  have A := A.tr pA_r11 (by decide)
  have S := S.gr (Z1 := (gW Z yr11)) rfl gr11
  have M := pM.to (gW Z yr11) rfl M
  have GR := GR.tr gr11
  have hP0 : pPh Z ≤ pPh (gW Z yr11) := by omega
  have hPm := K.ph
  refine W.widen (k := pPh (gW Z yr11) - pPh Z) (n := 2 * (pPh (gW Z yr11) - pPh Z)) (by omega) (by omega) ?_
  exact ge_v (Z := Z) (Z' := (gW Z yr11)) M V rfl rfl hr hlk ⟨GR, K, I, A.wk (by decide), ⟨by omega, by omega, hP0⟩, L, (show (hr11 129 2).toInt ≤ (h 129 2).toInt + 1 by omega), (show (hr11 129 3).toInt ≤ (h 129 3).toInt + 1 by omega)⟩ (g_re (by omega) (by omega) hPm) dX11_drawGlyph_69
theorem dX11_drawItem_0 : decode cX11_drawItem 0 = .ok (.aload_n 0, 1) := by decide +kernel
theorem dX11_drawItem_1 : decode cX11_drawItem 1 = .ok (.getfield 40, 3) := by decide +kernel
theorem dX11_drawItem_4 : decode cX11_drawItem 4 = .ok (.getfield 341, 3) := by decide +kernel
theorem dX11_drawItem_7 : decode cX11_drawItem 7 = .ok (.iload_n 1, 1) := by decide +kernel
theorem dX11_drawItem_8 : decode cX11_drawItem 8 = .ok (.if_icmp .ne 7, 3) := by decide +kernel
theorem dX11_drawItem_11 : decode cX11_drawItem 11 = .ok (.iconst 5, 1) := by decide +kernel
theorem dX11_drawItem_12 : decode cX11_drawItem 12 = .ok (.goto 19, 3) := by decide +kernel
theorem dX11_drawItem_15 : decode cX11_drawItem 15 = .ok (.aload_n 0, 1) := by decide +kernel
theorem dX11_drawItem_16 : decode cX11_drawItem 16 = .ok (.getfield 40, 3) := by decide +kernel
theorem dX11_drawItem_19 : decode cX11_drawItem 19 = .ok (.getfield 344, 3) := by decide +kernel
theorem dX11_drawItem_22 : decode cX11_drawItem 22 = .ok (.iload_n 1, 1) := by decide +kernel
theorem dX11_drawItem_23 : decode cX11_drawItem 23 = .ok (.if_icmp .ne 7, 3) := by decide +kernel
theorem dX11_drawItem_26 : decode cX11_drawItem 26 = .ok (.iconst 4, 1) := by decide +kernel
theorem dX11_drawItem_27 : decode cX11_drawItem 27 = .ok (.goto 4, 3) := by decide +kernel
theorem dX11_drawItem_30 : decode cX11_drawItem 30 = .ok (.iconst 3, 1) := by decide +kernel
theorem dX11_drawItem_31 : decode cX11_drawItem 31 = .ok (.istore_n 2, 1) := by decide +kernel
theorem dX11_drawItem_32 : decode cX11_drawItem 32 = .ok (.aload_n 0, 1) := by decide +kernel
theorem dX11_drawItem_33 : decode cX11_drawItem 33 = .ok (.getfield 54, 3) := by decide +kernel
theorem dX11_drawItem_36 : decode cX11_drawItem 36 = .ok (.aload_n 0, 1) := by decide +kernel
theorem dX11_drawItem_37 : decode cX11_drawItem 37 = .ok (.getfield 64, 3) := by decide +kernel
theorem dX11_drawItem_40 : decode cX11_drawItem 40 = .ok (.iload_n 2, 1) := by decide +kernel
theorem dX11_drawItem_41 : decode cX11_drawItem 41 = .ok (.iconst 0, 1) := by decide +kernel
theorem dX11_drawItem_42 : decode cX11_drawItem 42 = .ok (.aload_n 0, 1) := by decide +kernel
theorem dX11_drawItem_43 : decode cX11_drawItem 43 = .ok (.getfield 33, 3) := by decide +kernel
theorem dX11_drawItem_46 : decode cX11_drawItem 46 = .ok (.invokevirtual 185, 3) := by decide +kernel
theorem dX11_drawItem_49 : decode cX11_drawItem 49 = .ok (.getfield 312, 3) := by decide +kernel
theorem dX11_drawItem_52 : decode cX11_drawItem 52 = .ok (.invokevirtual 470, 3) := by decide +kernel
theorem dX11_drawItem_55 : decode cX11_drawItem 55 = .ok (.return_, 1) := by decide +kernel
set_option maxHeartbeats 4000000 in
set_option maxRecDepth 100000 in
theorem m_X11_drawItem (l : Launch) {Z : pZ} (S : pSh Z) {h : pH} (I : Iv Z h) (id : Int32) (K : pSk Z) (L : pLk Z h) (hq3 : (h 129 3).toInt ≤ 8990) : pMet l yX11_drawItem cX11_drawItem 3 none 5 (gmc Z) (gms Z) 119 Z h [.ref (zB Z + 0), .int id] (gQv Z (fun Z1 h1 k n => pGr Z Z1 ∧ pSk Z1 ∧ Iv Z1 h1 ∧ agrD [(129, 2), (129, 3)] h h1 ∧ (k ≤ pPh Z1 - pPh Z ∧ n ≤ 2 * (pPh Z1 - pPh Z) ∧ pPh Z ≤ pPh Z1) ∧ pLk Z1 h1 ∧ ((h1 129 2).toInt ≤ (h 129 2).toInt + 1) ∧ ((h1 129 3).toInt ≤ (h 129 3).toInt + 1))) := by
  refine pOfW (lv := [(0, .ref (zB Z + 0)), (1, .int id)]) (by decide) (Nat.le_of_ble_eq_true rfl) rfl ?_
  intro p e s m below meth c ls M hr hlk hnm V hl
  have hx := M.1.1
  have hb := M.1.2.1
  have A : agrD [] h h := agrD.rf
  have hP0 : pPh Z ≤ pPh Z := Nat.le_refl _
  have hPm := K.ph
  have GR : pGr Z Z := pGr.rf
  have J_31 : ∀ (y31_0 : Int32) (hJ : pH) (H : Heap) (locs : List Loc) (ls : Array Slot), pV Z hJ s.heap H locs → Iv Z hJ → pLk Z hJ → agrD [] h hJ → lv_has ls 3 [(0, .ref (zB Z + 0)), (1, .int id)] → (3 ≤ y31_0.toInt ∧ y31_0.toInt ≤ 5) → W p l e (pRm 5 (gmc Z) (gms Z) 119) s m ([.ref (zB Z + 0), .int id] : List Value).toArray below meth c H locs (pPh Z - pPh Z) (2 * (pPh Z - pPh Z)) (MQ below (gQv Z (fun Z1 h1 k n => pGr Z Z1 ∧ pSk Z1 ∧ Iv Z1 h1 ∧ agrD [(129, 2), (129, 3)] h h1 ∧ (k ≤ pPh Z1 - pPh Z ∧ n ≤ 2 * (pPh Z1 - pPh Z) ∧ pPh Z ≤ pPh Z1) ∧ pLk Z1 h1 ∧ ((h1 129 2).toInt ≤ (h 129 2).toInt + 1) ∧ ((h1 129 3).toInt ≤ (h 129 3).toInt + 1))) ([.ref (zB Z + 0), .int id] : List Value).toArray s (gmc Z) (gms Z) (pA (zB Z))) (F0 m 31 ls [.int y31_0]) := by
    intro y31_0 hJ H locs ls V I L A hl gs_31_0
    have wJ_129_2 : (hJ 129 2).toInt = (h 129 2).toInt := congrArg Int32.toInt (A.get 129 2 (by decide))
    have wJ_129_3 : (hJ 129 3).toInt = (h 129 3).toInt := congrArg Int32.toInt (A.get 129 3 (by decide))
    refine lv_istore_n (lv' := [(2, .int y31_0), (0, .ref (zB Z + 0)), (1, .int id)]) hx hb dX11_drawItem_31 rfl hl (by decide) rfl (fun ls hl => ?_)
    refine lv_aload_n hx hb dX11_drawItem_32 rfl (lv_at hl 1 rfl) ?_
    refine pg_r M V 11 6 (c_is_0 S) pC11 fk11_6 (c_r_0_6 S) lkF_X11_54 dX11_drawItem_33 ?_
    refine lv_aload_n hx hb dX11_drawItem_36 rfl (lv_at hl 1 rfl) ?_
    refine pg_r M V 11 8 (c_is_0 S) pC11 fk11_8 (c_r_0_8 S) lkF_X11_64 dX11_drawItem_37 ?_
    refine lv_iload_n hx hb dX11_drawItem_40 rfl (lv_at hl 0 rfl) ?_
    refine lv_iconst (v := 0) hx hb dX11_drawItem_41 (by decide) ?_
    refine lv_aload_n hx hb dX11_drawItem_42 rfl (lv_at hl 1 rfl) ?_
    refine pg_r M V 11 3 (c_is_0 S) pC11 fk11_3 (c_r_0_3 S) lkF_X11_33 dX11_drawItem_43 ?_
    refine pk_r (pr_V M V (m_X8_area l S I ) km_X8_area (c_is_36 S) pC8 lkM_X11_185 rfl hl.1 rfl (Nat.le_of_ble_eq_true rfl) ⟨Nat.le_of_ble_eq_true rfl, Nat.le_of_ble_eq_true rfl⟩ (g_r0 (by omega) (by omega)) dX11_drawItem_46) V (fun r1 Zr1 hr1 H locs pr1 _ _ V => ?_)
    obtain ⟨rfl, rfl, fr1_0⟩ := pr1
    refine pg_r M V 0 0 fr1_0.1 pC0 fk0_0 fr1_0.2.1 lkF_X11_312 dX11_drawItem_49 ?_
    refine gz_v Z rfl rfl (pr_V M V (m_X9_draw l S I 135 (c_is_135 S) y31_0 (0 : Int32) (r1 + 1) fr1_0.2.2 K L (by omega)) km_X9_draw (c_is_129 S) pC9 lkM_X11_470 rfl hl.1 rfl (Nat.le_of_ble_eq_true rfl) ⟨Nat.le_of_ble_eq_true rfl, Nat.le_of_ble_eq_true rfl⟩ (g_rg (by omega) (by omega) hP0 hPm) dX11_drawItem_52) V (fun yr2 hr2 kr2 nr2 H locs pr2 V => ?_)
    obtain ⟨gr2, K, I, pA_r2, br2, L, fr2_0, fr2_1⟩ := pr2
    have A := A.wk (l3 := [(129, 2), (129, 3)]) (by decide)
    have A := A.tr pA_r2 (by decide)
    have S := S.gr (Z1 := (gW Z yr2)) rfl gr2
    have M := pM.to (gW Z yr2) rfl M
    have GR := GR.tr gr2
    have hP0 : pPh Z ≤ pPh (gW Z yr2) := by omega
    have hPm := K.ph
    refine W.widen (k := pPh (gW Z yr2) - pPh Z) (n := 2 * (pPh (gW Z yr2) - pPh Z)) (by omega) (by omega) ?_
    exact ge_v (Z := Z) (Z' := (gW Z yr2)) M V rfl rfl hr hlk ⟨GR, K, I, A.wk (by decide), ⟨by omega, by omega, hP0⟩, L, (show (hr2 129 2).toInt ≤ (h 129 2).toInt + 1 by omega), (show (hr2 129 3).toInt ≤ (h 129 3).toInt + 1 by omega)⟩ (g_re (by omega) (by omega) hPm) dX11_drawItem_55
  refine W.widen (k := pPh Z - pPh Z) (n := 2 * (pPh Z - pPh Z)) (Nat.zero_le _) (Nat.zero_le _) ?_
  refine lv_aload_n hx hb dX11_drawItem_0 rfl (lv_at hl 0 rfl) ?_
  refine pg_r M V 11 4 (c_is_0 S) pC11 fk11_4 (c_r_0_4 S) lkF_X11_40 dX11_drawItem_1 ?_
  refine pg_i M V 1 0 (c_is_122 S) pC1 fk1_0 lkF_X11_341 dX11_drawItem_4 ?_
  refine lv_topi (fun v3 ev3 => ?_)
  refine lv_iload_n hx hb dX11_drawItem_7 rfl (lv_at hl 1 rfl) ?_
  refine lv_icmp_ne (tgt := 15) hx hb dX11_drawItem_8 (by decide) (fun c_8 => ?_) (fun c_8 => ?_)
  · skip
    have c_8 := pi_ne c_8
    refine lv_aload_n hx hb dX11_drawItem_15 rfl (lv_at hl 0 rfl) ?_
    refine pg_r M V 11 4 (c_is_0 S) pC11 fk11_4 (c_r_0_4 S) lkF_X11_40 dX11_drawItem_16 ?_
    refine pg_i M V 1 1 (c_is_122 S) pC1 fk1_1 lkF_X11_344 dX11_drawItem_19 ?_
    refine lv_topi (fun v4 ev4 => ?_)
    refine lv_iload_n hx hb dX11_drawItem_22 rfl (lv_at hl 1 rfl) ?_
    refine lv_icmp_ne (tgt := 30) hx hb dX11_drawItem_23 (by decide) (fun c_23 => ?_) (fun c_23 => ?_)
    · skip
      have c_23 := pi_ne c_23
      refine lv_iconst (v := 3) hx hb dX11_drawItem_30 (by decide) ?_
      have k_3 : (3 : Int32).toInt = 3 := rfl
      exact J_31 (3 : Int32) _ _ _ _ V I L (A.wk (by decide)) (lv_sub hl [0, 1] rfl) (by omega) 
    · skip
      have c_23 := pi_eq.mp c_23
      refine lv_iconst (v := 4) hx hb dX11_drawItem_26 (by decide) ?_
      refine lv_goto (tgt := 31) hx hb dX11_drawItem_27 (by decide) ?_
      have k_4 : (4 : Int32).toInt = 4 := rfl
      exact J_31 (4 : Int32) _ _ _ _ V I L (A.wk (by decide)) (lv_sub hl [0, 1] rfl) (by omega) 
  · skip
    have c_8 := pi_eq.mp c_8
    refine lv_iconst (v := 5) hx hb dX11_drawItem_11 (by decide) ?_
    refine lv_goto (tgt := 31) hx hb dX11_drawItem_12 (by decide) ?_
    have k_5 : (5 : Int32).toInt = 5 := rfl
    exact J_31 (5 : Int32) _ _ _ _ V I L (A.wk (by decide)) (lv_sub hl [0, 1] rfl) (by omega) 
theorem dX11_drawLabel_0 : decode cX11_drawLabel 0 = .ok (.iconst 0, 1) := by decide +kernel
theorem dX11_drawLabel_1 : decode cX11_drawLabel 1 = .ok (.istore_n 2, 1) := by decide +kernel
theorem dX11_drawLabel_2 : decode cX11_drawLabel 2 = .ok (.iload_n 1, 1) := by decide +kernel
theorem dX11_drawLabel_3 : decode cX11_drawLabel 3 = .ok (.bipush 100, 2) := by decide +kernel
theorem dX11_drawLabel_5 : decode cX11_drawLabel 5 = .ok (.if_icmp .lt 17, 3) := by decide +kernel
theorem dX11_drawLabel_8 : decode cX11_drawLabel 8 = .ok (.aload_n 0, 1) := by decide +kernel
theorem dX11_drawLabel_9 : decode cX11_drawLabel 9 = .ok (.iload_n 2, 1) := by decide +kernel
theorem dX11_drawLabel_10 : decode cX11_drawLabel 10 = .ok (.iconst 1, 1) := by decide +kernel
theorem dX11_drawLabel_11 : decode cX11_drawLabel 11 = .ok (.iload_n 1, 1) := by decide +kernel
theorem dX11_drawLabel_12 : decode cX11_drawLabel 12 = .ok (.bipush 100, 2) := by decide +kernel
theorem dX11_drawLabel_14 : decode cX11_drawLabel 14 = .ok (.idiv, 1) := by decide +kernel
theorem dX11_drawLabel_15 : decode cX11_drawLabel 15 = .ok (.iadd, 1) := by decide +kernel
theorem dX11_drawLabel_16 : decode cX11_drawLabel 16 = .ok (.invokevirtual 273, 3) := by decide +kernel
theorem dX11_drawLabel_19 : decode cX11_drawLabel 19 = .ok (.iinc 2 1, 3) := by decide +kernel
theorem dX11_drawLabel_22 : decode cX11_drawLabel 22 = .ok (.iload_n 1, 1) := by decide +kernel
theorem dX11_drawLabel_23 : decode cX11_drawLabel 23 = .ok (.bipush 10, 2) := by decide +kernel
theorem dX11_drawLabel_25 : decode cX11_drawLabel 25 = .ok (.if_icmp .lt 20, 3) := by decide +kernel
theorem dX11_drawLabel_28 : decode cX11_drawLabel 28 = .ok (.aload_n 0, 1) := by decide +kernel
theorem dX11_drawLabel_29 : decode cX11_drawLabel 29 = .ok (.iload_n 2, 1) := by decide +kernel
theorem dX11_drawLabel_30 : decode cX11_drawLabel 30 = .ok (.iconst 1, 1) := by decide +kernel
theorem dX11_drawLabel_31 : decode cX11_drawLabel 31 = .ok (.iload_n 1, 1) := by decide +kernel
theorem dX11_drawLabel_32 : decode cX11_drawLabel 32 = .ok (.bipush 10, 2) := by decide +kernel
theorem dX11_drawLabel_34 : decode cX11_drawLabel 34 = .ok (.idiv, 1) := by decide +kernel
theorem dX11_drawLabel_35 : decode cX11_drawLabel 35 = .ok (.bipush 10, 2) := by decide +kernel
theorem dX11_drawLabel_37 : decode cX11_drawLabel 37 = .ok (.irem, 1) := by decide +kernel
theorem dX11_drawLabel_38 : decode cX11_drawLabel 38 = .ok (.iadd, 1) := by decide +kernel
theorem dX11_drawLabel_39 : decode cX11_drawLabel 39 = .ok (.invokevirtual 273, 3) := by decide +kernel
theorem dX11_drawLabel_42 : decode cX11_drawLabel 42 = .ok (.iinc 2 1, 3) := by decide +kernel
theorem dX11_drawLabel_45 : decode cX11_drawLabel 45 = .ok (.aload_n 0, 1) := by decide +kernel
theorem dX11_drawLabel_46 : decode cX11_drawLabel 46 = .ok (.iload_n 2, 1) := by decide +kernel
theorem dX11_drawLabel_47 : decode cX11_drawLabel 47 = .ok (.iconst 1, 1) := by decide +kernel
theorem dX11_drawLabel_48 : decode cX11_drawLabel 48 = .ok (.iload_n 1, 1) := by decide +kernel
theorem dX11_drawLabel_49 : decode cX11_drawLabel 49 = .ok (.bipush 10, 2) := by decide +kernel
theorem dX11_drawLabel_51 : decode cX11_drawLabel 51 = .ok (.irem, 1) := by decide +kernel
theorem dX11_drawLabel_52 : decode cX11_drawLabel 52 = .ok (.iadd, 1) := by decide +kernel
theorem dX11_drawLabel_53 : decode cX11_drawLabel 53 = .ok (.invokevirtual 273, 3) := by decide +kernel
theorem dX11_drawLabel_56 : decode cX11_drawLabel 56 = .ok (.return_, 1) := by decide +kernel
set_option maxHeartbeats 4000000 in
set_option maxRecDepth 100000 in
theorem m_X11_drawLabel (l : Launch) {Z : pZ} (S : pSh Z) {h : pH} (I : Iv Z h) (label : Int32) (K : pSk Z) (L : pLk Z h) (hq3 : (h 129 3).toInt ≤ 8980) : pMet l yX11_drawLabel cX11_drawLabel 3 none 6 (gmc Z) (gms Z) 143 Z h [.ref (zB Z + 0), .int label] (gQv Z (fun Z1 h1 k n => pGr Z Z1 ∧ pSk Z1 ∧ Iv Z1 h1 ∧ agrD [(129, 2), (129, 3)] h h1 ∧ (k ≤ pPh Z1 - pPh Z ∧ n ≤ 2 * (pPh Z1 - pPh Z) ∧ pPh Z ≤ pPh Z1) ∧ pLk Z1 h1 ∧ ((h1 129 2).toInt ≤ (h 129 2).toInt + 3) ∧ ((h1 129 3).toInt ≤ (h 129 3).toInt + 3))) := by
  refine pOfW (lv := [(0, .ref (zB Z + 0)), (1, .int label)]) (by decide) (Nat.le_of_ble_eq_true rfl) rfl ?_
  intro p e s m below meth c ls M hr hlk hnm V hl
  have hx := M.1.1
  have hb := M.1.2.1
  have A : agrD [] h h := agrD.rf
  have hP0 : pPh Z ≤ pPh Z := Nat.le_refl _
  have hPm := K.ph
  have GR : pGr Z Z := pGr.rf
  refine W.widen (k := pPh Z - pPh Z) (n := 2 * (pPh Z - pPh Z)) (Nat.zero_le _) (Nat.zero_le _) ?_
  refine lv_iconst (v := 0) hx hb dX11_drawLabel_0 (by decide) ?_
  refine lv_istore_n (lv' := [(2, .int (0 : Int32)), (0, .ref (zB Z + 0)), (1, .int label)]) hx hb dX11_drawLabel_1 rfl hl (by decide) rfl (fun ls hl => ?_)
  refine lv_iload_n hx hb dX11_drawLabel_2 rfl (lv_at hl 2 rfl) ?_
  refine lv_bipush (v := 100) hx hb dX11_drawLabel_3 (by decide) ?_
  refine lv_icmp_lt (tgt := 22) hx hb dX11_drawLabel_5 (by decide) (fun c_5 => ?_) (fun c_5 => ?_)
  · skip
    have k_100 : (100 : Int32).toInt = 100 := rfl
    have c_5 := pi_lt.mp c_5
    refine lv_iload_n hx hb dX11_drawLabel_22 rfl (lv_at hl 2 rfl) ?_
    refine lv_bipush (v := 10) hx hb dX11_drawLabel_23 (by decide) ?_
    refine lv_icmp_lt (tgt := 45) hx hb dX11_drawLabel_25 (by decide) (fun c_25 => ?_) (fun c_25 => ?_)
    · skip
      have k_10 : (10 : Int32).toInt = 10 := rfl
      have c_25 := pi_lt.mp c_25
      refine lv_aload_n hx hb dX11_drawLabel_45 rfl (lv_at hl 1 rfl) ?_
      refine lv_iload_n hx hb dX11_drawLabel_46 rfl (lv_at hl 0 rfl) ?_
      refine lv_iconst (v := 1) hx hb dX11_drawLabel_47 (by decide) ?_
      refine lv_iload_n hx hb dX11_drawLabel_48 rfl (lv_at hl 2 rfl) ?_
      refine lv_bipush (v := 10) hx hb dX11_drawLabel_49 (by decide) ?_
      have k_0 : (0 : Int32).toInt = 0 := rfl
      refine lv_irem hx hb dX11_drawLabel_51 (by decide) ?_
      refine lv_topi (fun v1 ev1 => ?_)
      refine lv_iadd hx hb dX11_drawLabel_52 ?_
      refine lv_topi (fun v2 ev2 => ?_)
      refine gz_v Z rfl rfl (pr_V M V (m_X11_drawGlyph l S I (0 : Int32) v2 K L (by omega)) km_X11_drawGlyph (c_is_0 S) pC11 lkM_X11_273 rfl hl.1 rfl (Nat.le_of_ble_eq_true rfl) ⟨Nat.le_of_ble_eq_true rfl, Nat.le_of_ble_eq_true rfl⟩ (g_rg (by omega) (by omega) hP0 hPm) dX11_drawLabel_53) V (fun yr3 hr3 kr3 nr3 H locs pr3 V => ?_)
      obtain ⟨gr3, K, I, pA_r3, br3, L, fr3_0, fr3_1⟩ := pr3
      have A := A.wk (l3 := [(129, 2), (129, 3)]) (by decide)
      have A := A.tr pA_r3 (by decide)
      have S := S.gr (Z1 := (gW Z yr3)) rfl gr3
      have M := pM.to (gW Z yr3) rfl M
      have GR := GR.tr gr3
      have hP0 : pPh Z ≤ pPh (gW Z yr3) := by omega
      have hPm := K.ph
      refine W.widen (k := pPh (gW Z yr3) - pPh Z) (n := 2 * (pPh (gW Z yr3) - pPh Z)) (by omega) (by omega) ?_
      exact ge_v (Z := Z) (Z' := (gW Z yr3)) M V rfl rfl hr hlk ⟨GR, K, I, A.wk (by decide), ⟨by omega, by omega, hP0⟩, L, (show (hr3 129 2).toInt ≤ (h 129 2).toInt + 3 by omega), (show (hr3 129 3).toInt ≤ (h 129 3).toInt + 3 by omega)⟩ (g_re (by omega) (by omega) hPm) dX11_drawLabel_56
    · skip
      have k_10 : (10 : Int32).toInt = 10 := rfl
      have c_25 := pi_lt' c_25
      refine lv_aload_n hx hb dX11_drawLabel_28 rfl (lv_at hl 1 rfl) ?_
      refine lv_iload_n hx hb dX11_drawLabel_29 rfl (lv_at hl 0 rfl) ?_
      refine lv_iconst (v := 1) hx hb dX11_drawLabel_30 (by decide) ?_
      refine lv_iload_n hx hb dX11_drawLabel_31 rfl (lv_at hl 2 rfl) ?_
      refine lv_bipush (v := 10) hx hb dX11_drawLabel_32 (by decide) ?_
      have k_0 : (0 : Int32).toInt = 0 := rfl
      refine lv_idiv hx hb dX11_drawLabel_34 (by decide) ?_
      refine lv_topi (fun v4 ev4 => ?_)
      refine lv_bipush (v := 10) hx hb dX11_drawLabel_35 (by decide) ?_
      refine lv_irem hx hb dX11_drawLabel_37 (by decide) ?_
      refine lv_topi (fun v5 ev5 => ?_)
      refine lv_iadd hx hb dX11_drawLabel_38 ?_
      refine lv_topi (fun v6 ev6 => ?_)
      refine gz_v Z rfl rfl (pr_V M V (m_X11_drawGlyph l S I (0 : Int32) v6 K L (by omega)) km_X11_drawGlyph (c_is_0 S) pC11 lkM_X11_273 rfl hl.1 rfl (Nat.le_of_ble_eq_true rfl) ⟨Nat.le_of_ble_eq_true rfl, Nat.le_of_ble_eq_true rfl⟩ (g_rg (by omega) (by omega) hP0 hPm) dX11_drawLabel_39) V (fun yr7 hr7 kr7 nr7 H locs pr7 V => ?_)
      obtain ⟨gr7, K, I, pA_r7, br7, L, fr7_0, fr7_1⟩ := pr7
      have A := A.wk (l3 := [(129, 2), (129, 3)]) (by decide)
      have A := A.tr pA_r7 (by decide)
      have S := S.gr (Z1 := (gW Z yr7)) rfl gr7
      have M := pM.to (gW Z yr7) rfl M
      have GR := GR.tr gr7
      have hP0 : pPh Z ≤ pPh (gW Z yr7) := by omega
      have hPm := K.ph
      refine W.widen (k := pPh (gW Z yr7) - pPh Z) (n := 2 * (pPh (gW Z yr7) - pPh Z)) (by omega) (by omega) ?_
      obtain ⟨v8, ev8⟩ : ∃ y : Int32, y = (0 : Int32) + 1 := ⟨_, rfl⟩
      refine lv_iinc (v := v8) (lv' := [(2, .int v8), (0, .ref (zB Z + 0)), (1, .int label)]) hx hb dX11_drawLabel_42 hl (k := 0) rfl (by rw [ev8]; rfl) (by decide) rfl (fun ls hl => ?_)
      refine lv_aload_n hx hb dX11_drawLabel_45 rfl (lv_at hl 1 rfl) ?_
      refine lv_iload_n hx hb dX11_drawLabel_46 rfl (lv_at hl 0 rfl) ?_
      refine lv_iconst (v := 1) hx hb dX11_drawLabel_47 (by decide) ?_
      refine lv_iload_n hx hb dX11_drawLabel_48 rfl (lv_at hl 2 rfl) ?_
      refine lv_bipush (v := 10) hx hb dX11_drawLabel_49 (by decide) ?_
      refine lv_irem hx hb dX11_drawLabel_51 (by decide) ?_
      refine lv_topi (fun v9 ev9 => ?_)
      refine lv_iadd hx hb dX11_drawLabel_52 ?_
      refine lv_topi (fun v10 ev10 => ?_)
      refine gz_v (Z := (gW Z yr7)) Z rfl rfl (pr_V (Z := (gW Z yr7)) M V (m_X11_drawGlyph l S I v8 v10 K L (by omega)) km_X11_drawGlyph (c_is_0 S) pC11 lkM_X11_273 rfl hl.1 rfl (Nat.le_of_ble_eq_true rfl) ⟨Nat.le_of_ble_eq_true rfl, Nat.le_of_ble_eq_true rfl⟩ (g_rg (by omega) (by omega) hP0 hPm) dX11_drawLabel_53) V (fun yr11 hr11 kr11 nr11 H locs pr11 V => ?_)
      obtain ⟨gr11, K, I, pA_r11, br11, L, fr11_0, fr11_1⟩ := pr11
      have A := A.tr pA_r11 (by decide)
      have S := S.gr (Z1 := (gW Z yr11)) rfl gr11
      have M := pM.to (gW Z yr11) rfl M
      have GR := GR.tr gr11
      have hP0 : pPh Z ≤ pPh (gW Z yr11) := by omega
      have hPm := K.ph
      refine W.widen (k := pPh (gW Z yr11) - pPh Z) (n := 2 * (pPh (gW Z yr11) - pPh Z)) (by omega) (by omega) ?_
      exact ge_v (Z := Z) (Z' := (gW Z yr11)) M V rfl rfl hr hlk ⟨GR, K, I, A.wk (by decide), ⟨by omega, by omega, hP0⟩, L, (show (hr11 129 2).toInt ≤ (h 129 2).toInt + 3 by omega), (show (hr11 129 3).toInt ≤ (h 129 3).toInt + 3 by omega)⟩ (g_re (by omega) (by omega) hPm) dX11_drawLabel_56
  · skip
    have k_100 : (100 : Int32).toInt = 100 := rfl
    have c_5 := pi_lt' c_5
    refine lv_aload_n hx hb dX11_drawLabel_8 rfl (lv_at hl 1 rfl) ?_
    refine lv_iload_n hx hb dX11_drawLabel_9 rfl (lv_at hl 0 rfl) ?_
    refine lv_iconst (v := 1) hx hb dX11_drawLabel_10 (by decide) ?_
    refine lv_iload_n hx hb dX11_drawLabel_11 rfl (lv_at hl 2 rfl) ?_
    refine lv_bipush (v := 100) hx hb dX11_drawLabel_12 (by decide) ?_
    have k_0 : (0 : Int32).toInt = 0 := rfl
    refine lv_idiv hx hb dX11_drawLabel_14 (by decide) ?_
    refine lv_topi (fun v12 ev12 => ?_)
    refine lv_iadd hx hb dX11_drawLabel_15 ?_
    refine lv_topi (fun v13 ev13 => ?_)
    refine gz_v Z rfl rfl (pr_V M V (m_X11_drawGlyph l S I (0 : Int32) v13 K L (by omega)) km_X11_drawGlyph (c_is_0 S) pC11 lkM_X11_273 rfl hl.1 rfl (Nat.le_of_ble_eq_true rfl) ⟨Nat.le_of_ble_eq_true rfl, Nat.le_of_ble_eq_true rfl⟩ (g_rg (by omega) (by omega) hP0 hPm) dX11_drawLabel_16) V (fun yr14 hr14 kr14 nr14 H locs pr14 V => ?_)
    obtain ⟨gr14, K, I, pA_r14, br14, L, fr14_0, fr14_1⟩ := pr14
    have A := A.wk (l3 := [(129, 2), (129, 3)]) (by decide)
    have A := A.tr pA_r14 (by decide)
    have S := S.gr (Z1 := (gW Z yr14)) rfl gr14
    have M := pM.to (gW Z yr14) rfl M
    have GR := GR.tr gr14
    have hP0 : pPh Z ≤ pPh (gW Z yr14) := by omega
    have hPm := K.ph
    refine W.widen (k := pPh (gW Z yr14) - pPh Z) (n := 2 * (pPh (gW Z yr14) - pPh Z)) (by omega) (by omega) ?_
    obtain ⟨v15, ev15⟩ : ∃ y : Int32, y = (0 : Int32) + 1 := ⟨_, rfl⟩
    refine lv_iinc (v := v15) (lv' := [(2, .int v15), (0, .ref (zB Z + 0)), (1, .int label)]) hx hb dX11_drawLabel_19 hl (k := 0) rfl (by rw [ev15]; rfl) (by decide) rfl (fun ls hl => ?_)
    refine lv_iload_n hx hb dX11_drawLabel_22 rfl (lv_at hl 2 rfl) ?_
    refine lv_bipush (v := 10) hx hb dX11_drawLabel_23 (by decide) ?_
    refine lv_icmp_lt (tgt := 45) hx hb dX11_drawLabel_25 (by decide) (fun c_25 => ?_) (fun c_25 => ?_)
    · skip
      have k_10 : (10 : Int32).toInt = 10 := rfl
      have c_25 := pi_lt.mp c_25
      refine lv_aload_n hx hb dX11_drawLabel_45 rfl (lv_at hl 1 rfl) ?_
      refine lv_iload_n hx hb dX11_drawLabel_46 rfl (lv_at hl 0 rfl) ?_
      refine lv_iconst (v := 1) hx hb dX11_drawLabel_47 (by decide) ?_
      refine lv_iload_n hx hb dX11_drawLabel_48 rfl (lv_at hl 2 rfl) ?_
      refine lv_bipush (v := 10) hx hb dX11_drawLabel_49 (by decide) ?_
      refine lv_irem hx hb dX11_drawLabel_51 (by decide) ?_
      refine lv_topi (fun v16 ev16 => ?_)
      refine lv_iadd hx hb dX11_drawLabel_52 ?_
      refine lv_topi (fun v17 ev17 => ?_)
      refine gz_v (Z := (gW Z yr14)) Z rfl rfl (pr_V (Z := (gW Z yr14)) M V (m_X11_drawGlyph l S I v15 v17 K L (by omega)) km_X11_drawGlyph (c_is_0 S) pC11 lkM_X11_273 rfl hl.1 rfl (Nat.le_of_ble_eq_true rfl) ⟨Nat.le_of_ble_eq_true rfl, Nat.le_of_ble_eq_true rfl⟩ (g_rg (by omega) (by omega) hP0 hPm) dX11_drawLabel_53) V (fun yr18 hr18 kr18 nr18 H locs pr18 V => ?_)
      obtain ⟨gr18, K, I, pA_r18, br18, L, fr18_0, fr18_1⟩ := pr18
      have A := A.tr pA_r18 (by decide)
      have S := S.gr (Z1 := (gW Z yr18)) rfl gr18
      have M := pM.to (gW Z yr18) rfl M
      have GR := GR.tr gr18
      have hP0 : pPh Z ≤ pPh (gW Z yr18) := by omega
      have hPm := K.ph
      refine W.widen (k := pPh (gW Z yr18) - pPh Z) (n := 2 * (pPh (gW Z yr18) - pPh Z)) (by omega) (by omega) ?_
      exact ge_v (Z := Z) (Z' := (gW Z yr18)) M V rfl rfl hr hlk ⟨GR, K, I, A.wk (by decide), ⟨by omega, by omega, hP0⟩, L, (show (hr18 129 2).toInt ≤ (h 129 2).toInt + 3 by omega), (show (hr18 129 3).toInt ≤ (h 129 3).toInt + 3 by omega)⟩ (g_re (by omega) (by omega) hPm) dX11_drawLabel_56
    · skip
      have k_10 : (10 : Int32).toInt = 10 := rfl
      have c_25 := pi_lt' c_25
      refine lv_aload_n hx hb dX11_drawLabel_28 rfl (lv_at hl 1 rfl) ?_
      refine lv_iload_n hx hb dX11_drawLabel_29 rfl (lv_at hl 0 rfl) ?_
      refine lv_iconst (v := 1) hx hb dX11_drawLabel_30 (by decide) ?_
      refine lv_iload_n hx hb dX11_drawLabel_31 rfl (lv_at hl 2 rfl) ?_
      refine lv_bipush (v := 10) hx hb dX11_drawLabel_32 (by decide) ?_
      refine lv_idiv hx hb dX11_drawLabel_34 (by decide) ?_
      refine lv_topi (fun v19 ev19 => ?_)
      refine lv_bipush (v := 10) hx hb dX11_drawLabel_35 (by decide) ?_
      refine lv_irem hx hb dX11_drawLabel_37 (by decide) ?_
      refine lv_topi (fun v20 ev20 => ?_)
      refine lv_iadd hx hb dX11_drawLabel_38 ?_
      refine lv_topi (fun v21 ev21 => ?_)
      refine gz_v (Z := (gW Z yr14)) Z rfl rfl (pr_V (Z := (gW Z yr14)) M V (m_X11_drawGlyph l S I v15 v21 K L (by omega)) km_X11_drawGlyph (c_is_0 S) pC11 lkM_X11_273 rfl hl.1 rfl (Nat.le_of_ble_eq_true rfl) ⟨Nat.le_of_ble_eq_true rfl, Nat.le_of_ble_eq_true rfl⟩ (g_rg (by omega) (by omega) hP0 hPm) dX11_drawLabel_39) V (fun yr22 hr22 kr22 nr22 H locs pr22 V => ?_)
      obtain ⟨gr22, K, I, pA_r22, br22, L, fr22_0, fr22_1⟩ := pr22
      have A := A.tr pA_r22 (by decide)
      have S := S.gr (Z1 := (gW Z yr22)) rfl gr22
      have M := pM.to (gW Z yr22) rfl M
      have GR := GR.tr gr22
      have hP0 : pPh Z ≤ pPh (gW Z yr22) := by omega
      have hPm := K.ph
      refine W.widen (k := pPh (gW Z yr22) - pPh Z) (n := 2 * (pPh (gW Z yr22) - pPh Z)) (by omega) (by omega) ?_
      obtain ⟨v23, ev23⟩ : ∃ y : Int32, y = v15 + 1 := ⟨_, rfl⟩
      refine lv_iinc (v := v23) (lv' := [(2, .int v23), (0, .ref (zB Z + 0)), (1, .int label)]) hx hb dX11_drawLabel_42 hl (k := 0) rfl (by rw [ev23]; rfl) (by decide) rfl (fun ls hl => ?_)
      refine lv_aload_n hx hb dX11_drawLabel_45 rfl (lv_at hl 1 rfl) ?_
      refine lv_iload_n hx hb dX11_drawLabel_46 rfl (lv_at hl 0 rfl) ?_
      refine lv_iconst (v := 1) hx hb dX11_drawLabel_47 (by decide) ?_
      refine lv_iload_n hx hb dX11_drawLabel_48 rfl (lv_at hl 2 rfl) ?_
      refine lv_bipush (v := 10) hx hb dX11_drawLabel_49 (by decide) ?_
      refine lv_irem hx hb dX11_drawLabel_51 (by decide) ?_
      refine lv_topi (fun v24 ev24 => ?_)
      refine lv_iadd hx hb dX11_drawLabel_52 ?_
      refine lv_topi (fun v25 ev25 => ?_)
      refine gz_v (Z := (gW Z yr22)) Z rfl rfl (pr_V (Z := (gW Z yr22)) M V (m_X11_drawGlyph l S I v23 v25 K L (by omega)) km_X11_drawGlyph (c_is_0 S) pC11 lkM_X11_273 rfl hl.1 rfl (Nat.le_of_ble_eq_true rfl) ⟨Nat.le_of_ble_eq_true rfl, Nat.le_of_ble_eq_true rfl⟩ (g_rg (by omega) (by omega) hP0 hPm) dX11_drawLabel_53) V (fun yr26 hr26 kr26 nr26 H locs pr26 V => ?_)
      obtain ⟨gr26, K, I, pA_r26, br26, L, fr26_0, fr26_1⟩ := pr26
      have A := A.tr pA_r26 (by decide)
      have S := S.gr (Z1 := (gW Z yr26)) rfl gr26
      have M := pM.to (gW Z yr26) rfl M
      have GR := GR.tr gr26
      have hP0 : pPh Z ≤ pPh (gW Z yr26) := by omega
      have hPm := K.ph
      refine W.widen (k := pPh (gW Z yr26) - pPh Z) (n := 2 * (pPh (gW Z yr26) - pPh Z)) (by omega) (by omega) ?_
      exact ge_v (Z := Z) (Z' := (gW Z yr26)) M V rfl rfl hr hlk ⟨GR, K, I, A.wk (by decide), ⟨by omega, by omega, hP0⟩, L, (show (hr26 129 2).toInt ≤ (h 129 2).toInt + 3 by omega), (show (hr26 129 3).toInt ≤ (h 129 3).toInt + 3 by omega)⟩ (g_re (by omega) (by omega) hPm) dX11_drawLabel_56
theorem dX11_drawPane_0 : decode cX11_drawPane 0 = .ok (.aload_n 0, 1) := by decide +kernel
theorem dX11_drawPane_1 : decode cX11_drawPane 1 = .ok (.getfield 54, 3) := by decide +kernel
theorem dX11_drawPane_4 : decode cX11_drawPane 4 = .ok (.invokevirtual 452, 3) := by decide +kernel
theorem dX11_drawPane_7 : decode cX11_drawPane 7 = .ok (.aload_n 1, 1) := by decide +kernel
theorem dX11_drawPane_8 : decode cX11_drawPane 8 = .ok (.aload_n 0, 1) := by decide +kernel
theorem dX11_drawPane_9 : decode cX11_drawPane 9 = .ok (.getfield 54, 3) := by decide +kernel
theorem dX11_drawPane_12 : decode cX11_drawPane 12 = .ok (.getfield 374, 3) := by decide +kernel
theorem dX11_drawPane_15 : decode cX11_drawPane 15 = .ok (.putfield 455, 3) := by decide +kernel
theorem dX11_drawPane_18 : decode cX11_drawPane 18 = .ok (.aload_n 1, 1) := by decide +kernel
theorem dX11_drawPane_19 : decode cX11_drawPane 19 = .ok (.aload_n 0, 1) := by decide +kernel
theorem dX11_drawPane_20 : decode cX11_drawPane 20 = .ok (.getfield 54, 3) := by decide +kernel
theorem dX11_drawPane_23 : decode cX11_drawPane 23 = .ok (.getfield 139, 3) := by decide +kernel
theorem dX11_drawPane_26 : decode cX11_drawPane 26 = .ok (.putfield 458, 3) := by decide +kernel
theorem dX11_drawPane_29 : decode cX11_drawPane 29 = .ok (.aload_n 1, 1) := by decide +kernel
theorem dX11_drawPane_30 : decode cX11_drawPane 30 = .ok (.aload_n 2, 1) := by decide +kernel
theorem dX11_drawPane_31 : decode cX11_drawPane 31 = .ok (.invokevirtual 461, 3) := by decide +kernel
theorem dX11_drawPane_34 : decode cX11_drawPane 34 = .ok (.aload_n 0, 1) := by decide +kernel
theorem dX11_drawPane_35 : decode cX11_drawPane 35 = .ok (.getfield 68, 3) := by decide +kernel
theorem dX11_drawPane_38 : decode cX11_drawPane 38 = .ok (.aload_n 1, 1) := by decide +kernel
theorem dX11_drawPane_39 : decode cX11_drawPane 39 = .ok (.getfield 416, 3) := by decide +kernel
theorem dX11_drawPane_42 : decode cX11_drawPane 42 = .ok (.aload_n 1, 1) := by decide +kernel
theorem dX11_drawPane_43 : decode cX11_drawPane 43 = .ok (.getfield 420, 3) := by decide +kernel
theorem dX11_drawPane_46 : decode cX11_drawPane 46 = .ok (.aload_n 1, 1) := by decide +kernel
theorem dX11_drawPane_47 : decode cX11_drawPane 47 = .ok (.getfield 416, 3) := by decide +kernel
theorem dX11_drawPane_50 : decode cX11_drawPane 50 = .ok (.aload_n 1, 1) := by decide +kernel
theorem dX11_drawPane_51 : decode cX11_drawPane 51 = .ok (.getfield 464, 3) := by decide +kernel
theorem dX11_drawPane_54 : decode cX11_drawPane 54 = .ok (.iadd, 1) := by decide +kernel
theorem dX11_drawPane_55 : decode cX11_drawPane 55 = .ok (.aload_n 1, 1) := by decide +kernel
theorem dX11_drawPane_56 : decode cX11_drawPane 56 = .ok (.getfield 420, 3) := by decide +kernel
theorem dX11_drawPane_59 : decode cX11_drawPane 59 = .ok (.aload_n 1, 1) := by decide +kernel
theorem dX11_drawPane_60 : decode cX11_drawPane 60 = .ok (.invokevirtual 467, 3) := by decide +kernel
theorem dX11_drawPane_63 : decode cX11_drawPane 63 = .ok (.iadd, 1) := by decide +kernel
theorem dX11_drawPane_64 : decode cX11_drawPane 64 = .ok (.invokevirtual 223, 3) := by decide +kernel
theorem dX11_drawPane_67 : decode cX11_drawPane 67 = .ok (.aload_n 0, 1) := by decide +kernel
theorem dX11_drawPane_68 : decode cX11_drawPane 68 = .ok (.getfield 54, 3) := by decide +kernel
theorem dX11_drawPane_71 : decode cX11_drawPane 71 = .ok (.aload_n 0, 1) := by decide +kernel
theorem dX11_drawPane_72 : decode cX11_drawPane 72 = .ok (.getfield 68, 3) := by decide +kernel
theorem dX11_drawPane_75 : decode cX11_drawPane 75 = .ok (.iconst 1, 1) := by decide +kernel
theorem dX11_drawPane_76 : decode cX11_drawPane 76 = .ok (.iconst 0, 1) := by decide +kernel
theorem dX11_drawPane_77 : decode cX11_drawPane 77 = .ok (.aload_n 2, 1) := by decide +kernel
theorem dX11_drawPane_78 : decode cX11_drawPane 78 = .ok (.invokevirtual 470, 3) := by decide +kernel
theorem dX11_drawPane_81 : decode cX11_drawPane 81 = .ok (.aload_n 1, 1) := by decide +kernel
theorem dX11_drawPane_82 : decode cX11_drawPane 82 = .ok (.getfield 439, 3) := by decide +kernel
theorem dX11_drawPane_85 : decode cX11_drawPane 85 = .ok (.ifCond .le 33, 3) := by decide +kernel
theorem dX11_drawPane_88 : decode cX11_drawPane 88 = .ok (.aload_n 0, 1) := by decide +kernel
theorem dX11_drawPane_89 : decode cX11_drawPane 89 = .ok (.getfield 68, 3) := by decide +kernel
theorem dX11_drawPane_92 : decode cX11_drawPane 92 = .ok (.aload_n 1, 1) := by decide +kernel
theorem dX11_drawPane_93 : decode cX11_drawPane 93 = .ok (.getfield 420, 3) := by decide +kernel
theorem dX11_drawPane_96 : decode cX11_drawPane 96 = .ok (.aload_n 1, 1) := by decide +kernel
theorem dX11_drawPane_97 : decode cX11_drawPane 97 = .ok (.getfield 439, 3) := by decide +kernel
theorem dX11_drawPane_100 : decode cX11_drawPane 100 = .ok (.iadd, 1) := by decide +kernel
theorem dX11_drawPane_101 : decode cX11_drawPane 101 = .ok (.putfield 353, 3) := by decide +kernel
theorem dX11_drawPane_104 : decode cX11_drawPane 104 = .ok (.aload_n 0, 1) := by decide +kernel
theorem dX11_drawPane_105 : decode cX11_drawPane 105 = .ok (.getfield 54, 3) := by decide +kernel
theorem dX11_drawPane_108 : decode cX11_drawPane 108 = .ok (.aload_n 0, 1) := by decide +kernel
theorem dX11_drawPane_109 : decode cX11_drawPane 109 = .ok (.getfield 68, 3) := by decide +kernel
theorem dX11_drawPane_112 : decode cX11_drawPane 112 = .ok (.iconst 2, 1) := by decide +kernel
theorem dX11_drawPane_113 : decode cX11_drawPane 113 = .ok (.iconst 0, 1) := by decide +kernel
theorem dX11_drawPane_114 : decode cX11_drawPane 114 = .ok (.aload_n 2, 1) := by decide +kernel
theorem dX11_drawPane_115 : decode cX11_drawPane 115 = .ok (.invokevirtual 470, 3) := by decide +kernel
theorem dX11_drawPane_118 : decode cX11_drawPane 118 = .ok (.return_, 1) := by decide +kernel
set_option maxHeartbeats 4000000 in
set_option maxRecDepth 100000 in
theorem m_X11_drawPane (l : Launch) {Z : pZ} (S : pSh Z) {h : pH} (I : Iv Z h) (o2 : Nat) (ho2 : pIs Z o2 7) (o3 : Nat) (ho3 : pIs Z o3 2) (K : pSk Z) (L : pLk Z h) (hq3 : (h 129 3).toInt ≤ 8980) : pMet l yX11_drawPane cX11_drawPane 3 none 5 (gmc Z) (gms Z) 119 Z h [.ref (zB Z + 0), .ref (zB Z + o2), .ref (zB Z + o3)] (gQv Z (fun Z1 h1 k n => pGr Z Z1 ∧ pSk Z1 ∧ Iv Z1 h1 ∧ agrD [(129, 2), (129, 3), (129, 4), (129, 5)] h h1 ∧ (k ≤ pPh Z1 - pPh Z ∧ n ≤ 2 * (pPh Z1 - pPh Z) ∧ pPh Z ≤ pPh Z1) ∧ pLk Z1 h1 ∧ ((h1 129 2).toInt ≤ (h 129 2).toInt + 2) ∧ ((h1 129 3).toInt ≤ (h 129 3).toInt + 2))) := by
  refine pOfW (lv := [(0, .ref (zB Z + 0)), (1, .ref (zB Z + o2)), (2, .ref (zB Z + o3))]) (by decide) (Nat.le_of_ble_eq_true rfl) rfl ?_
  intro p e s m below meth c ls M hr hlk hnm V hl
  have hx := M.1.1
  have hb := M.1.2.1
  have A : agrD [] h h := agrD.rf
  have hP0 : pPh Z ≤ pPh Z := Nat.le_refl _
  have hPm := K.ph
  have GR : pGr Z Z := pGr.rf
  refine W.widen (k := pPh Z - pPh Z) (n := 2 * (pPh Z - pPh Z)) (Nat.zero_le _) (Nat.zero_le _) ?_
  refine lv_aload_n hx hb dX11_drawPane_0 rfl (lv_at hl 0 rfl) ?_
  refine pg_r M V 11 6 (c_is_0 S) pC11 fk11_6 (c_r_0_6 S) lkF_X11_54 dX11_drawPane_1 ?_
  refine pk_v (pr_V M V (m_X9_startList_129 l S I  ) km_X9_startList (c_is_129 S) pC9 lkM_X11_452 rfl hl.1 rfl (Nat.le_of_ble_eq_true rfl) ⟨Nat.le_of_ble_eq_true rfl, Nat.le_of_ble_eq_true rfl⟩ (g_r0 (by omega) (by omega)) dX11_drawPane_4) V (fun Zr1 hr1 H locs pr1 _ _ V => ?_)
  obtain ⟨rfl, I, pA_r1⟩ := pr1
  have A := A.wk (l3 := [(129, 4), (129, 5)]) (by decide)
  have A := A.tr pA_r1 (by decide)
  have L := L.congr (pA_r1.get 129 2 (by decide)) (pA_r1.get 129 3 (by decide))
  have w_r1_129_2 : (hr1 129 2).toInt = (h 129 2).toInt := congrArg Int32.toInt (pA_r1.get 129 2 (by decide))
  have w_r1_129_3 : (hr1 129 3).toInt = (h 129 3).toInt := congrArg Int32.toInt (pA_r1.get 129 3 (by decide))
  refine lv_aload_n hx hb dX11_drawPane_7 rfl (lv_at hl 1 rfl) ?_
  refine lv_aload_n hx hb dX11_drawPane_8 rfl (lv_at hl 0 rfl) ?_
  refine pg_r M V 11 6 (c_is_0 S) pC11 fk11_6 (c_r_0_6 S) lkF_X11_54 dX11_drawPane_9 ?_
  refine pg_i M V 9 2 (c_is_129 S) pC9 fk9_2 lkF_X11_374 dX11_drawPane_12 ?_
  refine lv_topi (fun v2 ev2 => ?_)
  have tv2 : 0 ≤ v2.toInt ∧ v2.toInt ≤ 9000 := by rw [ev2]; exact I.get (c_is_129 S) 2
  have uv2 : v2.toInt = (h 129 2).toInt := by rw [ev2, A.get 129 2 (by decide)]
  refine gp_i M V I S 7 10 ho2 (by decide) pC7 fk7_10 rfl lkF_X11_455 ⟨rfl, rfl⟩ (show (0 : Int) ≤ v2.toInt ∧ v2.toInt ≤ (9000 : Int) by omega) dX11_drawPane_15 (fun H locs hr3 I pA_r3 V => ?_)
  have A := A.tr pA_r3 (by decide)
  have L := L.congr (pA_r3.get 129 2 (by decide)) (pA_r3.get 129 3 (by decide))
  have w_r3_129_2 : (hr3 129 2).toInt = (hr1 129 2).toInt := congrArg Int32.toInt (pA_r3.get 129 2 (by decide))
  have w_r3_129_3 : (hr3 129 3).toInt = (hr1 129 3).toInt := congrArg Int32.toInt (pA_r3.get 129 3 (by decide))
  refine lv_aload_n hx hb dX11_drawPane_18 rfl (lv_at hl 1 rfl) ?_
  refine lv_aload_n hx hb dX11_drawPane_19 rfl (lv_at hl 0 rfl) ?_
  refine pg_r M V 11 6 (c_is_0 S) pC11 fk11_6 (c_r_0_6 S) lkF_X11_54 dX11_drawPane_20 ?_
  refine pg_i M V 9 3 (c_is_129 S) pC9 fk9_3 lkF_X11_139 dX11_drawPane_23 ?_
  refine lv_topi (fun v4 ev4 => ?_)
  have tv4 : 0 ≤ v4.toInt ∧ v4.toInt ≤ 9000 := by rw [ev4]; exact I.get (c_is_129 S) 3
  have uv4 : v4.toInt = (h 129 3).toInt := by rw [ev4, A.get 129 3 (by decide)]
  refine gp_i M V I S 7 12 ho2 (by decide) pC7 fk7_12 rfl lkF_X11_458 ⟨rfl, rfl⟩ (show (0 : Int) ≤ v4.toInt ∧ v4.toInt ≤ (9000 : Int) by omega) dX11_drawPane_26 (fun H locs hr5 I pA_r5 V => ?_)
  have A := A.tr pA_r5 (by decide)
  have L := L.congr (pA_r5.get 129 2 (by decide)) (pA_r5.get 129 3 (by decide))
  have w_r5_129_2 : (hr5 129 2).toInt = (hr3 129 2).toInt := congrArg Int32.toInt (pA_r5.get 129 2 (by decide))
  have w_r5_129_3 : (hr5 129 3).toInt = (hr3 129 3).toInt := congrArg Int32.toInt (pA_r5.get 129 3 (by decide))
  refine lv_aload_n hx hb dX11_drawPane_29 rfl (lv_at hl 1 rfl) ?_
  refine lv_aload_n hx hb dX11_drawPane_30 rfl (lv_at hl 2 rfl) ?_
  refine pk_v (pr_V M V (m_X7_setOutside l S I o2 ho2 o3 ho3 ) km_X7_setOutside ho2 pC7 lkM_X11_461 rfl hl.1 rfl (Nat.le_of_ble_eq_true rfl) ⟨Nat.le_of_ble_eq_true rfl, Nat.le_of_ble_eq_true rfl⟩ (g_r0 (by omega) (by omega)) dX11_drawPane_31) V (fun Zr6 hr6 H locs pr6 _ _ V => ?_)
  obtain ⟨rfl, I, pA_r6⟩ := pr6
  have A := A.tr pA_r6 (by decide)
  have L := L.congr (pA_r6.get 129 2 (by decide)) (pA_r6.get 129 3 (by decide))
  have w_r6_129_2 : (hr6 129 2).toInt = (hr5 129 2).toInt := congrArg Int32.toInt (pA_r6.get 129 2 (by decide))
  have w_r6_129_3 : (hr6 129 3).toInt = (hr5 129 3).toInt := congrArg Int32.toInt (pA_r6.get 129 3 (by decide))
  refine lv_aload_n hx hb dX11_drawPane_34 rfl (lv_at hl 0 rfl) ?_
  refine pg_r M V 11 9 (c_is_0 S) pC11 fk11_9 (c_r_0_9 S) lkF_X11_68 dX11_drawPane_35 ?_
  refine lv_aload_n hx hb dX11_drawPane_38 rfl (lv_at hl 1 rfl) ?_
  refine pg_i M V 7 1 ho2 pC7 fk7_1 lkF_X11_416 dX11_drawPane_39 ?_
  refine lv_topi (fun v7 ev7 => ?_)
  refine lv_aload_n hx hb dX11_drawPane_42 rfl (lv_at hl 1 rfl) ?_
  refine pg_i M V 7 2 ho2 pC7 fk7_2 lkF_X11_420 dX11_drawPane_43 ?_
  refine lv_topi (fun v8 ev8 => ?_)
  refine lv_aload_n hx hb dX11_drawPane_46 rfl (lv_at hl 1 rfl) ?_
  refine pg_i M V 7 1 ho2 pC7 fk7_1 lkF_X11_416 dX11_drawPane_47 ?_
  refine lv_topi (fun v9 ev9 => ?_)
  refine lv_aload_n hx hb dX11_drawPane_50 rfl (lv_at hl 1 rfl) ?_
  refine pg_i M V 7 3 ho2 pC7 fk7_3 lkF_X11_464 dX11_drawPane_51 ?_
  refine lv_topi (fun v10 ev10 => ?_)
  refine lv_iadd hx hb dX11_drawPane_54 ?_
  refine lv_topi (fun v11 ev11 => ?_)
  refine lv_aload_n hx hb dX11_drawPane_55 rfl (lv_at hl 1 rfl) ?_
  refine pg_i M V 7 2 ho2 pC7 fk7_2 lkF_X11_420 dX11_drawPane_56 ?_
  refine lv_topi (fun v12 ev12 => ?_)
  refine lv_aload_n hx hb dX11_drawPane_59 rfl (lv_at hl 1 rfl) ?_
  refine pk_i (pr_V M V (m_X7_heightNow l S I o2 ho2 ) km_X7_heightNow ho2 pC7 lkM_X11_467 rfl hl.1 rfl (Nat.le_of_ble_eq_true rfl) ⟨Nat.le_of_ble_eq_true rfl, Nat.le_of_ble_eq_true rfl⟩ (g_r0 (by omega) (by omega)) dX11_drawPane_60) V (fun r13 Zr13 hr13 H locs pr13 _ _ V => ?_)
  obtain ⟨rfl, I, pA_r13⟩ := pr13
  have A := A.tr pA_r13 (by decide)
  have L := L.congr (pA_r13.get 129 2 (by decide)) (pA_r13.get 129 3 (by decide))
  have w_r13_129_2 : (hr13 129 2).toInt = (hr6 129 2).toInt := congrArg Int32.toInt (pA_r13.get 129 2 (by decide))
  have w_r13_129_3 : (hr13 129 3).toInt = (hr6 129 3).toInt := congrArg Int32.toInt (pA_r13.get 129 3 (by decide))
  refine lv_iadd hx hb dX11_drawPane_63 ?_
  refine lv_topi (fun v14 ev14 => ?_)
  refine pk_v (pr_V M V (m_X2_set l S I 136 (c_is_136 S) v7 v8 v11 v14 ) km_X2_set (c_is_136 S) pC2 lkM_X11_223 rfl hl.1 rfl (Nat.le_of_ble_eq_true rfl) ⟨Nat.le_of_ble_eq_true rfl, Nat.le_of_ble_eq_true rfl⟩ (g_r0 (by omega) (by omega)) dX11_drawPane_64) V (fun Zr15 hr15 H locs pr15 _ _ V => ?_)
  obtain ⟨rfl, I, pA_r15⟩ := pr15
  have A := A.tr pA_r15 (by decide)
  have L := L.congr (pA_r15.get 129 2 (by decide)) (pA_r15.get 129 3 (by decide))
  have w_r15_129_2 : (hr15 129 2).toInt = (hr13 129 2).toInt := congrArg Int32.toInt (pA_r15.get 129 2 (by decide))
  have w_r15_129_3 : (hr15 129 3).toInt = (hr13 129 3).toInt := congrArg Int32.toInt (pA_r15.get 129 3 (by decide))
  refine lv_aload_n hx hb dX11_drawPane_67 rfl (lv_at hl 0 rfl) ?_
  refine pg_r M V 11 6 (c_is_0 S) pC11 fk11_6 (c_r_0_6 S) lkF_X11_54 dX11_drawPane_68 ?_
  refine lv_aload_n hx hb dX11_drawPane_71 rfl (lv_at hl 0 rfl) ?_
  refine pg_r M V 11 9 (c_is_0 S) pC11 fk11_9 (c_r_0_9 S) lkF_X11_68 dX11_drawPane_72 ?_
  refine lv_iconst (v := 1) hx hb dX11_drawPane_75 (by decide) ?_
  refine lv_iconst (v := 0) hx hb dX11_drawPane_76 (by decide) ?_
  refine lv_aload_n hx hb dX11_drawPane_77 rfl (lv_at hl 2 rfl) ?_
  refine gz_v Z rfl rfl (pr_V M V (m_X9_draw l S I 136 (c_is_136 S) (1 : Int32) (0 : Int32) o3 ho3 K L (by omega)) km_X9_draw (c_is_129 S) pC9 lkM_X11_470 rfl hl.1 rfl (Nat.le_of_ble_eq_true rfl) ⟨Nat.le_of_ble_eq_true rfl, Nat.le_of_ble_eq_true rfl⟩ (g_rg (by omega) (by omega) hP0 hPm) dX11_drawPane_78) V (fun yr16 hr16 kr16 nr16 H locs pr16 V => ?_)
  obtain ⟨gr16, K, I, pA_r16, br16, L, fr16_0, fr16_1⟩ := pr16
  have A := A.wk (l3 := [(129, 4), (129, 5), (129, 2), (129, 3)]) (by decide)
  have A := A.tr pA_r16 (by decide)
  have isr16_1 := gr16.is ho2
  have isr16_2 := gr16.is ho3
  have S := S.gr (Z1 := (gW Z yr16)) rfl gr16
  have M := pM.to (gW Z yr16) rfl M
  have GR := GR.tr gr16
  have hP0 : pPh Z ≤ pPh (gW Z yr16) := by omega
  have hPm := K.ph
  refine W.widen (k := pPh (gW Z yr16) - pPh Z) (n := 2 * (pPh (gW Z yr16) - pPh Z)) (by omega) (by omega) ?_
  refine lv_aload_n hx hb dX11_drawPane_81 rfl (lv_at hl 1 rfl) ?_
  refine pg_i (Z := (gW Z yr16)) M V 7 0 isr16_1 pC7 fk7_0 lkF_X11_439 dX11_drawPane_82 ?_
  refine lv_topi (fun v17 ev17 => ?_)
  refine lv_if_le (tgt := 118) hx hb dX11_drawPane_85 (by decide) (fun c_85 => ?_) (fun c_85 => ?_)
  · skip
    have k_0 : (0 : Int32).toInt = 0 := rfl
    have c_85 := pi_le.mp c_85
    exact ge_v (Z := Z) (Z' := (gW Z yr16)) M V rfl rfl hr hlk ⟨GR, K, I, A.wk (by decide), ⟨by omega, by omega, hP0⟩, L, (show (hr16 129 2).toInt ≤ (h 129 2).toInt + 2 by omega), (show (hr16 129 3).toInt ≤ (h 129 3).toInt + 2 by omega)⟩ (g_re (by omega) (by omega) hPm) dX11_drawPane_118
  · skip
    have k_0 : (0 : Int32).toInt = 0 := rfl
    have c_85 := pi_le' c_85
    refine lv_aload_n hx hb dX11_drawPane_88 rfl (lv_at hl 0 rfl) ?_
    refine pg_r (Z := (gW Z yr16)) M V 11 9 (c_is_0 S) pC11 fk11_9 (c_r_0_9 S) lkF_X11_68 dX11_drawPane_89 ?_
    refine lv_aload_n hx hb dX11_drawPane_92 rfl (lv_at hl 1 rfl) ?_
    refine pg_i (Z := (gW Z yr16)) M V 7 2 isr16_1 pC7 fk7_2 lkF_X11_420 dX11_drawPane_93 ?_
    refine lv_topi (fun v18 ev18 => ?_)
    refine lv_aload_n hx hb dX11_drawPane_96 rfl (lv_at hl 1 rfl) ?_
    refine pg_i (Z := (gW Z yr16)) M V 7 0 isr16_1 pC7 fk7_0 lkF_X11_439 dX11_drawPane_97 ?_
    refine lv_topi (fun v19 ev19 => ?_)
    refine lv_iadd hx hb dX11_drawPane_100 ?_
    refine lv_topi (fun v20 ev20 => ?_)
    refine gp_i (Z := (gW Z yr16)) M V I S 2 3 (c_is_136 S) (by decide) pC2 fk2_3 rfl lkF_X11_353 ⟨rfl, rfl⟩ (pi_full _) dX11_drawPane_101 (fun H locs hr21 I pA_r21 V => ?_)
    have A := A.tr pA_r21 (by decide)
    have L := L.congr (pA_r21.get 129 2 (by decide)) (pA_r21.get 129 3 (by decide))
    have w_r21_129_2 : (hr21 129 2).toInt = (hr16 129 2).toInt := congrArg Int32.toInt (pA_r21.get 129 2 (by decide))
    have w_r21_129_3 : (hr21 129 3).toInt = (hr16 129 3).toInt := congrArg Int32.toInt (pA_r21.get 129 3 (by decide))
    refine lv_aload_n hx hb dX11_drawPane_104 rfl (lv_at hl 0 rfl) ?_
    refine pg_r (Z := (gW Z yr16)) M V 11 6 (c_is_0 S) pC11 fk11_6 (c_r_0_6 S) lkF_X11_54 dX11_drawPane_105 ?_
    refine lv_aload_n hx hb dX11_drawPane_108 rfl (lv_at hl 0 rfl) ?_
    refine pg_r (Z := (gW Z yr16)) M V 11 9 (c_is_0 S) pC11 fk11_9 (c_r_0_9 S) lkF_X11_68 dX11_drawPane_109 ?_
    refine lv_iconst (v := 2) hx hb dX11_drawPane_112 (by decide) ?_
    refine lv_iconst (v := 0) hx hb dX11_drawPane_113 (by decide) ?_
    refine lv_aload_n hx hb dX11_drawPane_114 rfl (lv_at hl 2 rfl) ?_
    refine gz_v (Z := (gW Z yr16)) Z rfl rfl (pr_V (Z := (gW Z yr16)) M V (m_X9_draw l S I 136 (c_is_136 S) (2 : Int32) (0 : Int32) o3 isr16_2 K L (by omega)) km_X9_draw (c_is_129 S) pC9 lkM_X11_470 rfl hl.1 rfl (Nat.le_of_ble_eq_true rfl) ⟨Nat.le_of_ble_eq_true rfl, Nat.le_of_ble_eq_true rfl⟩ (g_rg (by omega) (by omega) hP0 hPm) dX11_drawPane_115) V (fun yr22 hr22 kr22 nr22 H locs pr22 V => ?_)
    obtain ⟨gr22, K, I, pA_r22, br22, L, fr22_0, fr22_1⟩ := pr22
    have A := A.tr pA_r22 (by decide)
    have isr22_1 := gr22.is isr16_1
    have isr22_2 := gr22.is isr16_2
    have S := S.gr (Z1 := (gW Z yr22)) rfl gr22
    have M := pM.to (gW Z yr22) rfl M
    have GR := GR.tr gr22
    have hP0 : pPh Z ≤ pPh (gW Z yr22) := by omega
    have hPm := K.ph
    refine W.widen (k := pPh (gW Z yr22) - pPh Z) (n := 2 * (pPh (gW Z yr22) - pPh Z)) (by omega) (by omega) ?_
    exact ge_v (Z := Z) (Z' := (gW Z yr22)) M V rfl rfl hr hlk ⟨GR, K, I, A.wk (by decide), ⟨by omega, by omega, hP0⟩, L, (show (hr22 129 2).toInt ≤ (h 129 2).toInt + 2 by omega), (show (hr22 129 3).toInt ≤ (h 129 3).toInt + 2 by omega)⟩ (g_re (by omega) (by omega) hPm) dX11_drawPane_118
theorem dX11_tellPane_0 : decode cX11_tellPane 0 = .ok (.sipush 1000, 3) := by decide +kernel
theorem dX11_tellPane_3 : decode cX11_tellPane 3 = .ok (.iload_n 1, 1) := by decide +kernel
theorem dX11_tellPane_4 : decode cX11_tellPane 4 = .ok (.iadd, 1) := by decide +kernel
theorem dX11_tellPane_5 : decode cX11_tellPane 5 = .ok (.istore 5, 2) := by decide +kernel
theorem dX11_tellPane_7 : decode cX11_tellPane 7 = .ok (.aload_n 0, 1) := by decide +kernel
theorem dX11_tellPane_8 : decode cX11_tellPane 8 = .ok (.getfield 19, 3) := by decide +kernel
theorem dX11_tellPane_11 : decode cX11_tellPane 11 = .ok (.getfield 103, 3) := by decide +kernel
theorem dX11_tellPane_14 : decode cX11_tellPane 14 = .ok (.iload_n 1, 1) := by decide +kernel
theorem dX11_tellPane_15 : decode cX11_tellPane 15 = .ok (.if_icmp .ne 7, 3) := by decide +kernel
theorem dX11_tellPane_18 : decode cX11_tellPane 18 = .ok (.iconst 1, 1) := by decide +kernel
theorem dX11_tellPane_19 : decode cX11_tellPane 19 = .ok (.goto 4, 3) := by decide +kernel
theorem dX11_tellPane_22 : decode cX11_tellPane 22 = .ok (.iconst 0, 1) := by decide +kernel
theorem dX11_tellPane_23 : decode cX11_tellPane 23 = .ok (.istore 6, 2) := by decide +kernel
theorem dX11_tellPane_25 : decode cX11_tellPane 25 = .ok (.aload_n 2, 1) := by decide +kernel
theorem dX11_tellPane_26 : decode cX11_tellPane 26 = .ok (.iload_n 3, 1) := by decide +kernel
theorem dX11_tellPane_27 : decode cX11_tellPane 27 = .ok (.iload 4, 2) := by decide +kernel
theorem dX11_tellPane_29 : decode cX11_tellPane 29 = .ok (.iload 6, 2) := by decide +kernel
theorem dX11_tellPane_31 : decode cX11_tellPane 31 = .ok (.ifCond .eq 24, 3) := by decide +kernel
theorem dX11_tellPane_34 : decode cX11_tellPane 34 = .ok (.aload_n 0, 1) := by decide +kernel
theorem dX11_tellPane_35 : decode cX11_tellPane 35 = .ok (.getfield 26, 3) := by decide +kernel
theorem dX11_tellPane_38 : decode cX11_tellPane 38 = .ok (.getfield 424, 3) := by decide +kernel
theorem dX11_tellPane_41 : decode cX11_tellPane 41 = .ok (.iconst (-1), 1) := by decide +kernel
theorem dX11_tellPane_42 : decode cX11_tellPane 42 = .ok (.if_icmp .ne 13, 3) := by decide +kernel
theorem dX11_tellPane_45 : decode cX11_tellPane 45 = .ok (.aload_n 0, 1) := by decide +kernel
theorem dX11_tellPane_46 : decode cX11_tellPane 46 = .ok (.getfield 10, 3) := by decide +kernel
theorem dX11_tellPane_49 : decode cX11_tellPane 49 = .ok (.getfield 293, 3) := by decide +kernel
theorem dX11_tellPane_52 : decode cX11_tellPane 52 = .ok (.goto 4, 3) := by decide +kernel
theorem dX11_tellPane_55 : decode cX11_tellPane 55 = .ok (.iconst 0, 1) := by decide +kernel
theorem dX11_tellPane_56 : decode cX11_tellPane 56 = .ok (.invokevirtual 427, 3) := by decide +kernel
theorem dX11_tellPane_59 : decode cX11_tellPane 59 = .ok (.iload 6, 2) := by decide +kernel
theorem dX11_tellPane_61 : decode cX11_tellPane 61 = .ok (.ifCond .eq 43, 3) := by decide +kernel
theorem dX11_tellPane_64 : decode cX11_tellPane 64 = .ok (.aload_n 0, 1) := by decide +kernel
theorem dX11_tellPane_65 : decode cX11_tellPane 65 = .ok (.getfield 10, 3) := by decide +kernel
theorem dX11_tellPane_68 : decode cX11_tellPane 68 = .ok (.getfield 413, 3) := by decide +kernel
theorem dX11_tellPane_71 : decode cX11_tellPane 71 = .ok (.ifCond .eq 33, 3) := by decide +kernel
theorem dX11_tellPane_74 : decode cX11_tellPane 74 = .ok (.aload_n 0, 1) := by decide +kernel
theorem dX11_tellPane_75 : decode cX11_tellPane 75 = .ok (.getfield 40, 3) := by decide +kernel
theorem dX11_tellPane_78 : decode cX11_tellPane 78 = .ok (.getfield 341, 3) := by decide +kernel
theorem dX11_tellPane_81 : decode cX11_tellPane 81 = .ok (.ifCond .ne 23, 3) := by decide +kernel
theorem dX11_tellPane_84 : decode cX11_tellPane 84 = .ok (.aload_n 2, 1) := by decide +kernel
theorem dX11_tellPane_85 : decode cX11_tellPane 85 = .ok (.aload_n 0, 1) := by decide +kernel
theorem dX11_tellPane_86 : decode cX11_tellPane 86 = .ok (.getfield 10, 3) := by decide +kernel
theorem dX11_tellPane_89 : decode cX11_tellPane 89 = .ok (.invokevirtual 429, 3) := by decide +kernel
theorem dX11_tellPane_92 : decode cX11_tellPane 92 = .ok (.ifCond .eq 12, 3) := by decide +kernel
theorem dX11_tellPane_95 : decode cX11_tellPane 95 = .ok (.aload_n 0, 1) := by decide +kernel
theorem dX11_tellPane_96 : decode cX11_tellPane 96 = .ok (.getfield 40, 3) := by decide +kernel
theorem dX11_tellPane_99 : decode cX11_tellPane 99 = .ok (.iload 5, 2) := by decide +kernel
theorem dX11_tellPane_101 : decode cX11_tellPane 101 = .ok (.putfield 341, 3) := by decide +kernel
theorem dX11_tellPane_104 : decode cX11_tellPane 104 = .ok (.aload_n 0, 1) := by decide +kernel
theorem dX11_tellPane_105 : decode cX11_tellPane 105 = .ok (.getfield 40, 3) := by decide +kernel
theorem dX11_tellPane_108 : decode cX11_tellPane 108 = .ok (.getfield 341, 3) := by decide +kernel
theorem dX11_tellPane_111 : decode cX11_tellPane 111 = .ok (.iload 5, 2) := by decide +kernel
theorem dX11_tellPane_113 : decode cX11_tellPane 113 = .ok (.if_icmp .ne 47, 3) := by decide +kernel
theorem dX11_tellPane_116 : decode cX11_tellPane 116 = .ok (.aload_n 0, 1) := by decide +kernel
theorem dX11_tellPane_117 : decode cX11_tellPane 117 = .ok (.getfield 10, 3) := by decide +kernel
theorem dX11_tellPane_120 : decode cX11_tellPane 120 = .ok (.getfield 433, 3) := by decide +kernel
theorem dX11_tellPane_123 : decode cX11_tellPane 123 = .ok (.ifCond .eq 37, 3) := by decide +kernel
theorem dX11_tellPane_126 : decode cX11_tellPane 126 = .ok (.aload_n 0, 1) := by decide +kernel
theorem dX11_tellPane_127 : decode cX11_tellPane 127 = .ok (.getfield 40, 3) := by decide +kernel
theorem dX11_tellPane_130 : decode cX11_tellPane 130 = .ok (.iconst 0, 1) := by decide +kernel
theorem dX11_tellPane_131 : decode cX11_tellPane 131 = .ok (.putfield 341, 3) := by decide +kernel
theorem dX11_tellPane_134 : decode cX11_tellPane 134 = .ok (.aload_n 0, 1) := by decide +kernel
theorem dX11_tellPane_135 : decode cX11_tellPane 135 = .ok (.getfield 10, 3) := by decide +kernel
theorem dX11_tellPane_138 : decode cX11_tellPane 138 = .ok (.invokevirtual 436, 3) := by decide +kernel
theorem dX11_tellPane_141 : decode cX11_tellPane 141 = .ok (.ifCond .eq 19, 3) := by decide +kernel
theorem dX11_tellPane_144 : decode cX11_tellPane 144 = .ok (.aload_n 2, 1) := by decide +kernel
theorem dX11_tellPane_145 : decode cX11_tellPane 145 = .ok (.aload_n 2, 1) := by decide +kernel
theorem dX11_tellPane_146 : decode cX11_tellPane 146 = .ok (.getfield 168, 3) := by decide +kernel
theorem dX11_tellPane_149 : decode cX11_tellPane 149 = .ok (.ifCond .ne 7, 3) := by decide +kernel
theorem dX11_tellPane_152 : decode cX11_tellPane 152 = .ok (.iconst 1, 1) := by decide +kernel
theorem dX11_tellPane_153 : decode cX11_tellPane 153 = .ok (.goto 4, 3) := by decide +kernel
theorem dX11_tellPane_156 : decode cX11_tellPane 156 = .ok (.iconst 0, 1) := by decide +kernel
theorem dX11_tellPane_157 : decode cX11_tellPane 157 = .ok (.putfield 168, 3) := by decide +kernel
theorem dX11_tellPane_160 : decode cX11_tellPane 160 = .ok (.aload_n 0, 1) := by decide +kernel
theorem dX11_tellPane_161 : decode cX11_tellPane 161 = .ok (.getfield 40, 3) := by decide +kernel
theorem dX11_tellPane_164 : decode cX11_tellPane 164 = .ok (.iload 5, 2) := by decide +kernel
theorem dX11_tellPane_166 : decode cX11_tellPane 166 = .ok (.invokevirtual 287, 3) := by decide +kernel
theorem dX11_tellPane_169 : decode cX11_tellPane 169 = .ok (.aload_n 0, 1) := by decide +kernel
theorem dX11_tellPane_170 : decode cX11_tellPane 170 = .ok (.getfield 19, 3) := by decide +kernel
theorem dX11_tellPane_173 : decode cX11_tellPane 173 = .ok (.iload_n 1, 1) := by decide +kernel
theorem dX11_tellPane_174 : decode cX11_tellPane 174 = .ok (.putfield 290, 3) := by decide +kernel
theorem dX11_tellPane_177 : decode cX11_tellPane 177 = .ok (.aload_n 0, 1) := by decide +kernel
theorem dX11_tellPane_178 : decode cX11_tellPane 178 = .ok (.getfield 33, 3) := by decide +kernel
theorem dX11_tellPane_181 : decode cX11_tellPane 181 = .ok (.iconst 0, 1) := by decide +kernel
theorem dX11_tellPane_182 : decode cX11_tellPane 182 = .ok (.iload 5, 2) := by decide +kernel
theorem dX11_tellPane_184 : decode cX11_tellPane 184 = .ok (.invokevirtual 280, 3) := by decide +kernel
theorem dX11_tellPane_187 : decode cX11_tellPane 187 = .ok (.aload_n 0, 1) := by decide +kernel
theorem dX11_tellPane_188 : decode cX11_tellPane 188 = .ok (.getfield 33, 3) := by decide +kernel
theorem dX11_tellPane_191 : decode cX11_tellPane 191 = .ok (.invokevirtual 185, 3) := by decide +kernel
theorem dX11_tellPane_194 : decode cX11_tellPane 194 = .ok (.astore 7, 2) := by decide +kernel
theorem dX11_tellPane_196 : decode cX11_tellPane 196 = .ok (.aload 7, 2) := by decide +kernel
theorem dX11_tellPane_198 : decode cX11_tellPane 198 = .ok (.aload_n 2, 1) := by decide +kernel
theorem dX11_tellPane_199 : decode cX11_tellPane 199 = .ok (.getfield 416, 3) := by decide +kernel
theorem dX11_tellPane_202 : decode cX11_tellPane 202 = .ok (.iconst 4, 1) := by decide +kernel
theorem dX11_tellPane_203 : decode cX11_tellPane 203 = .ok (.iadd, 1) := by decide +kernel
theorem dX11_tellPane_204 : decode cX11_tellPane 204 = .ok (.aload_n 2, 1) := by decide +kernel
theorem dX11_tellPane_205 : decode cX11_tellPane 205 = .ok (.getfield 420, 3) := by decide +kernel
theorem dX11_tellPane_208 : decode cX11_tellPane 208 = .ok (.aload_n 2, 1) := by decide +kernel
theorem dX11_tellPane_209 : decode cX11_tellPane 209 = .ok (.getfield 439, 3) := by decide +kernel
theorem dX11_tellPane_212 : decode cX11_tellPane 212 = .ok (.iadd, 1) := by decide +kernel
theorem dX11_tellPane_213 : decode cX11_tellPane 213 = .ok (.iconst 4, 1) := by decide +kernel
theorem dX11_tellPane_214 : decode cX11_tellPane 214 = .ok (.iadd, 1) := by decide +kernel
theorem dX11_tellPane_215 : decode cX11_tellPane 215 = .ok (.aload_n 2, 1) := by decide +kernel
theorem dX11_tellPane_216 : decode cX11_tellPane 216 = .ok (.getfield 442, 3) := by decide +kernel
theorem dX11_tellPane_219 : decode cX11_tellPane 219 = .ok (.isub, 1) := by decide +kernel
theorem dX11_tellPane_220 : decode cX11_tellPane 220 = .ok (.iconst 0, 1) := by decide +kernel
theorem dX11_tellPane_221 : decode cX11_tellPane 221 = .ok (.invokevirtual 308, 3) := by decide +kernel
theorem dX11_tellPane_224 : decode cX11_tellPane 224 = .ok (.aload_n 0, 1) := by decide +kernel
theorem dX11_tellPane_225 : decode cX11_tellPane 225 = .ok (.aload_n 2, 1) := by decide +kernel
theorem dX11_tellPane_226 : decode cX11_tellPane 226 = .ok (.aload 7, 2) := by decide +kernel
theorem dX11_tellPane_228 : decode cX11_tellPane 228 = .ok (.getfield 312, 3) := by decide +kernel
theorem dX11_tellPane_231 : decode cX11_tellPane 231 = .ok (.invokevirtual 445, 3) := by decide +kernel
theorem dX11_tellPane_234 : decode cX11_tellPane 234 = .ok (.aload_n 2, 1) := by decide +kernel
theorem dX11_tellPane_235 : decode cX11_tellPane 235 = .ok (.aload 7, 2) := by decide +kernel
theorem dX11_tellPane_237 : decode cX11_tellPane 237 = .ok (.getfield 312, 3) := by decide +kernel
theorem dX11_tellPane_240 : decode cX11_tellPane 240 = .ok (.invokevirtual 449, 3) := by decide +kernel
theorem dX11_tellPane_243 : decode cX11_tellPane 243 = .ok (.return_, 1) := by decide +kernel
set_option maxHeartbeats 4000000 in
set_option maxRecDepth 100000 in
theorem m_X11_tellPane (l : Launch) {Z : pZ} (S : pSh Z) {h : pH} (I : Iv Z h) (number : Int32) (o2 : Nat) (ho2 : pIs Z o2 7) (width : Int32) (height : Int32) (K : pSk Z) (L : pLk Z h) (hq3 : (h 129 3).toInt ≤ 8980) : pMet l yX11_tellPane cX11_tellPane 8 none 6 (gmc Z) (gms Z) 141 Z h [.ref (zB Z + 0), .int number, .ref (zB Z + o2), .int width, .int height] (gQv Z (fun Z1 h1 k n => pGr Z Z1 ∧ pSk Z1 ∧ Iv Z1 h1 ∧ agrD [(122, 1000), (10, 4), (36, 4), (36, 5), (37, 1000), (38, 1000), (129, 2), (129, 3), (129, 4), (129, 5)] h h1 ∧ (k ≤ pPh Z1 - pPh Z ∧ n ≤ 2 * (pPh Z1 - pPh Z) ∧ pPh Z ≤ pPh Z1) ∧ pLk Z1 h1 ∧ ((h1 129 2).toInt ≤ (h 129 2).toInt + 2) ∧ ((h1 129 3).toInt ≤ (h 129 3).toInt + 2))) := by
  refine pOfW (lv := [(0, .ref (zB Z + 0)), (1, .int number), (2, .ref (zB Z + o2)), (3, .int width), (4, .int height)]) (by decide) (Nat.le_of_ble_eq_true rfl) rfl ?_
  intro p e s m below meth c ls M hr hlk hnm V hl
  have hx := M.1.1
  have hb := M.1.2.1
  have A : agrD [] h h := agrD.rf
  have hP0 : pPh Z ≤ pPh Z := Nat.le_refl _
  have hPm := K.ph
  have GR : pGr Z Z := pGr.rf
  have J_160 : ∀ (x160_5 : Int32) (x160_6 : Int32) (hJ : pH) (H : Heap) (locs : List Loc) (ls : Array Slot), pV Z hJ s.heap H locs → Iv Z hJ → pLk Z hJ → agrD [(122, 0)] h hJ → lv_has ls 8 [(0, .ref (zB Z + 0)), (1, .int number), (2, .ref (zB Z + o2)), (3, .int width), (4, .int height), (5, .int x160_5), (6, .int x160_6)] → (0 ≤ x160_6.toInt ∧ x160_6.toInt ≤ 1) → W p l e (pRm 6 (gmc Z) (gms Z) 141) s m ([.ref (zB Z + 0), .int number, .ref (zB Z + o2), .int width, .int height] : List Value).toArray below meth c H locs (pPh Z - pPh Z) (2 * (pPh Z - pPh Z)) (MQ below (gQv Z (fun Z1 h1 k n => pGr Z Z1 ∧ pSk Z1 ∧ Iv Z1 h1 ∧ agrD [(122, 1000), (10, 4), (36, 4), (36, 5), (37, 1000), (38, 1000), (129, 2), (129, 3), (129, 4), (129, 5)] h h1 ∧ (k ≤ pPh Z1 - pPh Z ∧ n ≤ 2 * (pPh Z1 - pPh Z) ∧ pPh Z ≤ pPh Z1) ∧ pLk Z1 h1 ∧ ((h1 129 2).toInt ≤ (h 129 2).toInt + 2) ∧ ((h1 129 3).toInt ≤ (h 129 3).toInt + 2))) ([.ref (zB Z + 0), .int number, .ref (zB Z + o2), .int width, .int height] : List Value).toArray s (gmc Z) (gms Z) (pA (zB Z))) (F0 m 160 ls []) := by
    intro x160_5 x160_6 hJ H locs ls V I L A hl g_160_6
    have wJ_129_2 : (hJ 129 2).toInt = (h 129 2).toInt := congrArg Int32.toInt (A.get 129 2 (by decide))
    have wJ_129_3 : (hJ 129 3).toInt = (h 129 3).toInt := congrArg Int32.toInt (A.get 129 3 (by decide))
    refine lv_aload_n hx hb dX11_tellPane_160 rfl (lv_at hl 0 rfl) ?_
    refine pg_r M V 11 4 (c_is_0 S) pC11 fk11_4 (c_r_0_4 S) lkF_X11_40 dX11_tellPane_161 ?_
    refine lv_iload hx hb dX11_tellPane_164 (lv_at hl 5 rfl) ?_
    refine pk_v (pr_V M V (m_X1_noteTold l S I x160_5 ) km_X1_noteTold (c_is_122 S) pC1 lkM_X11_287 rfl hl.1 rfl (Nat.le_of_ble_eq_true rfl) ⟨Nat.le_of_ble_eq_true rfl, Nat.le_of_ble_eq_true rfl⟩ (g_r0 (by omega) (by omega)) dX11_tellPane_166) V (fun Zr1 hr1 H locs pr1 _ _ V => ?_)
    obtain ⟨rfl, I, pA_r1⟩ := pr1
    have A := A.wk (l3 := [(122, 0), (122, 1000)]) (by decide)
    have A := A.tr pA_r1 (by decide)
    have L := L.congr (pA_r1.get 129 2 (by decide)) (pA_r1.get 129 3 (by decide))
    have w_r1_129_2 : (hr1 129 2).toInt = (hJ 129 2).toInt := congrArg Int32.toInt (pA_r1.get 129 2 (by decide))
    have w_r1_129_3 : (hr1 129 3).toInt = (hJ 129 3).toInt := congrArg Int32.toInt (pA_r1.get 129 3 (by decide))
    refine lv_aload_n hx hb dX11_tellPane_169 rfl (lv_at hl 0 rfl) ?_
    refine pg_r M V 11 1 (c_is_0 S) pC11 fk11_1 (c_r_0_1 S) lkF_X11_19 dX11_tellPane_170 ?_
    refine lv_iload_n hx hb dX11_tellPane_173 rfl (lv_at hl 1 rfl) ?_
    refine pp_i M V 3 4 (c_is_10 S) pC3 fk3_4 rfl lkF_X11_290 ⟨rfl, rfl⟩ dX11_tellPane_174 (fun H locs V => ?_)
    have A := A.wk (l3 := [(122, 0), (122, 1000), (10, 4)]) (by decide)
    have A := A.up (o := 10) (k := 4) (v := number) (by decide)
    have I := I.up (k := 4) (v := number) (c_is_10 S) (pi_full _)
    refine lv_aload_n hx hb dX11_tellPane_177 rfl (lv_at hl 0 rfl) ?_
    refine pg_r M V 11 3 (c_is_0 S) pC11 fk11_3 (c_r_0_3 S) lkF_X11_33 dX11_tellPane_178 ?_
    refine lv_iconst (v := 0) hx hb dX11_tellPane_181 (by decide) ?_
    refine lv_iload hx hb dX11_tellPane_182 (lv_at hl 5 rfl) ?_
    refine pk_v (pr_V M V (m_X8_put l S I (0 : Int32) x160_5 ) km_X8_put (c_is_36 S) pC8 lkM_X11_280 rfl hl.1 rfl (Nat.le_of_ble_eq_true rfl) ⟨Nat.le_of_ble_eq_true rfl, Nat.le_of_ble_eq_true rfl⟩ (g_r0 (by omega) (by omega)) dX11_tellPane_184) V (fun Zr2 hr2 H locs pr2 _ _ V => ?_)
    obtain ⟨rfl, I, pA_r2⟩ := pr2
    have A := A.wk (l3 := [(122, 0), (122, 1000), (10, 4), (36, 4), (36, 5), (37, 1000), (38, 1000)]) (by decide)
    have A := A.tr pA_r2 (by decide)
    have L := L.congr (pA_r2.get 129 2 (by decide)) (pA_r2.get 129 3 (by decide))
    have w_r2_129_2 : (hr2 129 2).toInt = (hr1 129 2).toInt := congrArg Int32.toInt (pA_r2.get 129 2 (by decide))
    have w_r2_129_3 : (hr2 129 3).toInt = (hr1 129 3).toInt := congrArg Int32.toInt (pA_r2.get 129 3 (by decide))
    refine lv_aload_n hx hb dX11_tellPane_187 rfl (lv_at hl 0 rfl) ?_
    refine pg_r M V 11 3 (c_is_0 S) pC11 fk11_3 (c_r_0_3 S) lkF_X11_33 dX11_tellPane_188 ?_
    refine pk_r (pr_V M V (m_X8_area l S I ) km_X8_area (c_is_36 S) pC8 lkM_X11_185 rfl hl.1 rfl (Nat.le_of_ble_eq_true rfl) ⟨Nat.le_of_ble_eq_true rfl, Nat.le_of_ble_eq_true rfl⟩ (g_r0 (by omega) (by omega)) dX11_tellPane_191) V (fun r3 Zr3 hr3 H locs pr3 _ _ V => ?_)
    obtain ⟨rfl, rfl, fr3_0⟩ := pr3
    refine lv_astore (lv' := [(7, .ref (zB Z + r3)), (0, .ref (zB Z + 0)), (1, .int number), (2, .ref (zB Z + o2)), (3, .int width), (4, .int height), (5, .int x160_5), (6, .int x160_6)]) hx hb dX11_tellPane_194 hl (by decide) rfl (fun ls hl => ?_)
    refine lv_aload hx hb dX11_tellPane_196 (lv_at hl 0 rfl) ?_
    refine lv_aload_n hx hb dX11_tellPane_198 rfl (lv_at hl 3 rfl) ?_
    refine pg_i M V 7 1 ho2 pC7 fk7_1 lkF_X11_416 dX11_tellPane_199 ?_
    refine lv_topi (fun v4 ev4 => ?_)
    refine lv_iconst (v := 4) hx hb dX11_tellPane_202 (by decide) ?_
    refine lv_iadd hx hb dX11_tellPane_203 ?_
    refine lv_topi (fun v5 ev5 => ?_)
    refine lv_aload_n hx hb dX11_tellPane_204 rfl (lv_at hl 3 rfl) ?_
    refine pg_i M V 7 2 ho2 pC7 fk7_2 lkF_X11_420 dX11_tellPane_205 ?_
    refine lv_topi (fun v6 ev6 => ?_)
    refine lv_aload_n hx hb dX11_tellPane_208 rfl (lv_at hl 3 rfl) ?_
    refine pg_i M V 7 0 ho2 pC7 fk7_0 lkF_X11_439 dX11_tellPane_209 ?_
    refine lv_topi (fun v7 ev7 => ?_)
    refine lv_iadd hx hb dX11_tellPane_212 ?_
    refine lv_topi (fun v8 ev8 => ?_)
    refine lv_iconst (v := 4) hx hb dX11_tellPane_213 (by decide) ?_
    refine lv_iadd hx hb dX11_tellPane_214 ?_
    refine lv_topi (fun v9 ev9 => ?_)
    refine lv_aload_n hx hb dX11_tellPane_215 rfl (lv_at hl 3 rfl) ?_
    refine pg_i M V 7 5 ho2 pC7 fk7_5 lkF_X11_442 dX11_tellPane_216 ?_
    refine lv_topi (fun v10 ev10 => ?_)
    refine lv_isub hx hb dX11_tellPane_219 ?_
    refine lv_topi (fun v11 ev11 => ?_)
    refine lv_iconst (v := 0) hx hb dX11_tellPane_220 (by decide) ?_
    refine pk_v (pr_V M V (m_X0_start l S I r3 fr3_0.1 v5 v11 (0 : Int32) ) km_X0_start fr3_0.1 pC0 lkM_X11_308 rfl hl.1 rfl (Nat.le_of_ble_eq_true rfl) ⟨Nat.le_of_ble_eq_true rfl, Nat.le_of_ble_eq_true rfl⟩ (g_r0 (by omega) (by omega)) dX11_tellPane_221) V (fun Zr12 hr12 H locs pr12 _ _ V => ?_)
    obtain ⟨rfl, I, pA_r12⟩ := pr12
    have A := A.tr pA_r12 (by decide)
    have L := L.congr (pA_r12.get 129 2 (by decide)) (pA_r12.get 129 3 (by decide))
    have w_r12_129_2 : (hr12 129 2).toInt = (hr2 129 2).toInt := congrArg Int32.toInt (pA_r12.get 129 2 (by decide))
    have w_r12_129_3 : (hr12 129 3).toInt = (hr2 129 3).toInt := congrArg Int32.toInt (pA_r12.get 129 3 (by decide))
    refine lv_aload_n hx hb dX11_tellPane_224 rfl (lv_at hl 1 rfl) ?_
    refine lv_aload_n hx hb dX11_tellPane_225 rfl (lv_at hl 3 rfl) ?_
    refine lv_aload hx hb dX11_tellPane_226 (lv_at hl 0 rfl) ?_
    refine pg_r M V 0 0 fr3_0.1 pC0 fk0_0 fr3_0.2.1 lkF_X11_312 dX11_tellPane_228 ?_
    refine gz_v Z rfl rfl (pr_V M V (m_X11_drawPane l S I o2 ho2 (r3 + 1) fr3_0.2.2 K L (by omega)) km_X11_drawPane (c_is_0 S) pC11 lkM_X11_445 rfl hl.1 rfl (Nat.le_of_ble_eq_true rfl) ⟨Nat.le_of_ble_eq_true rfl, Nat.le_of_ble_eq_true rfl⟩ (g_rg (by omega) (by omega) hP0 hPm) dX11_tellPane_231) V (fun yr13 hr13 kr13 nr13 H locs pr13 V => ?_)
    obtain ⟨gr13, K, I, pA_r13, br13, L, fr13_0, fr13_1⟩ := pr13
    have A := A.wk (l3 := [(122, 0), (122, 1000), (10, 4), (36, 4), (36, 5), (37, 1000), (38, 1000), (129, 2), (129, 3), (129, 4), (129, 5)]) (by decide)
    have A := A.tr pA_r13 (by decide)
    have clr13_1 := gr13.clip S (Z1 := (gW Z yr13)) rfl fr3_0
    have isr13_2 := gr13.is ho2
    have S := S.gr (Z1 := (gW Z yr13)) rfl gr13
    have M := pM.to (gW Z yr13) rfl M
    have GR := GR.tr gr13
    have hP0 : pPh Z ≤ pPh (gW Z yr13) := by omega
    have hPm := K.ph
    refine W.widen (k := pPh (gW Z yr13) - pPh Z) (n := 2 * (pPh (gW Z yr13) - pPh Z)) (by omega) (by omega) ?_
    refine lv_aload_n hx hb dX11_tellPane_234 rfl (lv_at hl 3 rfl) ?_
    refine lv_aload hx hb dX11_tellPane_235 (lv_at hl 0 rfl) ?_
    refine pg_r (Z := (gW Z yr13)) M V 0 0 clr13_1.1 pC0 fk0_0 clr13_1.2.1 lkF_X11_312 dX11_tellPane_237 ?_
    refine pk_v (pr_V (Z := (gW Z yr13)) M V (m_X7_setInside l S I o2 isr13_2 (r3 + 1) clr13_1.2.2 ) km_X7_setInside isr13_2 pC7 lkM_X11_449 rfl hl.1 rfl (Nat.le_of_ble_eq_true rfl) ⟨Nat.le_of_ble_eq_true rfl, Nat.le_of_ble_eq_true rfl⟩ (g_r0 (by omega) (by omega)) dX11_tellPane_240) V (fun Zr14 hr14 H locs pr14 _ _ V => ?_)
    obtain ⟨rfl, I, pA_r14⟩ := pr14
    have A := A.tr pA_r14 (by decide)
    have L := L.congr (pA_r14.get 129 2 (by decide)) (pA_r14.get 129 3 (by decide))
    have w_r14_129_2 : (hr14 129 2).toInt = (hr13 129 2).toInt := congrArg Int32.toInt (pA_r14.get 129 2 (by decide))
    have w_r14_129_3 : (hr14 129 3).toInt = (hr13 129 3).toInt := congrArg Int32.toInt (pA_r14.get 129 3 (by decide))
    exact ge_v (Z := Z) (Z' := (gW Z yr13)) M V rfl rfl hr hlk ⟨GR, K, I, A.wk (by decide), ⟨by omega, by omega, hP0⟩, L, (show (hr14 129 2).toInt ≤ (h 129 2).toInt + 2 by omega), (show (hr14 129 3).toInt ≤ (h 129 3).toInt + 2 by omega)⟩ (g_re (by omega) (by omega) hPm) dX11_tellPane_243
  have J_157 : ∀ (x157_5 : Int32) (x157_6 : Int32) (y157_0 : Int32) (hJ : pH) (H : Heap) (locs : List Loc) (ls : Array Slot), pV Z hJ s.heap H locs → Iv Z hJ → pLk Z hJ → agrD [(122, 0)] h hJ → lv_has ls 8 [(0, .ref (zB Z + 0)), (1, .int number), (2, .ref (zB Z + o2)), (3, .int width), (4, .int height), (5, .int x157_5), (6, .int x157_6)] → (0 ≤ x157_6.toInt ∧ x157_6.toInt ≤ 1) → (0 ≤ y157_0.toInt ∧ y157_0.toInt ≤ 1) → W p l e (pRm 6 (gmc Z) (gms Z) 141) s m ([.ref (zB Z + 0), .int number, .ref (zB Z + o2), .int width, .int height] : List Value).toArray below meth c H locs (pPh Z - pPh Z) (2 * (pPh Z - pPh Z)) (MQ below (gQv Z (fun Z1 h1 k n => pGr Z Z1 ∧ pSk Z1 ∧ Iv Z1 h1 ∧ agrD [(122, 1000), (10, 4), (36, 4), (36, 5), (37, 1000), (38, 1000), (129, 2), (129, 3), (129, 4), (129, 5)] h h1 ∧ (k ≤ pPh Z1 - pPh Z ∧ n ≤ 2 * (pPh Z1 - pPh Z) ∧ pPh Z ≤ pPh Z1) ∧ pLk Z1 h1 ∧ ((h1 129 2).toInt ≤ (h 129 2).toInt + 2) ∧ ((h1 129 3).toInt ≤ (h 129 3).toInt + 2))) ([.ref (zB Z + 0), .int number, .ref (zB Z + o2), .int width, .int height] : List Value).toArray s (gmc Z) (gms Z) (pA (zB Z))) (F0 m 157 ls [.int y157_0, .ref (zB Z + o2)]) := by
    intro x157_5 x157_6 y157_0 hJ H locs ls V I L A hl g_157_6 gs_157_0
    have wJ_129_2 : (hJ 129 2).toInt = (h 129 2).toInt := congrArg Int32.toInt (A.get 129 2 (by decide))
    have wJ_129_3 : (hJ 129 3).toInt = (h 129 3).toInt := congrArg Int32.toInt (A.get 129 3 (by decide))
    have z_157 : y157_0 = 0 ∨ y157_0 = 1 := pi_z (by omega)
    refine gp_i M V I S 7 7 ho2 (by decide) pC7 fk7_7 rfl lkF_X11_168 ⟨(pn_z z_157).1, (pn_z z_157).2.1⟩ (show (0 : Int) ≤ y157_0.toInt ∧ y157_0.toInt ≤ (1 : Int) by omega) dX11_tellPane_157 (fun H locs hr15 I pA_r15 V => ?_)
    have A := A.tr pA_r15 (by decide)
    have L := L.congr (pA_r15.get 129 2 (by decide)) (pA_r15.get 129 3 (by decide))
    have w_r15_129_2 : (hr15 129 2).toInt = (hJ 129 2).toInt := congrArg Int32.toInt (pA_r15.get 129 2 (by decide))
    have w_r15_129_3 : (hr15 129 3).toInt = (hJ 129 3).toInt := congrArg Int32.toInt (pA_r15.get 129 3 (by decide))
    exact J_160 x157_5 x157_6 _ _ _ _ V I L (A.wk (by decide)) (lv_sub hl [0, 1, 2, 3, 4, 5, 6] rfl) (by omega) 
  have J_104 : ∀ (x104_5 : Int32) (x104_6 : Int32) (hJ : pH) (H : Heap) (locs : List Loc) (ls : Array Slot), pV Z hJ s.heap H locs → Iv Z hJ → pLk Z hJ → agrD [(122, 0)] h hJ → lv_has ls 8 [(0, .ref (zB Z + 0)), (1, .int number), (2, .ref (zB Z + o2)), (3, .int width), (4, .int height), (5, .int x104_5), (6, .int x104_6)] → (0 ≤ x104_6.toInt ∧ x104_6.toInt ≤ 1) → W p l e (pRm 6 (gmc Z) (gms Z) 141) s m ([.ref (zB Z + 0), .int number, .ref (zB Z + o2), .int width, .int height] : List Value).toArray below meth c H locs (pPh Z - pPh Z) (2 * (pPh Z - pPh Z)) (MQ below (gQv Z (fun Z1 h1 k n => pGr Z Z1 ∧ pSk Z1 ∧ Iv Z1 h1 ∧ agrD [(122, 1000), (10, 4), (36, 4), (36, 5), (37, 1000), (38, 1000), (129, 2), (129, 3), (129, 4), (129, 5)] h h1 ∧ (k ≤ pPh Z1 - pPh Z ∧ n ≤ 2 * (pPh Z1 - pPh Z) ∧ pPh Z ≤ pPh Z1) ∧ pLk Z1 h1 ∧ ((h1 129 2).toInt ≤ (h 129 2).toInt + 2) ∧ ((h1 129 3).toInt ≤ (h 129 3).toInt + 2))) ([.ref (zB Z + 0), .int number, .ref (zB Z + o2), .int width, .int height] : List Value).toArray s (gmc Z) (gms Z) (pA (zB Z))) (F0 m 104 ls []) := by
    intro x104_5 x104_6 hJ H locs ls V I L A hl g_104_6
    have wJ_129_2 : (hJ 129 2).toInt = (h 129 2).toInt := congrArg Int32.toInt (A.get 129 2 (by decide))
    have wJ_129_3 : (hJ 129 3).toInt = (h 129 3).toInt := congrArg Int32.toInt (A.get 129 3 (by decide))
    refine lv_aload_n hx hb dX11_tellPane_104 rfl (lv_at hl 0 rfl) ?_
    refine pg_r M V 11 4 (c_is_0 S) pC11 fk11_4 (c_r_0_4 S) lkF_X11_40 dX11_tellPane_105 ?_
    refine pg_i M V 1 0 (c_is_122 S) pC1 fk1_0 lkF_X11_341 dX11_tellPane_108 ?_
    refine lv_topi (fun v16 ev16 => ?_)
    refine lv_iload hx hb dX11_tellPane_111 (lv_at hl 5 rfl) ?_
    refine lv_icmp_ne (tgt := 160) hx hb dX11_tellPane_113 (by decide) (fun c_113 => ?_) (fun c_113 => ?_)
    · skip
      have c_113 := pi_ne c_113
      exact J_160 x104_5 x104_6 _ _ _ _ V I L (A.wk (by decide)) (lv_sub hl [0, 1, 2, 3, 4, 5, 6] rfl) (by omega) 
    · skip
      have c_113 := pi_eq.mp c_113
      refine lv_aload_n hx hb dX11_tellPane_116 rfl (lv_at hl 0 rfl) ?_
      refine pg_r M V 11 0 (c_is_0 S) pC11 fk11_0 (c_r_0_0 S) lkF_X11_10 dX11_tellPane_117 ?_
      refine pg_i M V 5 15 (c_is_1 S) pC5 fk5_15 lkF_X11_433 dX11_tellPane_120 ?_
      refine lv_topi (fun v17 ev17 => ?_)
      have tv17 : 0 ≤ v17.toInt ∧ v17.toInt ≤ 1 := by rw [ev17]; exact I.get (c_is_1 S) 15
      refine lv_if_eq (tgt := 160) hx hb dX11_tellPane_123 (by decide) (fun c_123 => ?_) (fun c_123 => ?_)
      · skip
        have k_0 : (0 : Int32).toInt = 0 := rfl
        have c_123 := pi_eq.mp c_123
        exact J_160 x104_5 x104_6 _ _ _ _ V I L (A.wk (by decide)) (lv_sub hl [0, 1, 2, 3, 4, 5, 6] rfl) (by omega) 
      · skip
        have k_0 : (0 : Int32).toInt = 0 := rfl
        have c_123 := pi_ne c_123
        refine lv_aload_n hx hb dX11_tellPane_126 rfl (lv_at hl 0 rfl) ?_
        refine pg_r M V 11 4 (c_is_0 S) pC11 fk11_4 (c_r_0_4 S) lkF_X11_40 dX11_tellPane_127 ?_
        refine lv_iconst (v := 0) hx hb dX11_tellPane_130 (by decide) ?_
        refine pp_i M V 1 0 (c_is_122 S) pC1 fk1_0 rfl lkF_X11_341 ⟨rfl, rfl⟩ dX11_tellPane_131 (fun H locs V => ?_)
        have A := A.up (o := 122) (k := 0) (v := (0 : Int32)) (by decide)
        have I := I.up (k := 0) (v := (0 : Int32)) (c_is_122 S) (pi_full _)
        refine lv_aload_n hx hb dX11_tellPane_134 rfl (lv_at hl 0 rfl) ?_
        refine pg_r M V 11 0 (c_is_0 S) pC11 fk11_0 (c_r_0_0 S) lkF_X11_10 dX11_tellPane_135 ?_
        refine pk_i (pr_V M V (m_X5_isWherePressed l S I  ) km_X5_isWherePressed (c_is_1 S) pC5 lkM_X11_436 rfl hl.1 rfl (Nat.le_of_ble_eq_true rfl) ⟨Nat.le_of_ble_eq_true rfl, Nat.le_of_ble_eq_true rfl⟩ (g_r0 (by omega) (by omega)) dX11_tellPane_138) V (fun r18 Zr18 hr18 H locs pr18 _ _ V => ?_)
        obtain ⟨rfl, I, pA_r18, fr18_0⟩ := pr18
        have A := A.tr pA_r18 (by decide)
        have L := L.congr (pA_r18.get 129 2 (by decide)) (pA_r18.get 129 3 (by decide))
        have w_r18_129_2 : (hr18 129 2).toInt = (hJ 129 2).toInt := congrArg Int32.toInt (pA_r18.get 129 2 (by decide))
        have w_r18_129_3 : (hr18 129 3).toInt = (hJ 129 3).toInt := congrArg Int32.toInt (pA_r18.get 129 3 (by decide))
        refine lv_if_eq (tgt := 160) hx hb dX11_tellPane_141 (by decide) (fun c_141 => ?_) (fun c_141 => ?_)
        · skip
          have c_141 := pi_eq.mp c_141
          exact J_160 x104_5 x104_6 _ _ _ _ V I L (A.wk (by decide)) (lv_sub hl [0, 1, 2, 3, 4, 5, 6] rfl) (by omega) 
        · skip
          have c_141 := pi_ne c_141
          refine lv_aload_n hx hb dX11_tellPane_144 rfl (lv_at hl 2 rfl) ?_
          refine lv_aload_n hx hb dX11_tellPane_145 rfl (lv_at hl 2 rfl) ?_
          refine pg_i M V 7 7 ho2 pC7 fk7_7 lkF_X11_168 dX11_tellPane_146 ?_
          refine lv_topi (fun v19 ev19 => ?_)
          have tv19 : 0 ≤ v19.toInt ∧ v19.toInt ≤ 1 := by rw [ev19]; exact I.get ho2 7
          refine lv_if_ne (tgt := 156) hx hb dX11_tellPane_149 (by decide) (fun c_149 => ?_) (fun c_149 => ?_)
          · skip
            have c_149 := pi_ne c_149
            refine lv_iconst (v := 0) hx hb dX11_tellPane_156 (by decide) ?_
            exact J_157 x104_5 x104_6 (0 : Int32) _ _ _ _ V I L (A.wk (by decide)) (lv_sub hl [0, 1, 2, 3, 4, 5, 6] rfl) (by omega) (by omega) 
          · skip
            have c_149 := pi_eq.mp c_149
            refine lv_iconst (v := 1) hx hb dX11_tellPane_152 (by decide) ?_
            refine lv_goto (tgt := 157) hx hb dX11_tellPane_153 (by decide) ?_
            have k_1 : (1 : Int32).toInt = 1 := rfl
            exact J_157 x104_5 x104_6 (1 : Int32) _ _ _ _ V I L (A.wk (by decide)) (lv_sub hl [0, 1, 2, 3, 4, 5, 6] rfl) (by omega) (by omega) 
  have J_56 : ∀ (x56_5 : Int32) (x56_6 : Int32) (y56_0 : Int32) (y56_1 : Int32) (y56_2 : Int32) (hJ : pH) (H : Heap) (locs : List Loc) (ls : Array Slot), pV Z hJ s.heap H locs → Iv Z hJ → pLk Z hJ → agrD [] h hJ → lv_has ls 8 [(0, .ref (zB Z + 0)), (1, .int number), (2, .ref (zB Z + o2)), (3, .int width), (4, .int height), (5, .int x56_5), (6, .int x56_6)] → (0 ≤ x56_6.toInt ∧ x56_6.toInt ≤ 1) → W p l e (pRm 6 (gmc Z) (gms Z) 141) s m ([.ref (zB Z + 0), .int number, .ref (zB Z + o2), .int width, .int height] : List Value).toArray below meth c H locs (pPh Z - pPh Z) (2 * (pPh Z - pPh Z)) (MQ below (gQv Z (fun Z1 h1 k n => pGr Z Z1 ∧ pSk Z1 ∧ Iv Z1 h1 ∧ agrD [(122, 1000), (10, 4), (36, 4), (36, 5), (37, 1000), (38, 1000), (129, 2), (129, 3), (129, 4), (129, 5)] h h1 ∧ (k ≤ pPh Z1 - pPh Z ∧ n ≤ 2 * (pPh Z1 - pPh Z) ∧ pPh Z ≤ pPh Z1) ∧ pLk Z1 h1 ∧ ((h1 129 2).toInt ≤ (h 129 2).toInt + 2) ∧ ((h1 129 3).toInt ≤ (h 129 3).toInt + 2))) ([.ref (zB Z + 0), .int number, .ref (zB Z + o2), .int width, .int height] : List Value).toArray s (gmc Z) (gms Z) (pA (zB Z))) (F0 m 56 ls [.int y56_0, .int y56_1, .int y56_2, .ref (zB Z + o2)]) := by
    intro x56_5 x56_6 y56_0 y56_1 y56_2 hJ H locs ls V I L A hl g_56_6
    have wJ_129_2 : (hJ 129 2).toInt = (h 129 2).toInt := congrArg Int32.toInt (A.get 129 2 (by decide))
    have wJ_129_3 : (hJ 129 3).toInt = (h 129 3).toInt := congrArg Int32.toInt (A.get 129 3 (by decide))
    refine pk_v (pr_V M V (m_X7_tell l S I o2 ho2 y56_2 y56_1 y56_0 ) km_X7_tell ho2 pC7 lkM_X11_427 rfl hl.1 rfl (Nat.le_of_ble_eq_true rfl) ⟨Nat.le_of_ble_eq_true rfl, Nat.le_of_ble_eq_true rfl⟩ (g_r0 (by omega) (by omega)) dX11_tellPane_56) V (fun Zr20 hr20 H locs pr20 _ _ V => ?_)
    obtain ⟨rfl, I, pA_r20⟩ := pr20
    have A := A.tr pA_r20 (by decide)
    have L := L.congr (pA_r20.get 129 2 (by decide)) (pA_r20.get 129 3 (by decide))
    have w_r20_129_2 : (hr20 129 2).toInt = (hJ 129 2).toInt := congrArg Int32.toInt (pA_r20.get 129 2 (by decide))
    have w_r20_129_3 : (hr20 129 3).toInt = (hJ 129 3).toInt := congrArg Int32.toInt (pA_r20.get 129 3 (by decide))
    refine lv_iload hx hb dX11_tellPane_59 (lv_at hl 6 rfl) ?_
    refine lv_if_eq (tgt := 104) hx hb dX11_tellPane_61 (by decide) (fun c_61 => ?_) (fun c_61 => ?_)
    · skip
      have k_0 : (0 : Int32).toInt = 0 := rfl
      have c_61 := pi_eq.mp c_61
      exact J_104 x56_5 x56_6 _ _ _ _ V I L (A.wk (by decide)) (lv_sub hl [0, 1, 2, 3, 4, 5, 6] rfl) (by omega) 
    · skip
      have k_0 : (0 : Int32).toInt = 0 := rfl
      have c_61 := pi_ne c_61
      refine lv_aload_n hx hb dX11_tellPane_64 rfl (lv_at hl 0 rfl) ?_
      refine pg_r M V 11 0 (c_is_0 S) pC11 fk11_0 (c_r_0_0 S) lkF_X11_10 dX11_tellPane_65 ?_
      refine pg_i M V 5 14 (c_is_1 S) pC5 fk5_14 lkF_X11_413 dX11_tellPane_68 ?_
      refine lv_topi (fun v21 ev21 => ?_)
      have tv21 : 0 ≤ v21.toInt ∧ v21.toInt ≤ 1 := by rw [ev21]; exact I.get (c_is_1 S) 14
      refine lv_if_eq (tgt := 104) hx hb dX11_tellPane_71 (by decide) (fun c_71 => ?_) (fun c_71 => ?_)
      · skip
        have c_71 := pi_eq.mp c_71
        exact J_104 x56_5 x56_6 _ _ _ _ V I L (A.wk (by decide)) (lv_sub hl [0, 1, 2, 3, 4, 5, 6] rfl) (by omega) 
      · skip
        have c_71 := pi_ne c_71
        refine lv_aload_n hx hb dX11_tellPane_74 rfl (lv_at hl 0 rfl) ?_
        refine pg_r M V 11 4 (c_is_0 S) pC11 fk11_4 (c_r_0_4 S) lkF_X11_40 dX11_tellPane_75 ?_
        refine pg_i M V 1 0 (c_is_122 S) pC1 fk1_0 lkF_X11_341 dX11_tellPane_78 ?_
        refine lv_topi (fun v22 ev22 => ?_)
        refine lv_if_ne (tgt := 104) hx hb dX11_tellPane_81 (by decide) (fun c_81 => ?_) (fun c_81 => ?_)
        · skip
          have c_81 := pi_ne c_81
          exact J_104 x56_5 x56_6 _ _ _ _ V I L (A.wk (by decide)) (lv_sub hl [0, 1, 2, 3, 4, 5, 6] rfl) (by omega) 
        · skip
          have c_81 := pi_eq.mp c_81
          refine lv_aload_n hx hb dX11_tellPane_84 rfl (lv_at hl 2 rfl) ?_
          refine lv_aload_n hx hb dX11_tellPane_85 rfl (lv_at hl 0 rfl) ?_
          refine pg_r M V 11 0 (c_is_0 S) pC11 fk11_0 (c_r_0_0 S) lkF_X11_10 dX11_tellPane_86 ?_
          refine pk_i (pr_V M V (m_X7_hasInTitle l S I o2 ho2  ) km_X7_hasInTitle ho2 pC7 lkM_X11_429 rfl hl.1 rfl (Nat.le_of_ble_eq_true rfl) ⟨Nat.le_of_ble_eq_true rfl, Nat.le_of_ble_eq_true rfl⟩ (g_r0 (by omega) (by omega)) dX11_tellPane_89) V (fun r23 Zr23 hr23 H locs pr23 _ _ V => ?_)
          obtain ⟨rfl, I, pA_r23, fr23_0⟩ := pr23
          have A := A.tr pA_r23 (by decide)
          have L := L.congr (pA_r23.get 129 2 (by decide)) (pA_r23.get 129 3 (by decide))
          have w_r23_129_2 : (hr23 129 2).toInt = (hr20 129 2).toInt := congrArg Int32.toInt (pA_r23.get 129 2 (by decide))
          have w_r23_129_3 : (hr23 129 3).toInt = (hr20 129 3).toInt := congrArg Int32.toInt (pA_r23.get 129 3 (by decide))
          refine lv_if_eq (tgt := 104) hx hb dX11_tellPane_92 (by decide) (fun c_92 => ?_) (fun c_92 => ?_)
          · skip
            have c_92 := pi_eq.mp c_92
            exact J_104 x56_5 x56_6 _ _ _ _ V I L (A.wk (by decide)) (lv_sub hl [0, 1, 2, 3, 4, 5, 6] rfl) (by omega) 
          · skip
            have c_92 := pi_ne c_92
            refine lv_aload_n hx hb dX11_tellPane_95 rfl (lv_at hl 0 rfl) ?_
            refine pg_r M V 11 4 (c_is_0 S) pC11 fk11_4 (c_r_0_4 S) lkF_X11_40 dX11_tellPane_96 ?_
            refine lv_iload hx hb dX11_tellPane_99 (lv_at hl 5 rfl) ?_
            refine pp_i M V 1 0 (c_is_122 S) pC1 fk1_0 rfl lkF_X11_341 ⟨rfl, rfl⟩ dX11_tellPane_101 (fun H locs V => ?_)
            have A := A.wk (l3 := [(122, 0)]) (by decide)
            have A := A.up (o := 122) (k := 0) (v := x56_5) (by decide)
            have I := I.up (k := 0) (v := x56_5) (c_is_122 S) (pi_full _)
            exact J_104 x56_5 x56_6 _ _ _ _ V I L (A.wk (by decide)) (lv_sub hl [0, 1, 2, 3, 4, 5, 6] rfl) (by omega) 
  have J_55 : ∀ (x55_5 : Int32) (x55_6 : Int32) (y55_0 : Int32) (y55_1 : Int32) (hJ : pH) (H : Heap) (locs : List Loc) (ls : Array Slot), pV Z hJ s.heap H locs → Iv Z hJ → pLk Z hJ → agrD [] h hJ → lv_has ls 8 [(0, .ref (zB Z + 0)), (1, .int number), (2, .ref (zB Z + o2)), (3, .int width), (4, .int height), (5, .int x55_5), (6, .int x55_6)] → (0 ≤ x55_6.toInt ∧ x55_6.toInt ≤ 1) → W p l e (pRm 6 (gmc Z) (gms Z) 141) s m ([.ref (zB Z + 0), .int number, .ref (zB Z + o2), .int width, .int height] : List Value).toArray below meth c H locs (pPh Z - pPh Z) (2 * (pPh Z - pPh Z)) (MQ below (gQv Z (fun Z1 h1 k n => pGr Z Z1 ∧ pSk Z1 ∧ Iv Z1 h1 ∧ agrD [(122, 1000), (10, 4), (36, 4), (36, 5), (37, 1000), (38, 1000), (129, 2), (129, 3), (129, 4), (129, 5)] h h1 ∧ (k ≤ pPh Z1 - pPh Z ∧ n ≤ 2 * (pPh Z1 - pPh Z) ∧ pPh Z ≤ pPh Z1) ∧ pLk Z1 h1 ∧ ((h1 129 2).toInt ≤ (h 129 2).toInt + 2) ∧ ((h1 129 3).toInt ≤ (h 129 3).toInt + 2))) ([.ref (zB Z + 0), .int number, .ref (zB Z + o2), .int width, .int height] : List Value).toArray s (gmc Z) (gms Z) (pA (zB Z))) (F0 m 55 ls [.int y55_0, .int y55_1, .ref (zB Z + o2)]) := by
    intro x55_5 x55_6 y55_0 y55_1 hJ H locs ls V I L A hl g_55_6
    have wJ_129_2 : (hJ 129 2).toInt = (h 129 2).toInt := congrArg Int32.toInt (A.get 129 2 (by decide))
    have wJ_129_3 : (hJ 129 3).toInt = (h 129 3).toInt := congrArg Int32.toInt (A.get 129 3 (by decide))
    refine lv_iconst (v := 0) hx hb dX11_tellPane_55 (by decide) ?_
    exact J_56 x55_5 x55_6 (0 : Int32) y55_0 y55_1 _ _ _ _ V I L (A.wk (by decide)) (lv_sub hl [0, 1, 2, 3, 4, 5, 6] rfl) (by omega) 
  have J_23 : ∀ (x23_5 : Int32) (y23_0 : Int32) (hJ : pH) (H : Heap) (locs : List Loc) (ls : Array Slot), pV Z hJ s.heap H locs → Iv Z hJ → pLk Z hJ → agrD [] h hJ → lv_has ls 8 [(0, .ref (zB Z + 0)), (1, .int number), (2, .ref (zB Z + o2)), (3, .int width), (4, .int height), (5, .int x23_5)] → (0 ≤ y23_0.toInt ∧ y23_0.toInt ≤ 1) → W p l e (pRm 6 (gmc Z) (gms Z) 141) s m ([.ref (zB Z + 0), .int number, .ref (zB Z + o2), .int width, .int height] : List Value).toArray below meth c H locs (pPh Z - pPh Z) (2 * (pPh Z - pPh Z)) (MQ below (gQv Z (fun Z1 h1 k n => pGr Z Z1 ∧ pSk Z1 ∧ Iv Z1 h1 ∧ agrD [(122, 1000), (10, 4), (36, 4), (36, 5), (37, 1000), (38, 1000), (129, 2), (129, 3), (129, 4), (129, 5)] h h1 ∧ (k ≤ pPh Z1 - pPh Z ∧ n ≤ 2 * (pPh Z1 - pPh Z) ∧ pPh Z ≤ pPh Z1) ∧ pLk Z1 h1 ∧ ((h1 129 2).toInt ≤ (h 129 2).toInt + 2) ∧ ((h1 129 3).toInt ≤ (h 129 3).toInt + 2))) ([.ref (zB Z + 0), .int number, .ref (zB Z + o2), .int width, .int height] : List Value).toArray s (gmc Z) (gms Z) (pA (zB Z))) (F0 m 23 ls [.int y23_0]) := by
    intro x23_5 y23_0 hJ H locs ls V I L A hl gs_23_0
    have wJ_129_2 : (hJ 129 2).toInt = (h 129 2).toInt := congrArg Int32.toInt (A.get 129 2 (by decide))
    have wJ_129_3 : (hJ 129 3).toInt = (h 129 3).toInt := congrArg Int32.toInt (A.get 129 3 (by decide))
    refine lv_istore (lv' := [(6, .int y23_0), (0, .ref (zB Z + 0)), (1, .int number), (2, .ref (zB Z + o2)), (3, .int width), (4, .int height), (5, .int x23_5)]) hx hb dX11_tellPane_23 hl (by decide) rfl (fun ls hl => ?_)
    refine lv_aload_n hx hb dX11_tellPane_25 rfl (lv_at hl 3 rfl) ?_
    refine lv_iload_n hx hb dX11_tellPane_26 rfl (lv_at hl 4 rfl) ?_
    refine lv_iload hx hb dX11_tellPane_27 (lv_at hl 5 rfl) ?_
    refine lv_iload hx hb dX11_tellPane_29 (lv_at hl 0 rfl) ?_
    refine lv_if_eq (tgt := 55) hx hb dX11_tellPane_31 (by decide) (fun c_31 => ?_) (fun c_31 => ?_)
    · skip
      have k_0 : (0 : Int32).toInt = 0 := rfl
      have c_31 := pi_eq.mp c_31
      exact J_55 x23_5 y23_0 height width _ _ _ _ V I L (A.wk (by decide)) (lv_sub hl [1, 2, 3, 4, 5, 6, 0] rfl) (by omega) 
    · skip
      have k_0 : (0 : Int32).toInt = 0 := rfl
      have c_31 := pi_ne c_31
      refine lv_aload_n hx hb dX11_tellPane_34 rfl (lv_at hl 1 rfl) ?_
      refine pg_r M V 11 2 (c_is_0 S) pC11 fk11_2 (c_r_0_2 S) lkF_X11_26 dX11_tellPane_35 ?_
      refine pg_i M V 6 6 (c_is_22 S) pC6 fk6_6 lkF_X11_424 dX11_tellPane_38 ?_
      refine lv_topi (fun v24 ev24 => ?_)
      refine lv_iconst (v := (-1)) hx hb dX11_tellPane_41 (by decide) ?_
      refine lv_icmp_ne (tgt := 55) hx hb dX11_tellPane_42 (by decide) (fun c_42 => ?_) (fun c_42 => ?_)
      · skip
        have k_m1 : (-1 : Int32).toInt = -1 := rfl
        have c_42 := pi_ne c_42
        exact J_55 x23_5 y23_0 height width _ _ _ _ V I L (A.wk (by decide)) (lv_sub hl [1, 2, 3, 4, 5, 6, 0] rfl) (by omega) 
      · skip
        have k_m1 : (-1 : Int32).toInt = -1 := rfl
        have c_42 := pi_eq.mp c_42
        refine lv_aload_n hx hb dX11_tellPane_45 rfl (lv_at hl 1 rfl) ?_
        refine pg_r M V 11 0 (c_is_0 S) pC11 fk11_0 (c_r_0_0 S) lkF_X11_10 dX11_tellPane_46 ?_
        refine pg_i M V 5 6 (c_is_1 S) pC5 fk5_6 lkF_X11_293 dX11_tellPane_49 ?_
        refine lv_topi (fun v25 ev25 => ?_)
        refine lv_goto (tgt := 56) hx hb dX11_tellPane_52 (by decide) ?_
        exact J_56 x23_5 y23_0 v25 height width _ _ _ _ V I L (A.wk (by decide)) (lv_sub hl [1, 2, 3, 4, 5, 6, 0] rfl) (by omega) 
  refine W.widen (k := pPh Z - pPh Z) (n := 2 * (pPh Z - pPh Z)) (Nat.zero_le _) (Nat.zero_le _) ?_
  refine lv_sipush (v := 1000) hx hb dX11_tellPane_0 (by decide) ?_
  refine lv_iload_n hx hb dX11_tellPane_3 rfl (lv_at hl 1 rfl) ?_
  refine lv_iadd hx hb dX11_tellPane_4 ?_
  refine lv_topi (fun v26 ev26 => ?_)
  refine lv_istore (lv' := [(5, .int v26), (0, .ref (zB Z + 0)), (1, .int number), (2, .ref (zB Z + o2)), (3, .int width), (4, .int height)]) hx hb dX11_tellPane_5 hl (by decide) rfl (fun ls hl => ?_)
  refine lv_aload_n hx hb dX11_tellPane_7 rfl (lv_at hl 1 rfl) ?_
  refine pg_r M V 11 1 (c_is_0 S) pC11 fk11_1 (c_r_0_1 S) lkF_X11_19 dX11_tellPane_8 ?_
  refine pg_i M V 3 3 (c_is_10 S) pC3 fk3_3 lkF_X11_103 dX11_tellPane_11 ?_
  refine lv_topi (fun v27 ev27 => ?_)
  refine lv_iload_n hx hb dX11_tellPane_14 rfl (lv_at hl 2 rfl) ?_
  refine lv_icmp_ne (tgt := 22) hx hb dX11_tellPane_15 (by decide) (fun c_15 => ?_) (fun c_15 => ?_)
  · skip
    have c_15 := pi_ne c_15
    refine lv_iconst (v := 0) hx hb dX11_tellPane_22 (by decide) ?_
    have k_0 : (0 : Int32).toInt = 0 := rfl
    exact J_23 v26 (0 : Int32) _ _ _ _ V I L (A.wk (by decide)) (lv_sub hl [1, 2, 3, 4, 5, 0] rfl) (by omega) 
  · skip
    have c_15 := pi_eq.mp c_15
    refine lv_iconst (v := 1) hx hb dX11_tellPane_18 (by decide) ?_
    refine lv_goto (tgt := 23) hx hb dX11_tellPane_19 (by decide) ?_
    have k_1 : (1 : Int32).toInt = 1 := rfl
    exact J_23 v26 (1 : Int32) _ _ _ _ V I L (A.wk (by decide)) (lv_sub hl [1, 2, 3, 4, 5, 0] rfl) (by omega) 
theorem dX11_showPane_0 : decode cX11_showPane 0 = .ok (.aload_n 1, 1) := by decide +kernel
theorem dX11_showPane_1 : decode cX11_showPane 1 = .ok (.getfield 153, 3) := by decide +kernel
theorem dX11_showPane_4 : decode cX11_showPane 4 = .ok (.ifCond .eq 15, 3) := by decide +kernel
theorem dX11_showPane_7 : decode cX11_showPane 7 = .ok (.aload_n 0, 1) := by decide +kernel
theorem dX11_showPane_8 : decode cX11_showPane 8 = .ok (.getfield 58, 3) := by decide +kernel
theorem dX11_showPane_11 : decode cX11_showPane 11 = .ok (.aload_n 0, 1) := by decide +kernel
theorem dX11_showPane_12 : decode cX11_showPane 12 = .ok (.getfield 54, 3) := by decide +kernel
theorem dX11_showPane_15 : decode cX11_showPane 15 = .ok (.aload_n 1, 1) := by decide +kernel
theorem dX11_showPane_16 : decode cX11_showPane 16 = .ok (.invokevirtual 489, 3) := by decide +kernel
theorem dX11_showPane_19 : decode cX11_showPane 19 = .ok (.return_, 1) := by decide +kernel
set_option maxHeartbeats 4000000 in
set_option maxRecDepth 100000 in
theorem m_X11_showPane (l : Launch) {Z : pZ} (S : pSh Z) {h : pH} (I : Iv Z h) (o2 : Nat) (ho2 : pIs Z o2 7) (K : pSk Z) (L : pLk Z h) (hq : (h 129 2).toInt ≤ 990 ∧ (h 129 3).toInt ≤ 990 ∧ (h 132 2).toInt ≤ 8000 ∧ (h 132 3).toInt ≤ 8000) : pMet l yX11_showPane cX11_showPane 2 none 4 (gmc Z) (gms Z) 93 Z h [.ref (zB Z + 0), .ref (zB Z + o2)] (gQv Z (fun Z1 h1 k n => pGr Z Z1 ∧ pSk Z1 ∧ Iv Z1 h1 ∧ agrD [(132, 2), (132, 3)] h h1 ∧ (k ≤ pPh Z1 - pPh Z ∧ n ≤ 2 * (pPh Z1 - pPh Z) ∧ pPh Z ≤ pPh Z1) ∧ pLk Z1 h1 ∧ ((h1 132 2).toInt ≤ (h 132 2).toInt + 990) ∧ ((h1 132 3).toInt ≤ (h 132 3).toInt + 990))) := by
  refine pOfW (lv := [(0, .ref (zB Z + 0)), (1, .ref (zB Z + o2))]) (by decide) (Nat.le_of_ble_eq_true rfl) rfl ?_
  intro p e s m below meth c ls M hr hlk hnm V hl
  have hx := M.1.1
  have hb := M.1.2.1
  have A : agrD [] h h := agrD.rf
  have hP0 : pPh Z ≤ pPh Z := Nat.le_refl _
  have hPm := K.ph
  have GR : pGr Z Z := pGr.rf
  refine W.widen (k := pPh Z - pPh Z) (n := 2 * (pPh Z - pPh Z)) (Nat.zero_le _) (Nat.zero_le _) ?_
  refine lv_aload_n hx hb dX11_showPane_0 rfl (lv_at hl 1 rfl) ?_
  refine pg_i M V 7 9 ho2 pC7 fk7_9 lkF_X11_153 dX11_showPane_1 ?_
  refine lv_topi (fun v1 ev1 => ?_)
  have tv1 : 0 ≤ v1.toInt ∧ v1.toInt ≤ 1 := by rw [ev1]; exact I.get ho2 9
  refine lv_if_eq (tgt := 19) hx hb dX11_showPane_4 (by decide) (fun c_4 => ?_) (fun c_4 => ?_)
  · skip
    have k_0 : (0 : Int32).toInt = 0 := rfl
    have c_4 := pi_eq.mp c_4
    exact ge_v (Z := Z) (Z' := Z) M V rfl rfl hr hlk ⟨GR, K, I, A.wk (by decide), ⟨by omega, by omega, hP0⟩, L, (show (h 132 2).toInt ≤ (h 132 2).toInt + 990 by omega), (show (h 132 3).toInt ≤ (h 132 3).toInt + 990 by omega)⟩ (g_re (by omega) (by omega) hPm) dX11_showPane_19
  · skip
    have k_0 : (0 : Int32).toInt = 0 := rfl
    have c_4 := pi_ne c_4
    refine lv_aload_n hx hb dX11_showPane_7 rfl (lv_at hl 0 rfl) ?_
    refine pg_r M V 11 7 (c_is_0 S) pC11 fk11_7 (c_r_0_7 S) lkF_X11_58 dX11_showPane_8 ?_
    refine lv_aload_n hx hb dX11_showPane_11 rfl (lv_at hl 0 rfl) ?_
    refine pg_r M V 11 6 (c_is_0 S) pC11 fk11_6 (c_r_0_6 S) lkF_X11_54 dX11_showPane_12 ?_
    refine lv_aload_n hx hb dX11_showPane_15 rfl (lv_at hl 1 rfl) ?_
    refine gz_v Z rfl rfl (pr_V M V (m_X9_append l S I  o2 ho2 K L (by omega)) km_X9_append (c_is_132 S) pC9 lkM_X11_489 rfl hl.1 rfl (Nat.le_of_ble_eq_true rfl) ⟨Nat.le_of_ble_eq_true rfl, Nat.le_of_ble_eq_true rfl⟩ (g_rg (by omega) (by omega) hP0 hPm) dX11_showPane_16) V (fun yr2 hr2 kr2 nr2 H locs pr2 V => ?_)
    obtain ⟨gr2, K, I, pA_r2, br2, L, fr2_0, fr2_1⟩ := pr2
    have A := A.wk (l3 := [(132, 2), (132, 3)]) (by decide)
    have A := A.tr pA_r2 (by decide)
    have isr2_1 := gr2.is ho2
    have S := S.gr (Z1 := (gW Z yr2)) rfl gr2
    have M := pM.to (gW Z yr2) rfl M
    have GR := GR.tr gr2
    have hP0 : pPh Z ≤ pPh (gW Z yr2) := by omega
    have hPm := K.ph
    refine W.widen (k := pPh (gW Z yr2) - pPh Z) (n := 2 * (pPh (gW Z yr2) - pPh Z)) (by omega) (by omega) ?_
    have w_r2_129_2 : (hr2 129 2).toInt = (h 129 2).toInt := congrArg Int32.toInt (pA_r2.get 129 2 (by decide))
    have w_r2_129_3 : (hr2 129 3).toInt = (h 129 3).toInt := congrArg Int32.toInt (pA_r2.get 129 3 (by decide))
    exact ge_v (Z := Z) (Z' := (gW Z yr2)) M V rfl rfl hr hlk ⟨GR, K, I, A.wk (by decide), ⟨by omega, by omega, hP0⟩, L, (show (hr2 132 2).toInt ≤ (h 132 2).toInt + 990 by omega), (show (hr2 132 3).toInt ≤ (h 132 3).toInt + 990 by omega)⟩ (g_re (by omega) (by omega) hPm) dX11_showPane_19
theorem dX11_composeDrawing_0 : decode cX11_composeDrawing 0 = .ok (.aload_n 0, 1) := by decide +kernel
theorem dX11_composeDrawing_1 : decode cX11_composeDrawing 1 = .ok (.getfield 58, 3) := by decide +kernel
theorem dX11_composeDrawing_4 : decode cX11_composeDrawing 4 = .ok (.invokevirtual 123, 3) := by decide +kernel
theorem dX11_composeDrawing_7 : decode cX11_composeDrawing 7 = .ok (.iconst 0, 1) := by decide +kernel
theorem dX11_composeDrawing_8 : decode cX11_composeDrawing 8 = .ok (.istore_n 1, 1) := by decide +kernel
theorem dX11_composeDrawing_9 : decode cX11_composeDrawing 9 = .ok (.iload_n 1, 1) := by decide +kernel
theorem dX11_composeDrawing_10 : decode cX11_composeDrawing 10 = .ok (.bipush 8, 2) := by decide +kernel
theorem dX11_composeDrawing_12 : decode cX11_composeDrawing 12 = .ok (.if_icmp .ge 28, 3) := by decide +kernel
theorem dX11_composeDrawing_15 : decode cX11_composeDrawing 15 = .ok (.aload_n 0, 1) := by decide +kernel
theorem dX11_composeDrawing_16 : decode cX11_composeDrawing 16 = .ok (.aload_n 0, 1) := by decide +kernel
theorem dX11_composeDrawing_17 : decode cX11_composeDrawing 17 = .ok (.getfield 19, 3) := by decide +kernel
theorem dX11_composeDrawing_20 : decode cX11_composeDrawing 20 = .ok (.aload_n 0, 1) := by decide +kernel
theorem dX11_composeDrawing_21 : decode cX11_composeDrawing 21 = .ok (.getfield 19, 3) := by decide +kernel
theorem dX11_composeDrawing_24 : decode cX11_composeDrawing 24 = .ok (.iload_n 1, 1) := by decide +kernel
theorem dX11_composeDrawing_25 : decode cX11_composeDrawing 25 = .ok (.invokevirtual 482, 3) := by decide +kernel
theorem dX11_composeDrawing_28 : decode cX11_composeDrawing 28 = .ok (.invokevirtual 149, 3) := by decide +kernel
theorem dX11_composeDrawing_31 : decode cX11_composeDrawing 31 = .ok (.invokevirtual 485, 3) := by decide +kernel
theorem dX11_composeDrawing_34 : decode cX11_composeDrawing 34 = .ok (.iinc 1 1, 3) := by decide +kernel
theorem dX11_composeDrawing_37 : decode cX11_composeDrawing 37 = .ok (.goto (-28), 3) := by decide +kernel
theorem dX11_composeDrawing_40 : decode cX11_composeDrawing 40 = .ok (.aload_n 0, 1) := by decide +kernel
theorem dX11_composeDrawing_41 : decode cX11_composeDrawing 41 = .ok (.aload_n 0, 1) := by decide +kernel
theorem dX11_composeDrawing_42 : decode cX11_composeDrawing 42 = .ok (.getfield 19, 3) := by decide +kernel
theorem dX11_composeDrawing_45 : decode cX11_composeDrawing 45 = .ok (.bipush 8, 2) := by decide +kernel
theorem dX11_composeDrawing_47 : decode cX11_composeDrawing 47 = .ok (.invokevirtual 149, 3) := by decide +kernel
theorem dX11_composeDrawing_50 : decode cX11_composeDrawing 50 = .ok (.invokevirtual 485, 3) := by decide +kernel
theorem dX11_composeDrawing_53 : decode cX11_composeDrawing 53 = .ok (.return_, 1) := by decide +kernel
set_option maxHeartbeats 4000000 in
set_option maxRecDepth 100000 in
theorem m_X11_composeDrawing (l : Launch) {Z : pZ} (S : pSh Z) {h : pH} (I : Iv Z h) (K : pSk Z) (L : pLk Z h) (hq : (h 129 2).toInt ≤ 990 ∧ (h 129 3).toInt ≤ 990) : pMet l yX11_composeDrawing cX11_composeDrawing 2 none 5 (gmc Z) (gms Z) 114 Z h [.ref (zB Z + 0)] (gQv Z (fun Z1 h1 k n => pGr Z Z1 ∧ pSk Z1 ∧ Iv Z1 h1 ∧ agrD [(132, 1000)] h h1 ∧ (k ≤ pPh Z1 - pPh Z ∧ n ≤ 2 * (pPh Z1 - pPh Z) ∧ pPh Z ≤ pPh Z1) ∧ pLk Z1 h1)) := by
  refine pOfW (lv := [(0, .ref (zB Z + 0))]) (by decide) (Nat.le_of_ble_eq_true rfl) rfl ?_
  intro p e s m below meth c ls M hr hlk hnm V hl
  have hx := M.1.1
  have hb := M.1.2.1
  have A : agrD [] h h := agrD.rf
  have hP0 : pPh Z ≤ pPh Z := Nat.le_refl _
  have hPm := K.ph
  have GR : pGr Z Z := pGr.rf
  have J_9 : ∀ (n9 : Nat) (x9_1 : Int32) (yJ : pY) (hJ : pH) (H : Heap) (locs : List Loc) (ls : Array Slot), pGr Z (gW Z yJ) → pSk (gW Z yJ) → pPh Z ≤ pPh (gW Z yJ) → pV (gW Z yJ) hJ s.heap H locs → Iv (gW Z yJ) hJ → pLk (gW Z yJ) hJ → agrD [(132, 1000)] h hJ → lv_has ls 2 [(0, .ref (zB Z + 0)), (1, .int x9_1)] → (0 ≤ x9_1.toInt ∧ x9_1.toInt ≤ 8) → ((hJ 132 2).toInt ≤ 990 * x9_1.toInt ∧ (hJ 132 3).toInt ≤ 990 * x9_1.toInt) → (8 - x9_1.toInt).toNat < n9 → W p l e (pRm 5 (gmc Z) (gms Z) 114) s m ([.ref (zB Z + 0)] : List Value).toArray below meth c H locs (pPh (gW Z yJ) - pPh Z) (2 * (pPh (gW Z yJ) - pPh Z)) (MQ below (gQv Z (fun Z1 h1 k n => pGr Z Z1 ∧ pSk Z1 ∧ Iv Z1 h1 ∧ agrD [(132, 1000)] h h1 ∧ (k ≤ pPh Z1 - pPh Z ∧ n ≤ 2 * (pPh Z1 - pPh Z) ∧ pPh Z ≤ pPh Z1) ∧ pLk Z1 h1)) ([.ref (zB Z + 0)] : List Value).toArray s (gmc Z) (gms Z) (pA (zB Z))) (F0 m 9 ls []) := by
    intro n9
    induction n9 with
    | zero => intro x9_1 yJ hJ H locs ls GR K hP0 V I L A hl g_9_1 cq hm9; exact absurd hm9 (Nat.not_lt_zero _)
    | succ n9 ih_9 =>
      intro x9_1 yJ hJ H locs ls GR K hP0 V I L A hl g_9_1 cq hm9
      have wJ_129_2 : (hJ 129 2).toInt = (h 129 2).toInt := congrArg Int32.toInt (A.get 129 2 (by decide))
      have wJ_129_3 : (hJ 129 3).toInt = (h 129 3).toInt := congrArg Int32.toInt (A.get 129 3 (by decide))
      have S := S.gr (Z1 := (gW Z yJ)) rfl GR
      have M := pM.to (gW Z yJ) rfl M
      have hPm := K.ph
      refine lv_iload_n hx hb dX11_composeDrawing_9 rfl (lv_at hl 1 rfl) ?_
      refine lv_bipush (v := 8) hx hb dX11_composeDrawing_10 (by decide) ?_
      refine lv_icmp_ge (tgt := 40) hx hb dX11_composeDrawing_12 (by decide) (fun c_12 => ?_) (fun c_12 => ?_)
      · skip
        have k_8 : (8 : Int32).toInt = 8 := rfl
        have c_12 := pi_le.mp c_12
        refine lv_aload_n hx hb dX11_composeDrawing_40 rfl (lv_at hl 0 rfl) ?_
        refine lv_aload_n hx hb dX11_composeDrawing_41 rfl (lv_at hl 0 rfl) ?_
        refine pg_r (Z := (gW Z yJ)) M V 11 1 (c_is_0 S) pC11 fk11_1 (c_r_0_1 S) lkF_X11_19 dX11_composeDrawing_42 ?_
        refine lv_bipush (v := 8) hx hb dX11_composeDrawing_45 (by decide) ?_
        refine pk_r (pr_V (Z := (gW Z yJ)) M V (m_X3_paneOf l S I (8 : Int32)) km_X3_paneOf (c_is_10 S) pC3 lkM_X11_149 rfl hl.1 rfl (Nat.le_of_ble_eq_true rfl) ⟨Nat.le_of_ble_eq_true rfl, Nat.le_of_ble_eq_true rfl⟩ (g_r0 (by omega) (by omega)) dX11_composeDrawing_47) V (fun r1 Zr1 hr1 H locs pr1 _ _ V => ?_)
        obtain ⟨rfl, rfl, fr1_0⟩ := pr1
        refine gz_v (Z := (gW Z yJ)) Z rfl rfl (pr_V (Z := (gW Z yJ)) M V (m_X11_showPane l S I r1 fr1_0 K L (by omega)) km_X11_showPane (c_is_0 S) pC11 lkM_X11_485 rfl hl.1 rfl (Nat.le_of_ble_eq_true rfl) ⟨Nat.le_of_ble_eq_true rfl, Nat.le_of_ble_eq_true rfl⟩ (g_rg (by omega) (by omega) hP0 hPm) dX11_composeDrawing_50) V (fun yr2 hr2 kr2 nr2 H locs pr2 V => ?_)
        obtain ⟨gr2, K, I, pA_r2, br2, L, fr2_0, fr2_1⟩ := pr2
        have A := A.tr pA_r2 (by decide)
        have S := S.gr (Z1 := (gW Z yr2)) rfl gr2
        have M := pM.to (gW Z yr2) rfl M
        have GR := GR.tr gr2
        have hP0 : pPh Z ≤ pPh (gW Z yr2) := by omega
        have hPm := K.ph
        refine W.widen (k := pPh (gW Z yr2) - pPh Z) (n := 2 * (pPh (gW Z yr2) - pPh Z)) (by omega) (by omega) ?_
        have w_r2_129_2 : (hr2 129 2).toInt = (hJ 129 2).toInt := congrArg Int32.toInt (pA_r2.get 129 2 (by decide))
        have w_r2_129_3 : (hr2 129 3).toInt = (hJ 129 3).toInt := congrArg Int32.toInt (pA_r2.get 129 3 (by decide))
        exact ge_v (Z := Z) (Z' := (gW Z yr2)) M V rfl rfl hr hlk ⟨GR, K, I, A.wk (by decide), ⟨by omega, by omega, hP0⟩, L⟩ (g_re (by omega) (by omega) hPm) dX11_composeDrawing_53
      · skip
        have k_8 : (8 : Int32).toInt = 8 := rfl
        have c_12 := pi_le' c_12
        refine lv_aload_n hx hb dX11_composeDrawing_15 rfl (lv_at hl 0 rfl) ?_
        refine lv_aload_n hx hb dX11_composeDrawing_16 rfl (lv_at hl 0 rfl) ?_
        refine pg_r (Z := (gW Z yJ)) M V 11 1 (c_is_0 S) pC11 fk11_1 (c_r_0_1 S) lkF_X11_19 dX11_composeDrawing_17 ?_
        refine lv_aload_n hx hb dX11_composeDrawing_20 rfl (lv_at hl 0 rfl) ?_
        refine pg_r (Z := (gW Z yJ)) M V 11 1 (c_is_0 S) pC11 fk11_1 (c_r_0_1 S) lkF_X11_19 dX11_composeDrawing_21 ?_
        refine lv_iload_n hx hb dX11_composeDrawing_24 rfl (lv_at hl 1 rfl) ?_
        refine pk_i (pr_V (Z := (gW Z yJ)) M V (m_X3_windowAt l S I x9_1 ) km_X3_windowAt (c_is_10 S) pC3 lkM_X11_482 rfl hl.1 rfl (Nat.le_of_ble_eq_true rfl) ⟨Nat.le_of_ble_eq_true rfl, Nat.le_of_ble_eq_true rfl⟩ (g_r0 (by omega) (by omega)) dX11_composeDrawing_25) V (fun r3 Zr3 hr3 H locs pr3 _ _ V => ?_)
        obtain ⟨rfl, I, pA_r3⟩ := pr3
        have A := A.tr pA_r3 (by decide)
        have L := L.congr (pA_r3.get 129 2 (by decide)) (pA_r3.get 129 3 (by decide))
        have w_r3_129_2 : (hr3 129 2).toInt = (hJ 129 2).toInt := congrArg Int32.toInt (pA_r3.get 129 2 (by decide))
        have w_r3_129_3 : (hr3 129 3).toInt = (hJ 129 3).toInt := congrArg Int32.toInt (pA_r3.get 129 3 (by decide))
        have w_r3_132_2 : (hr3 132 2).toInt = (hJ 132 2).toInt := congrArg Int32.toInt (pA_r3.get 132 2 (by decide))
        have w_r3_132_3 : (hr3 132 3).toInt = (hJ 132 3).toInt := congrArg Int32.toInt (pA_r3.get 132 3 (by decide))
        refine pk_r (pr_V (Z := (gW Z yJ)) M V (m_X3_paneOf l S I r3) km_X3_paneOf (c_is_10 S) pC3 lkM_X11_149 rfl hl.1 rfl (Nat.le_of_ble_eq_true rfl) ⟨Nat.le_of_ble_eq_true rfl, Nat.le_of_ble_eq_true rfl⟩ (g_r0 (by omega) (by omega)) dX11_composeDrawing_28) V (fun r4 Zr4 hr4 H locs pr4 _ _ V => ?_)
        obtain ⟨rfl, rfl, fr4_0⟩ := pr4
        refine gz_v (Z := (gW Z yJ)) Z rfl rfl (pr_V (Z := (gW Z yJ)) M V (m_X11_showPane l S I r4 fr4_0 K L (by omega)) km_X11_showPane (c_is_0 S) pC11 lkM_X11_485 rfl hl.1 rfl (Nat.le_of_ble_eq_true rfl) ⟨Nat.le_of_ble_eq_true rfl, Nat.le_of_ble_eq_true rfl⟩ (g_rg (by omega) (by omega) hP0 hPm) dX11_composeDrawing_31) V (fun yr5 hr5 kr5 nr5 H locs pr5 V => ?_)
        obtain ⟨gr5, K, I, pA_r5, br5, L, fr5_0, fr5_1⟩ := pr5
        have A := A.tr pA_r5 (by decide)
        have S := S.gr (Z1 := (gW Z yr5)) rfl gr5
        have M := pM.to (gW Z yr5) rfl M
        have GR := GR.tr gr5
        have hP0 : pPh Z ≤ pPh (gW Z yr5) := by omega
        have hPm := K.ph
        refine W.widen (k := pPh (gW Z yr5) - pPh Z) (n := 2 * (pPh (gW Z yr5) - pPh Z)) (by omega) (by omega) ?_
        have w_r5_129_2 : (hr5 129 2).toInt = (hr3 129 2).toInt := congrArg Int32.toInt (pA_r5.get 129 2 (by decide))
        have w_r5_129_3 : (hr5 129 3).toInt = (hr3 129 3).toInt := congrArg Int32.toInt (pA_r5.get 129 3 (by decide))
        obtain ⟨v6, ev6⟩ : ∃ y : Int32, y = x9_1 + 1 := ⟨_, rfl⟩
        refine lv_iinc (v := v6) (lv' := [(1, .int v6), (0, .ref (zB Z + 0))]) hx hb dX11_composeDrawing_34 hl (k := 1) rfl (by rw [ev6]; rfl) (by decide) rfl (fun ls hl => ?_)
        refine lv_goto (tgt := 9) hx hb dX11_composeDrawing_37 (by decide) ?_
        have k_1 : (1 : Int32).toInt = 1 := rfl
        have tv6 : v6.toInt = x9_1.toInt + 1 := by rw [ev6]; have z9 := pi_add (x := x9_1) (y := (1 : Int32)); rw [k_1] at z9; exact z9 (by omega)
        exact ih_9 v6 _ _ _ _ _ GR K hP0 V I L (A.wk (by decide)) (lv_sub hl [1, 0] rfl) (by omega) (by omega) (by omega) 
  refine W.widen (k := pPh Z - pPh Z) (n := 2 * (pPh Z - pPh Z)) (Nat.zero_le _) (Nat.zero_le _) ?_
  refine lv_aload_n hx hb dX11_composeDrawing_0 rfl (lv_at hl 0 rfl) ?_
  refine pg_r M V 11 7 (c_is_0 S) pC11 fk11_7 (c_r_0_7 S) lkF_X11_58 dX11_composeDrawing_1 ?_
  refine pk_v (pr_V M V (m_X9_clear_132 l S I  ) km_X9_clear (c_is_132 S) pC9 lkM_X11_123 rfl hl.1 rfl (Nat.le_of_ble_eq_true rfl) ⟨Nat.le_of_ble_eq_true rfl, Nat.le_of_ble_eq_true rfl⟩ (g_r0 (by omega) (by omega)) dX11_composeDrawing_4) V (fun Zr7 hr7 H locs pr7 _ _ V => ?_)
  obtain ⟨rfl, I, pA_r7, fr7_0⟩ := pr7
  have A := A.wk (l3 := [(132, 1000)]) (by decide)
  have A := A.tr pA_r7 (by decide)
  have L := L.congr (pA_r7.get 129 2 (by decide)) (pA_r7.get 129 3 (by decide))
  have w_r7_129_2 : (hr7 129 2).toInt = (h 129 2).toInt := congrArg Int32.toInt (pA_r7.get 129 2 (by decide))
  have w_r7_129_3 : (hr7 129 3).toInt = (h 129 3).toInt := congrArg Int32.toInt (pA_r7.get 129 3 (by decide))
  refine lv_iconst (v := 0) hx hb dX11_composeDrawing_7 (by decide) ?_
  refine lv_istore_n (lv' := [(1, .int (0 : Int32)), (0, .ref (zB Z + 0))]) hx hb dX11_composeDrawing_8 rfl hl (by decide) rfl (fun ls hl => ?_)
  have k_0 : (0 : Int32).toInt = 0 := rfl
  exact J_9 _ (0 : Int32) Z.2.2 _ _ _ _ GR K hP0 V I L (A.wk (by decide)) (lv_sub hl [1, 0] rfl) (by omega) (by omega) (Nat.lt_succ_self _) 
