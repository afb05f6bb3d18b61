theorem dX9_draw_0 : decode cX9_draw 0 = .ok (.aload_n 1, 1) := by decide +kernel
theorem dX9_draw_1 : decode cX9_draw 1 = .ok (.aload 4, 2) := by decide +kernel
theorem dX9_draw_3 : decode cX9_draw 3 = .ok (.invokevirtual 34, 3) := by decide +kernel
theorem dX9_draw_6 : decode cX9_draw 6 = .ok (.ifCond .eq 13, 3) := by decide +kernel
theorem dX9_draw_9 : decode cX9_draw 9 = .ok (.aload_n 0, 1) := by decide +kernel
theorem dX9_draw_10 : decode cX9_draw 10 = .ok (.getfield 18, 3) := by decide +kernel
theorem dX9_draw_13 : decode cX9_draw 13 = .ok (.sipush 8192, 3) := by decide +kernel
theorem dX9_draw_16 : decode cX9_draw 16 = .ok (.if_icmp .lt 4, 3) := by decide +kernel
theorem dX9_draw_19 : decode cX9_draw 19 = .ok (.return_, 1) := by decide +kernel
theorem dX9_draw_20 : decode cX9_draw 20 = .ok (.aload_n 0, 1) := by decide +kernel
theorem dX9_draw_21 : decode cX9_draw 21 = .ok (.getfield 18, 3) := by decide +kernel
theorem dX9_draw_24 : decode cX9_draw 24 = .ok (.aload_n 0, 1) := by decide +kernel
theorem dX9_draw_25 : decode cX9_draw 25 = .ok (.getfield 28, 3) := by decide +kernel
theorem dX9_draw_28 : decode cX9_draw 28 = .ok (.isub, 1) := by decide +kernel
theorem dX9_draw_29 : decode cX9_draw 29 = .ok (.iconst 4, 1) := by decide +kernel
theorem dX9_draw_30 : decode cX9_draw 30 = .ok (.imul, 1) := by decide +kernel
theorem dX9_draw_31 : decode cX9_draw 31 = .ok (.istore 5, 2) := by decide +kernel
theorem dX9_draw_33 : decode cX9_draw 33 = .ok (.aload_n 0, 1) := by decide +kernel
theorem dX9_draw_34 : decode cX9_draw 34 = .ok (.iload 5, 2) := by decide +kernel
theorem dX9_draw_36 : decode cX9_draw 36 = .ok (.invokevirtual 40, 3) := by decide +kernel
theorem dX9_draw_39 : decode cX9_draw 39 = .ok (.istore 6, 2) := by decide +kernel
theorem dX9_draw_41 : decode cX9_draw 41 = .ok (.aload_n 0, 1) := by decide +kernel
theorem dX9_draw_42 : decode cX9_draw 42 = .ok (.iload 6, 2) := by decide +kernel
theorem dX9_draw_44 : decode cX9_draw 44 = .ok (.iload_n 3, 1) := by decide +kernel
theorem dX9_draw_45 : decode cX9_draw 45 = .ok (.aload 4, 2) := by decide +kernel
theorem dX9_draw_47 : decode cX9_draw 47 = .ok (.invokevirtual 44, 3) := by decide +kernel
theorem dX9_draw_50 : decode cX9_draw 50 = .ok (.ifCond .ne 12, 3) := by decide +kernel
theorem dX9_draw_53 : decode cX9_draw 53 = .ok (.aload_n 0, 1) := by decide +kernel
theorem dX9_draw_54 : decode cX9_draw 54 = .ok (.iload 6, 2) := by decide +kernel
theorem dX9_draw_56 : decode cX9_draw 56 = .ok (.iload_n 3, 1) := by decide +kernel
theorem dX9_draw_57 : decode cX9_draw 57 = .ok (.aload 4, 2) := by decide +kernel
theorem dX9_draw_59 : decode cX9_draw 59 = .ok (.invokevirtual 48, 3) := by decide +kernel
theorem dX9_draw_62 : decode cX9_draw 62 = .ok (.aload_n 0, 1) := by decide +kernel
theorem dX9_draw_63 : decode cX9_draw 63 = .ok (.invokevirtual 52, 3) := by decide +kernel
theorem dX9_draw_66 : decode cX9_draw 66 = .ok (.aload_n 0, 1) := by decide +kernel
theorem dX9_draw_67 : decode cX9_draw 67 = .ok (.aload_n 1, 1) := by decide +kernel
theorem dX9_draw_68 : decode cX9_draw 68 = .ok (.iload_n 2, 1) := by decide +kernel
theorem dX9_draw_69 : decode cX9_draw 69 = .ok (.iload 5, 2) := by decide +kernel
theorem dX9_draw_71 : decode cX9_draw 71 = .ok (.iload 6, 2) := by decide +kernel
theorem dX9_draw_73 : decode cX9_draw 73 = .ok (.isub, 1) := by decide +kernel
theorem dX9_draw_74 : decode cX9_draw 74 = .ok (.invokevirtual 55, 3) := by decide +kernel
theorem dX9_draw_77 : decode cX9_draw 77 = .ok (.return_, 1) := by decide +kernel
set_option maxHeartbeats 4000000 in
set_option maxRecDepth 100000 in
theorem m_X9_draw (l : Launch) {Z : pZ} (S : pSh Z) {h : pH} (I : Iv Z h) (o2 : Nat) (ho2 : pIs Z o2 2) (colour : Int32) (texture : Int32) (o3 : Nat) (ho3 : pIs Z o3 2) (K : pSk Z) (L : pLk Z h) (hq3 : (h 129 3).toInt ≤ 8999) : pMet l yX9_draw cX9_draw 7 none 4 (gmc Z) (gms Z) 93 Z h [.ref (zB Z + 129), .ref (zB Z + o2), .int colour, .int texture, .ref (zB Z + o3)] (gQv Z (fun Z1 h1 k n => pGr Z Z1 ∧ pSk Z1 ∧ Iv Z1 h1 ∧ agrD [(129, 2), (129, 3)] h h1 ∧ (k ≤ pPh Z1 - pPh Z ∧ n ≤ 2 * (pPh Z1 - pPh Z) ∧ pPh Z ≤ pPh Z1) ∧ pLk Z1 h1 ∧ ((h1 129 2).toInt ≤ (h 129 2).toInt + 1) ∧ ((h1 129 3).toInt ≤ (h 129 3).toInt + 1))) := by
  refine pOfW (lv := [(0, .ref (zB Z + 129)), (1, .ref (zB Z + o2)), (2, .int colour), (3, .int texture), (4, .ref (zB Z + o3))]) (by decide) (Nat.le_of_ble_eq_true rfl) rfl ?_
  intro p e s m below meth c ls M hr hlk hnm V hl
  have hx := M.1.1
  have hb := M.1.2.1
  have A : agrD [] h h := agrD.rf
  have hP0 : pPh Z ≤ pPh Z := Nat.le_refl _
  have hPm := K.ph
  have GR : pGr Z Z := pGr.rf
  refine W.widen (k := pPh Z - pPh Z) (n := 2 * (pPh Z - pPh Z)) (Nat.zero_le _) (Nat.zero_le _) ?_
  refine lv_aload_n hx hb dX9_draw_0 rfl (lv_at hl 1 rfl) ?_
  refine lv_aload hx hb dX9_draw_1 (lv_at hl 4 rfl) ?_
  refine pk_i (pr_V M V (m_X2_meets l S I o2 ho2 o3 ho3 ) km_X2_meets ho2 pC2 lkM_X9_34 rfl hl.1 rfl (Nat.le_of_ble_eq_true rfl) ⟨Nat.le_of_ble_eq_true rfl, Nat.le_of_ble_eq_true rfl⟩ (g_r0 (by omega) (by omega)) dX9_draw_3) V (fun r1 Zr1 hr1 H locs pr1 _ _ V => ?_)
  obtain ⟨rfl, I, pA_r1, fr1_0⟩ := pr1
  have A := A.tr pA_r1 (by decide)
  have L := L.congr (pA_r1.get 129 2 (by decide)) (pA_r1.get 129 3 (by decide))
  have w_r1_129_2 : (hr1 129 2).toInt = (h 129 2).toInt := congrArg Int32.toInt (pA_r1.get 129 2 (by decide))
  have w_r1_129_3 : (hr1 129 3).toInt = (h 129 3).toInt := congrArg Int32.toInt (pA_r1.get 129 3 (by decide))
  refine lv_if_eq (tgt := 19) hx hb dX9_draw_6 (by decide) (fun c_6 => ?_) (fun c_6 => ?_)
  · skip
    have k_0 : (0 : Int32).toInt = 0 := rfl
    have c_6 := pi_eq.mp c_6
    exact ge_v (Z := Z) (Z' := Z) M V rfl rfl hr hlk ⟨GR, K, I, A.wk (by decide), ⟨by omega, by omega, hP0⟩, L, (show (hr1 129 2).toInt ≤ (h 129 2).toInt + 1 by omega), (show (hr1 129 3).toInt ≤ (h 129 3).toInt + 1 by omega)⟩ (g_re (by omega) (by omega) hPm) dX9_draw_19
  · skip
    have k_0 : (0 : Int32).toInt = 0 := rfl
    have c_6 := pi_ne c_6
    refine lv_aload_n hx hb dX9_draw_9 rfl (lv_at hl 0 rfl) ?_
    refine pg_i M V 9 2 (c_is_129 S) pC9 fk9_2 lkF_X9_18 dX9_draw_10 ?_
    refine lv_topi (fun v2 ev2 => ?_)
    have tv2 : 0 ≤ v2.toInt ∧ v2.toInt ≤ 9000 := by rw [ev2]; exact I.get (c_is_129 S) 2
    have uv2 : v2.toInt = (h 129 2).toInt := by rw [ev2, A.get 129 2 (by decide)]
    refine lv_sipush (v := 8192) hx hb dX9_draw_13 (by decide) ?_
    refine lv_icmp_lt (tgt := 20) hx hb dX9_draw_16 (by decide) (fun c_16 => ?_) (fun c_16 => ?_)
    · skip
      have k_8192 : (8192 : Int32).toInt = 8192 := rfl
      have c_16 := pi_lt.mp c_16
      refine lv_aload_n hx hb dX9_draw_20 rfl (lv_at hl 0 rfl) ?_
      refine pg_iv M V 9 2 (v := v2) (c_is_129 S) pC9 fk9_2 ev2.symm lkF_X9_18 dX9_draw_21 ?_
      refine lv_aload_n hx hb dX9_draw_24 rfl (lv_at hl 0 rfl) ?_
      refine pg_i M V 9 4 (c_is_129 S) pC9 fk9_4 lkF_X9_28 dX9_draw_25 ?_
      refine lv_topi (fun v3 ev3 => ?_)
      refine lv_isub hx hb dX9_draw_28 ?_
      refine lv_topi (fun v4 ev4 => ?_)
      refine lv_iconst (v := 4) hx hb dX9_draw_29 (by decide) ?_
      refine lv_imul hx hb dX9_draw_30 ?_
      refine lv_topi (fun v5 ev5 => ?_)
      refine lv_istore (lv' := [(5, .int v5), (0, .ref (zB Z + 129)), (1, .ref (zB Z + o2)), (2, .int colour), (3, .int texture), (4, .ref (zB Z + o3))]) hx hb dX9_draw_31 hl (by decide) rfl (fun ls hl => ?_)
      refine lv_aload_n hx hb dX9_draw_33 rfl (lv_at hl 1 rfl) ?_
      refine lv_iload hx hb dX9_draw_34 (lv_at hl 0 rfl) ?_
      refine pk_i (pr_V M V (m_X9_offsetFor l S I v5 K) km_X9_offsetFor (c_is_129 S) pC9 lkM_X9_40 rfl hl.1 rfl (Nat.le_of_ble_eq_true rfl) ⟨Nat.le_of_ble_eq_true rfl, Nat.le_of_ble_eq_true rfl⟩ (g_r0 (by omega) (by omega)) dX9_draw_36) V (fun r6 Zr6 hr6 H locs pr6 _ _ V => ?_)
      obtain ⟨rfl, I, pA_r6⟩ := pr6
      have A := A.tr pA_r6 (by decide)
      have L := L.congr (pA_r6.get 129 2 (by decide)) (pA_r6.get 129 3 (by decide))
      have w_r6_129_2 : (hr6 129 2).toInt = (hr1 129 2).toInt := congrArg Int32.toInt (pA_r6.get 129 2 (by decide))
      have w_r6_129_3 : (hr6 129 3).toInt = (hr1 129 3).toInt := congrArg Int32.toInt (pA_r6.get 129 3 (by decide))
      refine lv_istore (lv' := [(6, .int r6), (5, .int v5), (0, .ref (zB Z + 129)), (1, .ref (zB Z + o2)), (2, .int colour), (3, .int texture), (4, .ref (zB Z + o3))]) hx hb dX9_draw_39 hl (by decide) rfl (fun ls hl => ?_)
      refine lv_aload_n hx hb dX9_draw_41 rfl (lv_at hl 2 rfl) ?_
      refine lv_iload hx hb dX9_draw_42 (lv_at hl 0 rfl) ?_
      refine lv_iload_n hx hb dX9_draw_44 rfl (lv_at hl 5 rfl) ?_
      refine lv_aload hx hb dX9_draw_45 (lv_at hl 6 rfl) ?_
      refine pk_i (pr_V M V (m_X9_fitsLast l S I r6 texture o3 ho3 K) km_X9_fitsLast (c_is_129 S) pC9 lkM_X9_44 rfl hl.1 rfl (Nat.le_of_ble_eq_true rfl) ⟨Nat.le_of_ble_eq_true rfl, Nat.le_of_ble_eq_true rfl⟩ (g_r0 (by omega) (by omega)) dX9_draw_47) V (fun r7 Zr7 hr7 H locs pr7 _ _ V => ?_)
      obtain ⟨rfl, I, pA_r7, fr7_0⟩ := pr7
      have A := A.tr pA_r7 (by decide)
      have L := L.congr (pA_r7.get 129 2 (by decide)) (pA_r7.get 129 3 (by decide))
      have w_r7_129_2 : (hr7 129 2).toInt = (hr6 129 2).toInt := congrArg Int32.toInt (pA_r7.get 129 2 (by decide))
      have w_r7_129_3 : (hr7 129 3).toInt = (hr6 129 3).toInt := congrArg Int32.toInt (pA_r7.get 129 3 (by decide))
      refine lv_if_ne (tgt := 62) hx hb dX9_draw_50 (by decide) (fun c_50 => ?_) (fun c_50 => ?_)
      · skip
        have c_50 := pi_ne c_50
        refine lv_aload_n hx hb dX9_draw_62 rfl (lv_at hl 2 rfl) ?_
        refine pk_v (pr_V M V (m_X9_addToLast l S I  K) km_X9_addToLast (c_is_129 S) pC9 lkM_X9_52 rfl hl.1 rfl (Nat.le_of_ble_eq_true rfl) ⟨Nat.le_of_ble_eq_true rfl, Nat.le_of_ble_eq_true rfl⟩ (g_r0 (by omega) (by omega)) dX9_draw_63) V (fun Zr8 hr8 H locs pr8 _ _ V => ?_)
        obtain ⟨rfl, I, pA_r8⟩ := pr8
        have A := A.tr pA_r8 (by decide)
        have L := L.congr (pA_r8.get 129 2 (by decide)) (pA_r8.get 129 3 (by decide))
        have w_r8_129_2 : (hr8 129 2).toInt = (hr7 129 2).toInt := congrArg Int32.toInt (pA_r8.get 129 2 (by decide))
        have w_r8_129_3 : (hr8 129 3).toInt = (hr7 129 3).toInt := congrArg Int32.toInt (pA_r8.get 129 3 (by decide))
        refine lv_aload_n hx hb dX9_draw_66 rfl (lv_at hl 2 rfl) ?_
        refine lv_aload_n hx hb dX9_draw_67 rfl (lv_at hl 3 rfl) ?_
        refine lv_iload_n hx hb dX9_draw_68 rfl (lv_at hl 4 rfl) ?_
        refine lv_iload hx hb dX9_draw_69 (lv_at hl 1 rfl) ?_
        refine lv_iload hx hb dX9_draw_71 (lv_at hl 0 rfl) ?_
        refine lv_isub hx hb dX9_draw_73 ?_
        refine lv_topi (fun v9 ev9 => ?_)
        refine gz_v Z rfl rfl (pr_V M V (m_X9_addQuad l S I o2 ho2 colour v9 K L (by omega)) km_X9_addQuad (c_is_129 S) pC9 lkM_X9_55 rfl hl.1 rfl (Nat.le_of_ble_eq_true rfl) ⟨Nat.le_of_ble_eq_true rfl, Nat.le_of_ble_eq_true rfl⟩ (g_rg (by omega) (by omega) hP0 hPm) dX9_draw_74) V (fun yr10 hr10 kr10 nr10 H locs pr10 V => ?_)
        obtain ⟨gr10, K, I, pA_r10, br10, L, fr10_0⟩ := pr10
        have A := A.wk (l3 := [(129, 2)]) (by decide)
        have A := A.tr pA_r10 (by decide)
        have isr10_1 := gr10.is ho2
        have isr10_2 := gr10.is ho3
        have S := S.gr (Z1 := (gW Z yr10)) rfl gr10
        have M := pM.to (gW Z yr10) rfl M
        have GR := GR.tr gr10
        have hP0 : pPh Z ≤ pPh (gW Z yr10) := by omega
        have hPm := K.ph
        refine W.widen (k := pPh (gW Z yr10) - pPh Z) (n := 2 * (pPh (gW Z yr10) - pPh Z)) (by omega) (by omega) ?_
        have w_r10_129_3 : (hr10 129 3).toInt = (hr8 129 3).toInt := congrArg Int32.toInt (pA_r10.get 129 3 (by decide))
        exact ge_v (Z := Z) (Z' := (gW Z yr10)) M V rfl rfl hr hlk ⟨GR, K, I, A.wk (by decide), ⟨by omega, by omega, hP0⟩, L, (show (hr10 129 2).toInt ≤ (h 129 2).toInt + 1 by omega), (show (hr10 129 3).toInt ≤ (h 129 3).toInt + 1 by omega)⟩ (g_re (by omega) (by omega) hPm) dX9_draw_77
      · skip
        have c_50 := pi_eq.mp c_50
        refine lv_aload_n hx hb dX9_draw_53 rfl (lv_at hl 2 rfl) ?_
        refine lv_iload hx hb dX9_draw_54 (lv_at hl 0 rfl) ?_
        refine lv_iload_n hx hb dX9_draw_56 rfl (lv_at hl 5 rfl) ?_
        refine lv_aload hx hb dX9_draw_57 (lv_at hl 6 rfl) ?_
        refine gz_v Z rfl rfl (pr_V M V (m_X9_addCommand l S I r6 texture o3 ho3 K L (by omega)) km_X9_addCommand (c_is_129 S) pC9 lkM_X9_48 rfl hl.1 rfl (Nat.le_of_ble_eq_true rfl) ⟨Nat.le_of_ble_eq_true rfl, Nat.le_of_ble_eq_true rfl⟩ (g_rg (by omega) (by omega) hP0 hPm) dX9_draw_59) V (fun yr11 hr11 kr11 nr11 H locs pr11 V => ?_)
        obtain ⟨gr11, K, I, pA_r11, br11, L, fr11_0⟩ := pr11
        have A := A.wk (l3 := [(129, 3)]) (by decide)
        have A := A.tr pA_r11 (by decide)
        have isr11_1 := gr11.is ho2
        have isr11_2 := gr11.is ho3
        have S := S.gr (Z1 := (gW Z yr11)) rfl gr11
        have M := pM.to (gW Z yr11) rfl M
        have GR := GR.tr gr11
        have hP0 : pPh Z ≤ pPh (gW Z yr11) := by omega
        have hPm := K.ph
        refine W.widen (k := pPh (gW Z yr11) - pPh Z) (n := 2 * (pPh (gW Z yr11) - pPh Z)) (by omega) (by omega) ?_
        have w_r11_129_2 : (hr11 129 2).toInt = (hr7 129 2).toInt := congrArg Int32.toInt (pA_r11.get 129 2 (by decide))
        refine lv_aload_n hx hb dX9_draw_62 rfl (lv_at hl 2 rfl) ?_
        refine pk_v (pr_V (Z := (gW Z yr11)) M V (m_X9_addToLast l S I  K) km_X9_addToLast (c_is_129 S) pC9 lkM_X9_52 rfl hl.1 rfl (Nat.le_of_ble_eq_true rfl) ⟨Nat.le_of_ble_eq_true rfl, Nat.le_of_ble_eq_true rfl⟩ (g_r0 (by omega) (by omega)) dX9_draw_63) V (fun Zr12 hr12 H locs pr12 _ _ V => ?_)
        obtain ⟨rfl, I, pA_r12⟩ := pr12
        have A := A.tr pA_r12 (by decide)
        have L := L.congr (pA_r12.get 129 2 (by decide)) (pA_r12.get 129 3 (by decide))
        have w_r12_129_2 : (hr12 129 2).toInt = (hr11 129 2).toInt := congrArg Int32.toInt (pA_r12.get 129 2 (by decide))
        have w_r12_129_3 : (hr12 129 3).toInt = (hr11 129 3).toInt := congrArg Int32.toInt (pA_r12.get 129 3 (by decide))
        refine lv_aload_n hx hb dX9_draw_66 rfl (lv_at hl 2 rfl) ?_
        refine lv_aload_n hx hb dX9_draw_67 rfl (lv_at hl 3 rfl) ?_
        refine lv_iload_n hx hb dX9_draw_68 rfl (lv_at hl 4 rfl) ?_
        refine lv_iload hx hb dX9_draw_69 (lv_at hl 1 rfl) ?_
        refine lv_iload hx hb dX9_draw_71 (lv_at hl 0 rfl) ?_
        refine lv_isub hx hb dX9_draw_73 ?_
        refine lv_topi (fun v13 ev13 => ?_)
        refine gz_v (Z := (gW Z yr11)) Z rfl rfl (pr_V (Z := (gW Z yr11)) M V (m_X9_addQuad l S I o2 isr11_1 colour v13 K L (by omega)) km_X9_addQuad (c_is_129 S) pC9 lkM_X9_55 rfl hl.1 rfl (Nat.le_of_ble_eq_true rfl) ⟨Nat.le_of_ble_eq_true rfl, Nat.le_of_ble_eq_true rfl⟩ (g_rg (by omega) (by omega) hP0 hPm) dX9_draw_74) V (fun yr14 hr14 kr14 nr14 H locs pr14 V => ?_)
        obtain ⟨gr14, K, I, pA_r14, br14, L, fr14_0⟩ := pr14
        have A := A.wk (l3 := [(129, 3), (129, 2)]) (by decide)
        have A := A.tr pA_r14 (by decide)
        have isr14_1 := gr14.is isr11_1
        have isr14_2 := gr14.is isr11_2
        have S := S.gr (Z1 := (gW Z yr14)) rfl gr14
        have M := pM.to (gW Z yr14) rfl M
        have GR := GR.tr gr14
        have hP0 : pPh Z ≤ pPh (gW Z yr14) := by omega
        have hPm := K.ph
        refine W.widen (k := pPh (gW Z yr14) - pPh Z) (n := 2 * (pPh (gW Z yr14) - pPh Z)) (by omega) (by omega) ?_
        have w_r14_129_3 : (hr14 129 3).toInt = (hr12 129 3).toInt := congrArg Int32.toInt (pA_r14.get 129 3 (by decide))
        exact ge_v (Z := Z) (Z' := (gW Z yr14)) M V rfl rfl hr hlk ⟨GR, K, I, A.wk (by decide), ⟨by omega, by omega, hP0⟩, L, (show (hr14 129 2).toInt ≤ (h 129 2).toInt + 1 by omega), (show (hr14 129 3).toInt ≤ (h 129 3).toInt + 1 by omega)⟩ (g_re (by omega) (by omega) hPm) dX9_draw_77
    · skip
      have k_8192 : (8192 : Int32).toInt = 8192 := rfl
      have c_16 := pi_lt' c_16
      exact ge_v (Z := Z) (Z' := Z) M V rfl rfl hr hlk ⟨GR, K, I, A.wk (by decide), ⟨by omega, by omega, hP0⟩, L, (show (hr1 129 2).toInt ≤ (h 129 2).toInt + 1 by omega), (show (hr1 129 3).toInt ≤ (h 129 3).toInt + 1 by omega)⟩ (g_re (by omega) (by omega) hPm) dX9_draw_19
theorem dX9_append_0 : decode cX9_append 0 = .ok (.aload_n 2, 1) := by decide +kernel
theorem dX9_append_1 : decode cX9_append 1 = .ok (.getfield 96, 3) := by decide +kernel
theorem dX9_append_4 : decode cX9_append 4 = .ok (.aload_n 2, 1) := by decide +kernel
theorem dX9_append_5 : decode cX9_append 5 = .ok (.getfield 101, 3) := by decide +kernel
theorem dX9_append_8 : decode cX9_append 8 = .ok (.isub, 1) := by decide +kernel
theorem dX9_append_9 : decode cX9_append 9 = .ok (.istore_n 3, 1) := by decide +kernel
theorem dX9_append_10 : decode cX9_append 10 = .ok (.aload_n 2, 1) := by decide +kernel
theorem dX9_append_11 : decode cX9_append 11 = .ok (.getfield 104, 3) := by decide +kernel
theorem dX9_append_14 : decode cX9_append 14 = .ok (.aload_n 2, 1) := by decide +kernel
theorem dX9_append_15 : decode cX9_append 15 = .ok (.getfield 107, 3) := by decide +kernel
theorem dX9_append_18 : decode cX9_append 18 = .ok (.isub, 1) := by decide +kernel
theorem dX9_append_19 : decode cX9_append 19 = .ok (.istore 4, 2) := by decide +kernel
theorem dX9_append_21 : decode cX9_append 21 = .ok (.aload_n 1, 1) := by decide +kernel
theorem dX9_append_22 : decode cX9_append 22 = .ok (.aload_n 2, 1) := by decide +kernel
theorem dX9_append_23 : decode cX9_append 23 = .ok (.invokevirtual 110, 3) := by decide +kernel
theorem dX9_append_26 : decode cX9_append 26 = .ok (.ifCond .eq 12, 3) := by decide +kernel
theorem dX9_append_29 : decode cX9_append 29 = .ok (.iload_n 3, 1) := by decide +kernel
theorem dX9_append_30 : decode cX9_append 30 = .ok (.ifCond .lt 8, 3) := by decide +kernel
theorem dX9_append_33 : decode cX9_append 33 = .ok (.iload 4, 2) := by decide +kernel
theorem dX9_append_35 : decode cX9_append 35 = .ok (.ifCond .ge 4, 3) := by decide +kernel
theorem dX9_append_38 : decode cX9_append 38 = .ok (.return_, 1) := by decide +kernel
theorem dX9_append_39 : decode cX9_append 39 = .ok (.aload_n 0, 1) := by decide +kernel
theorem dX9_append_40 : decode cX9_append 40 = .ok (.aload_n 0, 1) := by decide +kernel
theorem dX9_append_41 : decode cX9_append 41 = .ok (.getfield 11, 3) := by decide +kernel
theorem dX9_append_44 : decode cX9_append 44 = .ok (.aload_n 0, 1) := by decide +kernel
theorem dX9_append_45 : decode cX9_append 45 = .ok (.getfield 18, 3) := by decide +kernel
theorem dX9_append_48 : decode cX9_append 48 = .ok (.iload_n 3, 1) := by decide +kernel
theorem dX9_append_49 : decode cX9_append 49 = .ok (.iadd, 1) := by decide +kernel
theorem dX9_append_50 : decode cX9_append 50 = .ok (.bipush 6, 2) := by decide +kernel
theorem dX9_append_52 : decode cX9_append 52 = .ok (.imul, 1) := by decide +kernel
theorem dX9_append_53 : decode cX9_append 53 = .ok (.invokestatic 81, 3) := by decide +kernel
theorem dX9_append_56 : decode cX9_append 56 = .ok (.putfield 11, 3) := by decide +kernel
theorem dX9_append_59 : decode cX9_append 59 = .ok (.aload_n 0, 1) := by decide +kernel
theorem dX9_append_60 : decode cX9_append 60 = .ok (.aload_n 0, 1) := by decide +kernel
theorem dX9_append_61 : decode cX9_append 61 = .ok (.getfield 15, 3) := by decide +kernel
theorem dX9_append_64 : decode cX9_append 64 = .ok (.aload_n 0, 1) := by decide +kernel
theorem dX9_append_65 : decode cX9_append 65 = .ok (.getfield 22, 3) := by decide +kernel
theorem dX9_append_68 : decode cX9_append 68 = .ok (.iload 4, 2) := by decide +kernel
theorem dX9_append_70 : decode cX9_append 70 = .ok (.iadd, 1) := by decide +kernel
theorem dX9_append_71 : decode cX9_append 71 = .ok (.bipush 8, 2) := by decide +kernel
theorem dX9_append_73 : decode cX9_append 73 = .ok (.imul, 1) := by decide +kernel
theorem dX9_append_74 : decode cX9_append 74 = .ok (.invokestatic 81, 3) := by decide +kernel
theorem dX9_append_77 : decode cX9_append 77 = .ok (.putfield 15, 3) := by decide +kernel
theorem dX9_append_80 : decode cX9_append 80 = .ok (.aload_n 1, 1) := by decide +kernel
theorem dX9_append_81 : decode cX9_append 81 = .ok (.getfield 11, 3) := by decide +kernel
theorem dX9_append_84 : decode cX9_append 84 = .ok (.aload_n 2, 1) := by decide +kernel
theorem dX9_append_85 : decode cX9_append 85 = .ok (.getfield 101, 3) := by decide +kernel
theorem dX9_append_88 : decode cX9_append 88 = .ok (.bipush 6, 2) := by decide +kernel
theorem dX9_append_90 : decode cX9_append 90 = .ok (.imul, 1) := by decide +kernel
theorem dX9_append_91 : decode cX9_append 91 = .ok (.aload_n 0, 1) := by decide +kernel
theorem dX9_append_92 : decode cX9_append 92 = .ok (.getfield 11, 3) := by decide +kernel
theorem dX9_append_95 : decode cX9_append 95 = .ok (.aload_n 0, 1) := by decide +kernel
theorem dX9_append_96 : decode cX9_append 96 = .ok (.getfield 18, 3) := by decide +kernel
theorem dX9_append_99 : decode cX9_append 99 = .ok (.bipush 6, 2) := by decide +kernel
theorem dX9_append_101 : decode cX9_append 101 = .ok (.imul, 1) := by decide +kernel
theorem dX9_append_102 : decode cX9_append 102 = .ok (.iload_n 3, 1) := by decide +kernel
theorem dX9_append_103 : decode cX9_append 103 = .ok (.bipush 6, 2) := by decide +kernel
theorem dX9_append_105 : decode cX9_append 105 = .ok (.imul, 1) := by decide +kernel
theorem dX9_append_106 : decode cX9_append 106 = .ok (.invokestatic 114, 3) := by decide +kernel
theorem dX9_append_109 : decode cX9_append 109 = .ok (.aload_n 1, 1) := by decide +kernel
theorem dX9_append_110 : decode cX9_append 110 = .ok (.getfield 15, 3) := by decide +kernel
theorem dX9_append_113 : decode cX9_append 113 = .ok (.aload_n 2, 1) := by decide +kernel
theorem dX9_append_114 : decode cX9_append 114 = .ok (.getfield 107, 3) := by decide +kernel
theorem dX9_append_117 : decode cX9_append 117 = .ok (.bipush 8, 2) := by decide +kernel
theorem dX9_append_119 : decode cX9_append 119 = .ok (.imul, 1) := by decide +kernel
theorem dX9_append_120 : decode cX9_append 120 = .ok (.aload_n 0, 1) := by decide +kernel
theorem dX9_append_121 : decode cX9_append 121 = .ok (.getfield 15, 3) := by decide +kernel
theorem dX9_append_124 : decode cX9_append 124 = .ok (.aload_n 0, 1) := by decide +kernel
theorem dX9_append_125 : decode cX9_append 125 = .ok (.getfield 22, 3) := by decide +kernel
theorem dX9_append_128 : decode cX9_append 128 = .ok (.bipush 8, 2) := by decide +kernel
theorem dX9_append_130 : decode cX9_append 130 = .ok (.imul, 1) := by decide +kernel
theorem dX9_append_131 : decode cX9_append 131 = .ok (.iload 4, 2) := by decide +kernel
theorem dX9_append_133 : decode cX9_append 133 = .ok (.bipush 8, 2) := by decide +kernel
theorem dX9_append_135 : decode cX9_append 135 = .ok (.imul, 1) := by decide +kernel
theorem dX9_append_136 : decode cX9_append 136 = .ok (.invokestatic 114, 3) := by decide +kernel
theorem dX9_append_139 : decode cX9_append 139 = .ok (.aload_n 0, 1) := by decide +kernel
theorem dX9_append_140 : decode cX9_append 140 = .ok (.iload 4, 2) := by decide +kernel
theorem dX9_append_142 : decode cX9_append 142 = .ok (.invokevirtual 120, 3) := by decide +kernel
theorem dX9_append_145 : decode cX9_append 145 = .ok (.aload_n 0, 1) := by decide +kernel
theorem dX9_append_146 : decode cX9_append 146 = .ok (.dup, 1) := by decide +kernel
theorem dX9_append_147 : decode cX9_append 147 = .ok (.getfield 22, 3) := by decide +kernel
theorem dX9_append_150 : decode cX9_append 150 = .ok (.iload 4, 2) := by decide +kernel
theorem dX9_append_152 : decode cX9_append 152 = .ok (.iadd, 1) := by decide +kernel
theorem dX9_append_153 : decode cX9_append 153 = .ok (.putfield 22, 3) := by decide +kernel
theorem dX9_append_156 : decode cX9_append 156 = .ok (.aload_n 0, 1) := by decide +kernel
theorem dX9_append_157 : decode cX9_append 157 = .ok (.dup, 1) := by decide +kernel
theorem dX9_append_158 : decode cX9_append 158 = .ok (.getfield 18, 3) := by decide +kernel
theorem dX9_append_161 : decode cX9_append 161 = .ok (.iload_n 3, 1) := by decide +kernel
theorem dX9_append_162 : decode cX9_append 162 = .ok (.iadd, 1) := by decide +kernel
theorem dX9_append_163 : decode cX9_append 163 = .ok (.putfield 18, 3) := by decide +kernel
theorem dX9_append_166 : decode cX9_append 166 = .ok (.return_, 1) := by decide +kernel
set_option maxHeartbeats 4000000 in
set_option maxRecDepth 100000 in
theorem m_X9_append (l : Launch) {Z : pZ} (S : pSh Z) {h : pH} (I : Iv Z h) (o2 : Nat) (ho2 : pIs Z o2 7) (K : pSk Z) (L : pLk Z h) (hq : (h 129 2).toInt ≤ 990 ∧ (h 129 3).toInt ≤ 990 ∧ (h 132 2).toInt ≤ 8000 ∧ (h 132 3).toInt ≤ 8000) : pMet l yX9_append cX9_append 5 none 3 (gmc Z) (gms Z) 69 Z h [.ref (zB Z + 132), .ref (zB Z + 129), .ref (zB Z + o2)] (gQv Z (fun Z1 h1 k n => pGr Z Z1 ∧ pSk Z1 ∧ Iv Z1 h1 ∧ agrD [(132, 2), (132, 3)] h h1 ∧ (k ≤ pPh Z1 - pPh Z ∧ n ≤ 2 * (pPh Z1 - pPh Z) ∧ pPh Z ≤ pPh Z1) ∧ pLk Z1 h1 ∧ ((h1 132 2).toInt ≤ (h 132 2).toInt + 990) ∧ ((h1 132 3).toInt ≤ (h 132 3).toInt + 990))) := by
  refine pOfW (lv := [(0, .ref (zB Z + 132)), (1, .ref (zB Z + 129)), (2, .ref (zB Z + o2))]) (by decide) (Nat.le_of_ble_eq_true rfl) rfl ?_
  intro p e s m below meth c ls M hr hlk hnm V hl
  have hx := M.1.1
  have hb := M.1.2.1
  have A : agrD [] h h := agrD.rf
  have hP0 : pPh Z ≤ pPh Z := Nat.le_refl _
  have hPm := K.ph
  have GR : pGr Z Z := pGr.rf
  refine W.widen (k := pPh Z - pPh Z) (n := 2 * (pPh Z - pPh Z)) (Nat.zero_le _) (Nat.zero_le _) ?_
  refine lv_aload_n hx hb dX9_append_0 rfl (lv_at hl 2 rfl) ?_
  refine pg_i M V 7 11 ho2 pC7 fk7_11 lkF_X9_96 dX9_append_1 ?_
  refine lv_topi (fun v1 ev1 => ?_)
  have tv1 : 0 ≤ v1.toInt ∧ v1.toInt ≤ 9000 := by rw [ev1]; exact I.get ho2 11
  have uv1 : v1.toInt = (h o2 11).toInt := congrArg Int32.toInt ev1
  refine lv_aload_n hx hb dX9_append_4 rfl (lv_at hl 2 rfl) ?_
  refine pg_i M V 7 10 ho2 pC7 fk7_10 lkF_X9_101 dX9_append_5 ?_
  refine lv_topi (fun v2 ev2 => ?_)
  have tv2 : 0 ≤ v2.toInt ∧ v2.toInt ≤ 9000 := by rw [ev2]; exact I.get ho2 10
  have uv2 : v2.toInt = (h o2 10).toInt := congrArg Int32.toInt ev2
  refine lv_isub hx hb dX9_append_8 ?_
  refine lv_topi (fun v3 ev3 => ?_)
  refine lv_istore_n (lv' := [(3, .int v3), (0, .ref (zB Z + 132)), (1, .ref (zB Z + 129)), (2, .ref (zB Z + o2))]) hx hb dX9_append_9 rfl hl (by decide) rfl (fun ls hl => ?_)
  refine lv_aload_n hx hb dX9_append_10 rfl (lv_at hl 3 rfl) ?_
  refine pg_i M V 7 13 ho2 pC7 fk7_13 lkF_X9_104 dX9_append_11 ?_
  refine lv_topi (fun v4 ev4 => ?_)
  have tv4 : 0 ≤ v4.toInt ∧ v4.toInt ≤ 9000 := by rw [ev4]; exact I.get ho2 13
  have uv4 : v4.toInt = (h o2 13).toInt := congrArg Int32.toInt ev4
  refine lv_aload_n hx hb dX9_append_14 rfl (lv_at hl 3 rfl) ?_
  refine pg_i M V 7 12 ho2 pC7 fk7_12 lkF_X9_107 dX9_append_15 ?_
  refine lv_topi (fun v5 ev5 => ?_)
  have tv5 : 0 ≤ v5.toInt ∧ v5.toInt ≤ 9000 := by rw [ev5]; exact I.get ho2 12
  have uv5 : v5.toInt = (h o2 12).toInt := congrArg Int32.toInt ev5
  refine lv_isub hx hb dX9_append_18 ?_
  refine lv_topi (fun v6 ev6 => ?_)
  refine lv_istore (lv' := [(4, .int v6), (3, .int v3), (0, .ref (zB Z + 132)), (1, .ref (zB Z + 129)), (2, .ref (zB Z + o2))]) hx hb dX9_append_19 hl (by decide) rfl (fun ls hl => ?_)
  refine lv_aload_n hx hb dX9_append_21 rfl (lv_at hl 3 rfl) ?_
  refine lv_aload_n hx hb dX9_append_22 rfl (lv_at hl 4 rfl) ?_
  refine pk_i (pr_V M V (m_X9_holds l S I o2 ho2) km_X9_holds (c_is_129 S) pC9 lkM_X9_110 rfl hl.1 rfl (Nat.le_of_ble_eq_true rfl) ⟨Nat.le_of_ble_eq_true rfl, Nat.le_of_ble_eq_true rfl⟩ (g_r0 (by omega) (by omega)) dX9_append_23) V (fun r7 Zr7 hr7 H locs pr7 _ _ V => ?_)
  obtain ⟨rfl, rfl, fr7_0⟩ := pr7
  refine lv_if_eq (tgt := 38) hx hb dX9_append_26 (by decide) (fun c_26 => ?_) (fun c_26 => ?_)
  · skip
    have k_0 : (0 : Int32).toInt = 0 := rfl
    have c_26 := pi_eq.mp c_26
    exact ge_v (Z := Z) (Z' := Z) M V rfl rfl hr hlk ⟨GR, K, I, A.wk (by decide), ⟨by omega, by omega, hP0⟩, L, (show (h 132 2).toInt ≤ (h 132 2).toInt + 990 by omega), (show (h 132 3).toInt ≤ (h 132 3).toInt + 990 by omega)⟩ (g_re (by omega) (by omega) hPm) dX9_append_38
  · skip
    have k_0 : (0 : Int32).toInt = 0 := rfl
    have c_26 := pi_ne c_26
    refine lv_iload_n hx hb dX9_append_29 rfl (lv_at hl 1 rfl) ?_
    refine lv_if_lt (tgt := 38) hx hb dX9_append_30 (by decide) (fun c_30 => ?_) (fun c_30 => ?_)
    · skip
      have c_30 := pi_lt.mp c_30
      exact ge_v (Z := Z) (Z' := Z) M V rfl rfl hr hlk ⟨GR, K, I, A.wk (by decide), ⟨by omega, by omega, hP0⟩, L, (show (h 132 2).toInt ≤ (h 132 2).toInt + 990 by omega), (show (h 132 3).toInt ≤ (h 132 3).toInt + 990 by omega)⟩ (g_re (by omega) (by omega) hPm) dX9_append_38
    · skip
      have c_30 := pi_lt' c_30
      refine lv_iload hx hb dX9_append_33 (lv_at hl 0 rfl) ?_
      refine lv_if_ge (tgt := 39) hx hb dX9_append_35 (by decide) (fun c_35 => ?_) (fun c_35 => ?_)
      · skip
        have c_35 := pi_le.mp c_35
        refine lv_aload_n hx hb dX9_append_39 rfl (lv_at hl 2 rfl) ?_
        refine lv_aload_n hx hb dX9_append_40 rfl (lv_at hl 2 rfl) ?_
        refine pg_r M V 9 0 (c_is_132 S) pC9 fk9_0 K.2.2.1.1 lkF_X9_11 dX9_append_41 ?_
        refine lv_aload_n hx hb dX9_append_44 rfl (lv_at hl 2 rfl) ?_
        refine pg_i M V 9 2 (c_is_132 S) pC9 fk9_2 lkF_X9_18 dX9_append_45 ?_
        refine lv_topi (fun v8 ev8 => ?_)
        have tv8 : 0 ≤ v8.toInt ∧ v8.toInt ≤ 9000 := by rw [ev8]; exact I.get (c_is_132 S) 2
        have uv8 : v8.toInt = (h 132 2).toInt := by rw [ev8, A.get 132 2 (by decide)]
        refine lv_iload_n hx hb dX9_append_48 rfl (lv_at hl 1 rfl) ?_
        refine lv_iadd hx hb dX9_append_49 ?_
        refine lv_topi (fun v9 ev9 => ?_)
        refine lv_bipush (v := 6) hx hb dX9_append_50 (by decide) ?_
        refine lv_imul hx hb dX9_append_52 ?_
        refine lv_topi (fun v10 ev10 => ?_)
        have tv3 : v3.toInt = v1.toInt - v2.toInt := by rw [ev3]; exact pi_sub (by omega)
        have tv9 : v9.toInt = v8.toInt + v3.toInt := by rw [ev9]; exact pi_add (by omega)
        have k_6 : (6 : Int32).toInt = 6 := rfl
        have tv10 : v10.toInt = v9.toInt * 6 := by rw [ev10]; have z9 := pi_mul (x := v9) (y := (6 : Int32)); rw [k_6] at z9; exact z9 (by omega)
        refine gz_room Z rfl rfl M V S I K 132 0 120000 (by decide) (by decide) ⟨by omega, by omega⟩ hl.1 lkM_X9_81 lkF_X9_11 (Nat.le_of_ble_eq_true rfl) ⟨Nat.le_of_ble_eq_true rfl, Nat.le_of_ble_eq_true rfl⟩ (g_rk (by omega) (by omega)) dX9_append_53 dX9_append_56 (fun yr11 hr11 kr11 nr11 H locs gr11 K I pA_r11 cr11 qr11 br11 f9_r11 V => ?_)
        have er11_129_0 := qr11 129 0 (by decide) (by decide) (by decide)
        have er11_129_1 := qr11 129 1 (by decide) (by decide) (by decide)
        have er11_132_1 := qr11 132 1 (by decide) (by decide) (by decide)
        have L := L.gr (Z1 := (gW Z yr11)) pA_r11 (Nat.le_of_eq er11_129_0.symm) (Nat.le_of_eq er11_129_1.symm)
        have isr11_1 := gr11.is ho2
        have S := S.gr (Z1 := (gW Z yr11)) rfl gr11
        have M := pM.to (gW Z yr11) rfl M
        have GR := GR.tr gr11
        have hP0 : pPh Z ≤ pPh (gW Z yr11) := by omega
        have hPm := K.ph
        refine W.widen (k := pPh (gW Z yr11) - pPh Z) (n := 2 * (pPh (gW Z yr11) - pPh Z)) (by omega) (by omega) ?_
        have A := A.tr pA_r11 (by decide)
        have w_r11_129_2 : (hr11 129 2).toInt = (h 129 2).toInt := congrArg Int32.toInt (pA_r11.get 129 2 (by decide))
        have w_r11_129_3 : (hr11 129 3).toInt = (h 129 3).toInt := congrArg Int32.toInt (pA_r11.get 129 3 (by decide))
        have w_r11_132_2 : (hr11 132 2).toInt = (h 132 2).toInt := congrArg Int32.toInt (pA_r11.get 132 2 (by decide))
        have w_r11_132_3 : (hr11 132 3).toInt = (h 132 3).toInt := congrArg Int32.toInt (pA_r11.get 132 3 (by decide))
        refine lv_aload_n hx hb dX9_append_59 rfl (lv_at hl 2 rfl) ?_
        refine lv_aload_n hx hb dX9_append_60 rfl (lv_at hl 2 rfl) ?_
        refine pg_r (Z := (gW Z yr11)) M V 9 1 (c_is_132 S) pC9 fk9_1 K.2.2.2.1 lkF_X9_15 dX9_append_61 ?_
        refine lv_aload_n hx hb dX9_append_64 rfl (lv_at hl 2 rfl) ?_
        refine pg_i (Z := (gW Z yr11)) M V 9 3 (c_is_132 S) pC9 fk9_3 lkF_X9_22 dX9_append_65 ?_
        refine lv_topi (fun v12 ev12 => ?_)
        have tv12 : 0 ≤ v12.toInt ∧ v12.toInt ≤ 9000 := by rw [ev12]; exact I.get (c_is_132 S) 3
        have uv12 : v12.toInt = (h 132 3).toInt := by rw [ev12, A.get 132 3 (by decide)]
        refine lv_iload hx hb dX9_append_68 (lv_at hl 0 rfl) ?_
        refine lv_iadd hx hb dX9_append_70 ?_
        refine lv_topi (fun v13 ev13 => ?_)
        refine lv_bipush (v := 8) hx hb dX9_append_71 (by decide) ?_
        refine lv_imul hx hb dX9_append_73 ?_
        refine lv_topi (fun v14 ev14 => ?_)
        have tv6 : v6.toInt = v4.toInt - v5.toInt := by rw [ev6]; exact pi_sub (by omega)
        have tv13 : v13.toInt = v12.toInt + v6.toInt := by rw [ev13]; exact pi_add (by omega)
        have k_8 : (8 : Int32).toInt = 8 := rfl
        have tv14 : v14.toInt = v13.toInt * 8 := by rw [ev14]; have z9 := pi_mul (x := v13) (y := (8 : Int32)); rw [k_8] at z9; exact z9 (by omega)
        refine gz_room (Z := (gW Z yr11)) Z rfl rfl M V S I K 132 1 160000 (by decide) (by decide) ⟨by omega, by omega⟩ hl.1 lkM_X9_81 lkF_X9_15 (Nat.le_of_ble_eq_true rfl) ⟨Nat.le_of_ble_eq_true rfl, Nat.le_of_ble_eq_true rfl⟩ (g_rk (by omega) (by omega)) dX9_append_74 dX9_append_77 (fun yr15 hr15 kr15 nr15 H locs gr15 K I pA_r15 cr15 qr15 br15 f9_r15 V => ?_)
        have er15_129_0 := qr15 129 0 (by decide) (by decide) (by decide)
        have er15_129_1 := qr15 129 1 (by decide) (by decide) (by decide)
        have er15_132_0 := qr15 132 0 (by decide) (by decide) (by decide)
        have L := L.gr (Z1 := (gW Z yr15)) pA_r15 (Nat.le_of_eq er15_129_0.symm) (Nat.le_of_eq er15_129_1.symm)
        have isr15_1 := gr15.is isr11_1
        have S := S.gr (Z1 := (gW Z yr15)) rfl gr15
        have M := pM.to (gW Z yr15) rfl M
        have GR := GR.tr gr15
        have hP0 : pPh Z ≤ pPh (gW Z yr15) := by omega
        have hPm := K.ph
        refine W.widen (k := pPh (gW Z yr15) - pPh Z) (n := 2 * (pPh (gW Z yr15) - pPh Z)) (by omega) (by omega) ?_
        have A := A.tr pA_r15 (by decide)
        have w_r15_129_2 : (hr15 129 2).toInt = (hr11 129 2).toInt := congrArg Int32.toInt (pA_r15.get 129 2 (by decide))
        have w_r15_129_3 : (hr15 129 3).toInt = (hr11 129 3).toInt := congrArg Int32.toInt (pA_r15.get 129 3 (by decide))
        have w_r15_132_2 : (hr15 132 2).toInt = (hr11 132 2).toInt := congrArg Int32.toInt (pA_r15.get 132 2 (by decide))
        have w_r15_132_3 : (hr15 132 3).toInt = (hr11 132 3).toInt := congrArg Int32.toInt (pA_r15.get 132 3 (by decide))
        refine lv_aload_n hx hb dX9_append_80 rfl (lv_at hl 3 rfl) ?_
        refine pg_r (Z := (gW Z yr15)) M V 9 0 (c_is_129 S) pC9 fk9_0 K.1.1 lkF_X9_11 dX9_append_81 ?_
        refine lv_aload_n hx hb dX9_append_84 rfl (lv_at hl 4 rfl) ?_
        refine pg_i (Z := (gW Z yr15)) M V 7 10 isr15_1 pC7 fk7_10 lkF_X9_101 dX9_append_85 ?_
        refine lv_topi (fun v16 ev16 => ?_)
        have tv16 : 0 ≤ v16.toInt ∧ v16.toInt ≤ 9000 := by rw [ev16]; exact I.get isr15_1 10
        have uv16 : v16.toInt = (h o2 10).toInt := by rw [ev16, ((f9_r15 _ (isr11_1).1).trans (f9_r11 _ (ho2).1))]
        refine lv_bipush (v := 6) hx hb dX9_append_88 (by decide) ?_
        refine lv_imul hx hb dX9_append_90 ?_
        refine lv_topi (fun v17 ev17 => ?_)
        refine lv_aload_n hx hb dX9_append_91 rfl (lv_at hl 2 rfl) ?_
        refine pg_r (Z := (gW Z yr15)) M V 9 0 (c_is_132 S) pC9 fk9_0 K.2.2.1.1 lkF_X9_11 dX9_append_92 ?_
        refine lv_aload_n hx hb dX9_append_95 rfl (lv_at hl 2 rfl) ?_
        refine pg_iv (Z := (gW Z yr15)) M V 9 2 (v := v8) (c_is_132 S) pC9 fk9_2 ((pA_r15.get 132 2 (by decide)).trans ((pA_r11.get 132 2 (by decide)).trans ev8.symm)) lkF_X9_18 dX9_append_96 ?_
        refine lv_bipush (v := 6) hx hb dX9_append_99 (by decide) ?_
        refine lv_imul hx hb dX9_append_101 ?_
        refine lv_topi (fun v18 ev18 => ?_)
        refine lv_iload_n hx hb dX9_append_102 rfl (lv_at hl 1 rfl) ?_
        refine lv_bipush (v := 6) hx hb dX9_append_103 (by decide) ?_
        refine lv_imul hx hb dX9_append_105 ?_
        refine lv_topi (fun v19 ev19 => ?_)
        have L1 := L.1
        have L2 := L.2
        have tv17 : v17.toInt = v16.toInt * 6 := by rw [ev17]; have z9 := pi_mul (x := v16) (y := (6 : Int32)); rw [k_6] at z9; exact z9 (by omega)
        have tv18 : v18.toInt = v8.toInt * 6 := by rw [ev18]; have z9 := pi_mul (x := v8) (y := (6 : Int32)); rw [k_6] at z9; exact z9 (by omega)
        have tv19 : v19.toInt = v3.toInt * 6 := by rw [ev19]; have z9 := pi_mul (x := v3) (y := (6 : Int32)); rw [k_6] at z9; exact z9 (by omega)
        refine gc_i (Z := (gW Z yr15)) M V I K.1.2.1 K.2.2.1.2.1 K.2.2.1.2.2.1 hl.1 lkJ_X9_114 kM_copy (by omega) ⟨Nat.le_of_ble_eq_true rfl, Nat.le_of_ble_eq_true rfl⟩ dX9_append_106 (fun H locs hr20 I pA_r20 f9_r20 V => ?_)
        have A := A.tr pA_r20 (by decide)
        have L := L.congr (pA_r20.get 129 2 (by decide)) (pA_r20.get 129 3 (by decide))
        have w_r20_129_2 : (hr20 129 2).toInt = (hr15 129 2).toInt := congrArg Int32.toInt (pA_r20.get 129 2 (by decide))
        have w_r20_129_3 : (hr20 129 3).toInt = (hr15 129 3).toInt := congrArg Int32.toInt (pA_r20.get 129 3 (by decide))
        have w_r20_132_2 : (hr20 132 2).toInt = (hr15 132 2).toInt := congrArg Int32.toInt (pA_r20.get 132 2 (by decide))
        have w_r20_132_3 : (hr20 132 3).toInt = (hr15 132 3).toInt := congrArg Int32.toInt (pA_r20.get 132 3 (by decide))
        refine lv_aload_n hx hb dX9_append_109 rfl (lv_at hl 3 rfl) ?_
        refine pg_r (Z := (gW Z yr15)) M V 9 1 (c_is_129 S) pC9 fk9_1 K.2.1.1 lkF_X9_15 dX9_append_110 ?_
        refine lv_aload_n hx hb dX9_append_113 rfl (lv_at hl 4 rfl) ?_
        refine pg_i (Z := (gW Z yr15)) M V 7 12 isr15_1 pC7 fk7_12 lkF_X9_107 dX9_append_114 ?_
        refine lv_topi (fun v21 ev21 => ?_)
        have tv21 : 0 ≤ v21.toInt ∧ v21.toInt ≤ 9000 := by rw [ev21]; exact I.get isr15_1 12
        have uv21 : v21.toInt = (h o2 12).toInt := by rw [ev21, ((f9_r20 _ (pIs.ne isr15_1 K.2.2.1.2.1 (by decide))).trans ((f9_r15 _ (isr11_1).1).trans (f9_r11 _ (ho2).1)))]
        refine lv_bipush (v := 8) hx hb dX9_append_117 (by decide) ?_
        refine lv_imul hx hb dX9_append_119 ?_
        refine lv_topi (fun v22 ev22 => ?_)
        refine lv_aload_n hx hb dX9_append_120 rfl (lv_at hl 2 rfl) ?_
        refine pg_r (Z := (gW Z yr15)) M V 9 1 (c_is_132 S) pC9 fk9_1 K.2.2.2.1 lkF_X9_15 dX9_append_121 ?_
        refine lv_aload_n hx hb dX9_append_124 rfl (lv_at hl 2 rfl) ?_
        refine pg_iv (Z := (gW Z yr15)) M V 9 3 (v := v12) (c_is_132 S) pC9 fk9_3 ((pA_r20.get 132 3 (by decide)).trans ((pA_r15.get 132 3 (by decide)).trans ev12.symm)) lkF_X9_22 dX9_append_125 ?_
        refine lv_bipush (v := 8) hx hb dX9_append_128 (by decide) ?_
        refine lv_imul hx hb dX9_append_130 ?_
        refine lv_topi (fun v23 ev23 => ?_)
        refine lv_iload hx hb dX9_append_131 (lv_at hl 0 rfl) ?_
        refine lv_bipush (v := 8) hx hb dX9_append_133 (by decide) ?_
        refine lv_imul hx hb dX9_append_135 ?_
        refine lv_topi (fun v24 ev24 => ?_)
        have L1 := L.1
        have L2 := L.2
        have tv22 : v22.toInt = v21.toInt * 8 := by rw [ev22]; have z9 := pi_mul (x := v21) (y := (8 : Int32)); rw [k_8] at z9; exact z9 (by omega)
        have tv23 : v23.toInt = v12.toInt * 8 := by rw [ev23]; have z9 := pi_mul (x := v12) (y := (8 : Int32)); rw [k_8] at z9; exact z9 (by omega)
        have tv24 : v24.toInt = v6.toInt * 8 := by rw [ev24]; have z9 := pi_mul (x := v6) (y := (8 : Int32)); rw [k_8] at z9; exact z9 (by omega)
        refine gc_i (Z := (gW Z yr15)) M V I K.2.1.2.1 K.2.2.2.2.1 K.2.2.2.2.2.1 hl.1 lkJ_X9_114 kM_copy (by omega) ⟨Nat.le_of_ble_eq_true rfl, Nat.le_of_ble_eq_true rfl⟩ dX9_append_136 (fun H locs hr25 I pA_r25 f9_r25 V => ?_)
        have A := A.tr pA_r25 (by decide)
        have L := L.congr (pA_r25.get 129 2 (by decide)) (pA_r25.get 129 3 (by decide))
        have w_r25_129_2 : (hr25 129 2).toInt = (hr20 129 2).toInt := congrArg Int32.toInt (pA_r25.get 129 2 (by decide))
        have w_r25_129_3 : (hr25 129 3).toInt = (hr20 129 3).toInt := congrArg Int32.toInt (pA_r25.get 129 3 (by decide))
        have w_r25_132_2 : (hr25 132 2).toInt = (hr20 132 2).toInt := congrArg Int32.toInt (pA_r25.get 132 2 (by decide))
        have w_r25_132_3 : (hr25 132 3).toInt = (hr20 132 3).toInt := congrArg Int32.toInt (pA_r25.get 132 3 (by decide))
        refine lv_aload_n hx hb dX9_append_139 rfl (lv_at hl 2 rfl) ?_
        refine lv_iload hx hb dX9_append_140 (lv_at hl 0 rfl) ?_
        refine pk_v (pr_V (Z := (gW Z yr15)) M V (m_X9_shiftCommands l S I v6 K (by omega)) km_X9_shiftCommands (c_is_132 S) pC9 lkM_X9_120 rfl hl.1 rfl (Nat.le_of_ble_eq_true rfl) ⟨Nat.le_of_ble_eq_true rfl, Nat.le_of_ble_eq_true rfl⟩ (g_r0 (by omega) (by omega)) dX9_append_142) V (fun Zr26 hr26 H locs pr26 _ _ V => ?_)
        obtain ⟨rfl, I, pA_r26⟩ := pr26
        have A := A.tr pA_r26 (by decide)
        have L := L.congr (pA_r26.get 129 2 (by decide)) (pA_r26.get 129 3 (by decide))
        have w_r26_129_2 : (hr26 129 2).toInt = (hr25 129 2).toInt := congrArg Int32.toInt (pA_r26.get 129 2 (by decide))
        have w_r26_129_3 : (hr26 129 3).toInt = (hr25 129 3).toInt := congrArg Int32.toInt (pA_r26.get 129 3 (by decide))
        have w_r26_132_2 : (hr26 132 2).toInt = (hr25 132 2).toInt := congrArg Int32.toInt (pA_r26.get 132 2 (by decide))
        have w_r26_132_3 : (hr26 132 3).toInt = (hr25 132 3).toInt := congrArg Int32.toInt (pA_r26.get 132 3 (by decide))
        refine lv_aload_n hx hb dX9_append_145 rfl (lv_at hl 2 rfl) ?_
        refine lv_dup hx hb dX9_append_146 rfl ?_
        refine pg_iv (Z := (gW Z yr15)) M V 9 3 (v := v12) (c_is_132 S) pC9 fk9_3 ((pA_r26.get 132 3 (by decide)).trans ((pA_r25.get 132 3 (by decide)).trans ((pA_r20.get 132 3 (by decide)).trans ((pA_r15.get 132 3 (by decide)).trans ev12.symm)))) lkF_X9_22 dX9_append_147 ?_
        refine lv_iload hx hb dX9_append_150 (lv_at hl 0 rfl) ?_
        refine lv_iadd hx hb dX9_append_152 ?_
        refine lv_topi (fun v27 ev27 => ?_)
        refine pp_i (Z := (gW Z yr15)) M V 9 3 (c_is_132 S) pC9 fk9_3 rfl lkF_X9_22 ⟨rfl, rfl⟩ dX9_append_153 (fun H locs V => ?_)
        have A := A.wk (l3 := [(132, 3)]) (by decide)
        have A := A.up (o := 132) (k := 3) (v := v27) (by decide)
        have tv27 : v27.toInt = v12.toInt + v6.toInt := by rw [ev27]; exact pi_add (by omega)
        have I := I.up (k := 3) (v := v27) (c_is_132 S) (show (0 : Int) ≤ v27.toInt ∧ v27.toInt ≤ (9000 : Int) by omega)
        refine lv_aload_n hx hb dX9_append_156 rfl (lv_at hl 2 rfl) ?_
        refine lv_dup hx hb dX9_append_157 rfl ?_
        refine pg_iv (Z := (gW Z yr15)) M V 9 2 (v := v8) (c_is_132 S) pC9 fk9_2 ((pA_r26.get 132 2 (by decide)).trans ((pA_r25.get 132 2 (by decide)).trans ((pA_r20.get 132 2 (by decide)).trans ((pA_r15.get 132 2 (by decide)).trans ((pA_r11.get 132 2 (by decide)).trans ev8.symm))))) lkF_X9_18 dX9_append_158 ?_
        refine lv_iload_n hx hb dX9_append_161 rfl (lv_at hl 1 rfl) ?_
        refine lv_iadd hx hb dX9_append_162 ?_
        refine lv_topi (fun v28 ev28 => ?_)
        refine pp_i (Z := (gW Z yr15)) M V 9 2 (c_is_132 S) pC9 fk9_2 rfl lkF_X9_18 ⟨rfl, rfl⟩ dX9_append_163 (fun H locs V => ?_)
        have A := A.wk (l3 := [(132, 3), (132, 2)]) (by decide)
        have A := A.up (o := 132) (k := 2) (v := v28) (by decide)
        have tv28 : v28.toInt = v8.toInt + v3.toInt := by rw [ev28]; exact pi_add (by omega)
        have I := I.up (k := 2) (v := v28) (c_is_132 S) (show (0 : Int) ≤ v28.toInt ∧ v28.toInt ≤ (9000 : Int) by omega)
        exact ge_v (Z := Z) (Z' := (gW Z yr15)) M V rfl rfl hr hlk ⟨GR, K, I, A.wk (by decide), ⟨by omega, by omega, hP0⟩, L, (show v28.toInt ≤ (h 132 2).toInt + 990 by omega), (show v27.toInt ≤ (h 132 3).toInt + 990 by omega)⟩ (g_re (by omega) (by omega) hPm) dX9_append_166
      · skip
        have c_35 := pi_le' c_35
        exact ge_v (Z := Z) (Z' := Z) M V rfl rfl hr hlk ⟨GR, K, I, A.wk (by decide), ⟨by omega, by omega, hP0⟩, L, (show (h 132 2).toInt ≤ (h 132 2).toInt + 990 by omega), (show (h 132 3).toInt ≤ (h 132 3).toInt + 990 by omega)⟩ (g_re (by omega) (by omega) hPm) dX9_append_38
