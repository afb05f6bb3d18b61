theorem dX9_addQuad_0 : decode cX9_addQuad 0 = .ok (.aload_n 0, 1) := by decide +kernel
theorem dX9_addQuad_1 : decode cX9_addQuad 1 = .ok (.aload_n 0, 1) := by decide +kernel
theorem dX9_addQuad_2 : decode cX9_addQuad 2 = .ok (.getfield 11, 3) := by decide +kernel
theorem dX9_addQuad_5 : decode cX9_addQuad 5 = .ok (.aload_n 0, 1) := by decide +kernel
theorem dX9_addQuad_6 : decode cX9_addQuad 6 = .ok (.getfield 18, 3) := by decide +kernel
theorem dX9_addQuad_9 : decode cX9_addQuad 9 = .ok (.iconst 1, 1) := by decide +kernel
theorem dX9_addQuad_10 : decode cX9_addQuad 10 = .ok (.iadd, 1) := by decide +kernel
theorem dX9_addQuad_11 : decode cX9_addQuad 11 = .ok (.bipush 6, 2) := by decide +kernel
theorem dX9_addQuad_13 : decode cX9_addQuad 13 = .ok (.imul, 1) := by decide +kernel
theorem dX9_addQuad_14 : decode cX9_addQuad 14 = .ok (.invokestatic 81, 3) := by decide +kernel
theorem dX9_addQuad_17 : decode cX9_addQuad 17 = .ok (.putfield 11, 3) := by decide +kernel
theorem dX9_addQuad_20 : decode cX9_addQuad 20 = .ok (.aload_n 0, 1) := by decide +kernel
theorem dX9_addQuad_21 : decode cX9_addQuad 21 = .ok (.getfield 18, 3) := by decide +kernel
theorem dX9_addQuad_24 : decode cX9_addQuad 24 = .ok (.bipush 6, 2) := by decide +kernel
theorem dX9_addQuad_26 : decode cX9_addQuad 26 = .ok (.imul, 1) := by decide +kernel
theorem dX9_addQuad_27 : decode cX9_addQuad 27 = .ok (.istore 4, 2) := by decide +kernel
theorem dX9_addQuad_29 : decode cX9_addQuad 29 = .ok (.iload 4, 2) := by decide +kernel
theorem dX9_addQuad_31 : decode cX9_addQuad 31 = .ok (.iconst 0, 1) := by decide +kernel
theorem dX9_addQuad_32 : decode cX9_addQuad 32 = .ok (.aload_n 0, 1) := by decide +kernel
theorem dX9_addQuad_33 : decode cX9_addQuad 33 = .ok (.getfield 11, 3) := by decide +kernel
theorem dX9_addQuad_36 : decode cX9_addQuad 36 = .ok (.arraylength, 1) := by decide +kernel
theorem dX9_addQuad_37 : decode cX9_addQuad 37 = .ok (.bipush 6, 2) := by decide +kernel
theorem dX9_addQuad_39 : decode cX9_addQuad 39 = .ok (.isub, 1) := by decide +kernel
theorem dX9_addQuad_40 : decode cX9_addQuad 40 = .ok (.invokestatic 62, 3) := by decide +kernel
theorem dX9_addQuad_43 : decode cX9_addQuad 43 = .ok (.ifCond .ne 4, 3) := by decide +kernel
theorem dX9_addQuad_46 : decode cX9_addQuad 46 = .ok (.return_, 1) := by decide +kernel
theorem dX9_addQuad_47 : decode cX9_addQuad 47 = .ok (.aload_n 0, 1) := by decide +kernel
theorem dX9_addQuad_48 : decode cX9_addQuad 48 = .ok (.getfield 11, 3) := by decide +kernel
theorem dX9_addQuad_51 : decode cX9_addQuad 51 = .ok (.iload 4, 2) := by decide +kernel
theorem dX9_addQuad_53 : decode cX9_addQuad 53 = .ok (.aload_n 1, 1) := by decide +kernel
theorem dX9_addQuad_54 : decode cX9_addQuad 54 = .ok (.getfield 69, 3) := by decide +kernel
theorem dX9_addQuad_57 : decode cX9_addQuad 57 = .ok (.iastore, 1) := by decide +kernel
theorem dX9_addQuad_58 : decode cX9_addQuad 58 = .ok (.aload_n 0, 1) := by decide +kernel
theorem dX9_addQuad_59 : decode cX9_addQuad 59 = .ok (.getfield 11, 3) := by decide +kernel
theorem dX9_addQuad_62 : decode cX9_addQuad 62 = .ok (.iload 4, 2) := by decide +kernel
theorem dX9_addQuad_64 : decode cX9_addQuad 64 = .ok (.iconst 1, 1) := by decide +kernel
theorem dX9_addQuad_65 : decode cX9_addQuad 65 = .ok (.iadd, 1) := by decide +kernel
theorem dX9_addQuad_66 : decode cX9_addQuad 66 = .ok (.aload_n 1, 1) := by decide +kernel
theorem dX9_addQuad_67 : decode cX9_addQuad 67 = .ok (.getfield 72, 3) := by decide +kernel
theorem dX9_addQuad_70 : decode cX9_addQuad 70 = .ok (.iastore, 1) := by decide +kernel
theorem dX9_addQuad_71 : decode cX9_addQuad 71 = .ok (.aload_n 0, 1) := by decide +kernel
theorem dX9_addQuad_72 : decode cX9_addQuad 72 = .ok (.getfield 11, 3) := by decide +kernel
theorem dX9_addQuad_75 : decode cX9_addQuad 75 = .ok (.iload 4, 2) := by decide +kernel
theorem dX9_addQuad_77 : decode cX9_addQuad 77 = .ok (.iconst 2, 1) := by decide +kernel
theorem dX9_addQuad_78 : decode cX9_addQuad 78 = .ok (.iadd, 1) := by decide +kernel
theorem dX9_addQuad_79 : decode cX9_addQuad 79 = .ok (.aload_n 1, 1) := by decide +kernel
theorem dX9_addQuad_80 : decode cX9_addQuad 80 = .ok (.getfield 75, 3) := by decide +kernel
theorem dX9_addQuad_83 : decode cX9_addQuad 83 = .ok (.iastore, 1) := by decide +kernel
theorem dX9_addQuad_84 : decode cX9_addQuad 84 = .ok (.aload_n 0, 1) := by decide +kernel
theorem dX9_addQuad_85 : decode cX9_addQuad 85 = .ok (.getfield 11, 3) := by decide +kernel
theorem dX9_addQuad_88 : decode cX9_addQuad 88 = .ok (.iload 4, 2) := by decide +kernel
theorem dX9_addQuad_90 : decode cX9_addQuad 90 = .ok (.iconst 3, 1) := by decide +kernel
theorem dX9_addQuad_91 : decode cX9_addQuad 91 = .ok (.iadd, 1) := by decide +kernel
theorem dX9_addQuad_92 : decode cX9_addQuad 92 = .ok (.aload_n 1, 1) := by decide +kernel
theorem dX9_addQuad_93 : decode cX9_addQuad 93 = .ok (.getfield 78, 3) := by decide +kernel
theorem dX9_addQuad_96 : decode cX9_addQuad 96 = .ok (.iastore, 1) := by decide +kernel
theorem dX9_addQuad_97 : decode cX9_addQuad 97 = .ok (.aload_n 0, 1) := by decide +kernel
theorem dX9_addQuad_98 : decode cX9_addQuad 98 = .ok (.getfield 11, 3) := by decide +kernel
theorem dX9_addQuad_101 : decode cX9_addQuad 101 = .ok (.iload 4, 2) := by decide +kernel
theorem dX9_addQuad_103 : decode cX9_addQuad 103 = .ok (.iconst 4, 1) := by decide +kernel
theorem dX9_addQuad_104 : decode cX9_addQuad 104 = .ok (.iadd, 1) := by decide +kernel
theorem dX9_addQuad_105 : decode cX9_addQuad 105 = .ok (.iload_n 2, 1) := by decide +kernel
theorem dX9_addQuad_106 : decode cX9_addQuad 106 = .ok (.iastore, 1) := by decide +kernel
theorem dX9_addQuad_107 : decode cX9_addQuad 107 = .ok (.aload_n 0, 1) := by decide +kernel
theorem dX9_addQuad_108 : decode cX9_addQuad 108 = .ok (.getfield 11, 3) := by decide +kernel
theorem dX9_addQuad_111 : decode cX9_addQuad 111 = .ok (.iload 4, 2) := by decide +kernel
theorem dX9_addQuad_113 : decode cX9_addQuad 113 = .ok (.iconst 5, 1) := by decide +kernel
theorem dX9_addQuad_114 : decode cX9_addQuad 114 = .ok (.iadd, 1) := by decide +kernel
theorem dX9_addQuad_115 : decode cX9_addQuad 115 = .ok (.iload_n 3, 1) := by decide +kernel
theorem dX9_addQuad_116 : decode cX9_addQuad 116 = .ok (.iastore, 1) := by decide +kernel
theorem dX9_addQuad_117 : decode cX9_addQuad 117 = .ok (.aload_n 0, 1) := by decide +kernel
theorem dX9_addQuad_118 : decode cX9_addQuad 118 = .ok (.dup, 1) := by decide +kernel
theorem dX9_addQuad_119 : decode cX9_addQuad 119 = .ok (.getfield 18, 3) := by decide +kernel
theorem dX9_addQuad_122 : decode cX9_addQuad 122 = .ok (.iconst 1, 1) := by decide +kernel
theorem dX9_addQuad_123 : decode cX9_addQuad 123 = .ok (.iadd, 1) := by decide +kernel
theorem dX9_addQuad_124 : decode cX9_addQuad 124 = .ok (.putfield 18, 3) := by decide +kernel
theorem dX9_addQuad_127 : decode cX9_addQuad 127 = .ok (.return_, 1) := by decide +kernel
set_option maxHeartbeats 4000000 in
set_option maxRecDepth 100000 in
theorem m_X9_addQuad (l : Launch) {Z : pZ} (S : pSh Z) {h : pH} (I : Iv Z h) (o2 : Nat) (ho2 : pIs Z o2 2) (colour : Int32) (base : Int32) (K : pSk Z) (L : pLk Z h) (hq : (h 129 2).toInt ≤ 8999) : pMet l yX9_addQuad cX9_addQuad 5 none 3 (gmc Z) (gms Z) 69 Z h [.ref (zB Z + 129), .ref (zB Z + o2), .int colour, .int base] (gQv Z (fun Z1 h1 k n => pGr Z Z1 ∧ pSk Z1 ∧ Iv Z1 h1 ∧ agrD [(129, 2)] h h1 ∧ (k ≤ pPh Z1 - pPh Z ∧ n ≤ 2 * (pPh Z1 - pPh Z) ∧ pPh Z ≤ pPh Z1) ∧ pLk Z1 h1 ∧ ((h1 129 2).toInt ≤ (h 129 2).toInt + 1))) := by
  refine pOfW (lv := [(0, .ref (zB Z + 129)), (1, .ref (zB Z + o2)), (2, .int colour), (3, .int base)]) (by decide) (Nat.le_of_ble_eq_true rfl) rfl ?_
  intro p e s m below meth c ls M hr hlk hnm V hl
  have hx := M.1.1
  have hb := M.1.2.1
  have A : agrD [] h h := agrD.rf
  have hP0 : pPh Z ≤ pPh Z := Nat.le_refl _
  have hPm := K.ph
  have GR : pGr Z Z := pGr.rf
  refine W.widen (k := pPh Z - pPh Z) (n := 2 * (pPh Z - pPh Z)) (Nat.zero_le _) (Nat.zero_le _) ?_
  refine lv_aload_n hx hb dX9_addQuad_0 rfl (lv_at hl 0 rfl) ?_
  refine lv_aload_n hx hb dX9_addQuad_1 rfl (lv_at hl 0 rfl) ?_
  refine pg_r M V 9 0 (c_is_129 S) pC9 fk9_0 K.1.1 lkF_X9_11 dX9_addQuad_2 ?_
  refine lv_aload_n hx hb dX9_addQuad_5 rfl (lv_at hl 0 rfl) ?_
  refine pg_i M V 9 2 (c_is_129 S) pC9 fk9_2 lkF_X9_18 dX9_addQuad_6 ?_
  refine lv_topi (fun v1 ev1 => ?_)
  have tv1 : 0 ≤ v1.toInt ∧ v1.toInt ≤ 9000 := by rw [ev1]; exact I.get (c_is_129 S) 2
  have uv1 : v1.toInt = (h 129 2).toInt := by rw [ev1, A.get 129 2 (by decide)]
  refine lv_iconst (v := 1) hx hb dX9_addQuad_9 (by decide) ?_
  refine lv_iadd hx hb dX9_addQuad_10 ?_
  refine lv_topi (fun v2 ev2 => ?_)
  refine lv_bipush (v := 6) hx hb dX9_addQuad_11 (by decide) ?_
  refine lv_imul hx hb dX9_addQuad_13 ?_
  refine lv_topi (fun v3 ev3 => ?_)
  have k_1 : (1 : Int32).toInt = 1 := rfl
  have tv2 : v2.toInt = v1.toInt + 1 := by rw [ev2]; have z9 := pi_add (x := v1) (y := (1 : Int32)); rw [k_1] at z9; exact z9 (by omega)
  have k_6 : (6 : Int32).toInt = 6 := rfl
  have tv3 : v3.toInt = v2.toInt * 6 := by rw [ev3]; have z9 := pi_mul (x := v2) (y := (6 : Int32)); rw [k_6] at z9; exact z9 (by omega)
  refine gz_room Z rfl rfl M V S I K 129 0 120000 (by decide) (by decide) ⟨by omega, by omega⟩ hl.1 lkM_X9_81 lkF_X9_11 (Nat.le_of_ble_eq_true rfl) ⟨Nat.le_of_ble_eq_true rfl, Nat.le_of_ble_eq_true rfl⟩ (g_rk (by omega) (by omega)) dX9_addQuad_14 dX9_addQuad_17 (fun yr4 hr4 kr4 nr4 H locs gr4 K I pA_r4 cr4 qr4 br4 f9_r4 V => ?_)
  have er4_129_1 := qr4 129 1 (by decide) (by decide) (by decide)
  have er4_132_0 := qr4 132 0 (by decide) (by decide) (by decide)
  have er4_132_1 := qr4 132 1 (by decide) (by decide) (by decide)
  have L := L.gr (Z1 := (gW Z yr4)) pA_r4 cr4.2 (Nat.le_of_eq er4_129_1.symm)
  have isr4_1 := gr4.is ho2
  have S := S.gr (Z1 := (gW Z yr4)) rfl gr4
  have M := pM.to (gW Z yr4) rfl M
  have GR := GR.tr gr4
  have hP0 : pPh Z ≤ pPh (gW Z yr4) := by omega
  have hPm := K.ph
  refine W.widen (k := pPh (gW Z yr4) - pPh Z) (n := 2 * (pPh (gW Z yr4) - pPh Z)) (by omega) (by omega) ?_
  have A := A.tr pA_r4 (by decide)
  have w_r4_129_2 : (hr4 129 2).toInt = (h 129 2).toInt := congrArg Int32.toInt (pA_r4.get 129 2 (by decide))
  have w_r4_129_3 : (hr4 129 3).toInt = (h 129 3).toInt := congrArg Int32.toInt (pA_r4.get 129 3 (by decide))
  refine lv_aload_n hx hb dX9_addQuad_20 rfl (lv_at hl 0 rfl) ?_
  refine pg_iv (Z := (gW Z yr4)) M V 9 2 (v := v1) (c_is_129 S) pC9 fk9_2 ((pA_r4.get 129 2 (by decide)).trans ev1.symm) lkF_X9_18 dX9_addQuad_21 ?_
  refine lv_bipush (v := 6) hx hb dX9_addQuad_24 (by decide) ?_
  refine lv_imul hx hb dX9_addQuad_26 ?_
  refine lv_topi (fun v5 ev5 => ?_)
  refine lv_istore (lv' := [(4, .int v5), (0, .ref (zB Z + 129)), (1, .ref (zB Z + o2)), (2, .int colour), (3, .int base)]) hx hb dX9_addQuad_27 hl (by decide) rfl (fun ls hl => ?_)
  refine lv_iload hx hb dX9_addQuad_29 (lv_at hl 0 rfl) ?_
  refine lv_iconst (v := 0) hx hb dX9_addQuad_31 (by decide) ?_
  refine lv_aload_n hx hb dX9_addQuad_32 rfl (lv_at hl 1 rfl) ?_
  refine pg_r (Z := (gW Z yr4)) M V 9 0 (c_is_129 S) pC9 fk9_0 K.1.1 lkF_X9_11 dX9_addQuad_33 ?_
  refine pa_len (Z := (gW Z yr4)) M V K.1.2.1 dX9_addQuad_36 ?_
  refine lv_topi (fun v6 ev6 => ?_)
  have nv6 := K.1.2.2.2
  have tv6 : v6.toInt = (zN (gW Z yr4) (qA (gW Z yr4) 129 0) : Int) := by rw [ev6]; exact pi_len (by omega)
  refine lv_bipush (v := 6) hx hb dX9_addQuad_37 (by decide) ?_
  refine lv_isub hx hb dX9_addQuad_39 ?_
  refine lv_topi (fun v7 ev7 => ?_)
  have tv5 : v5.toInt = v1.toInt * 6 := by rw [ev5]; have z9 := pi_mul (x := v1) (y := (6 : Int32)); rw [k_6] at z9; exact z9 (by omega)
  have k_0 : (0 : Int32).toInt = 0 := rfl
  have tv7 : v7.toInt = v6.toInt - 6 := by rw [ev7]; have z9 := pi_sub (x := v6) (y := (6 : Int32)); rw [k_6] at z9; exact z9 (by omega)
  refine pk_i (pr_SN (Z := (gW Z yr4)) M V (m_X11_isWithin l (Z := (gW Z yr4)) (h := _) v5 (0 : Int32) v7) km_X11_isWithin lkN_X9_62 rfl hl.1 rfl (Nat.le_of_ble_eq_true rfl) ⟨Nat.le_of_ble_eq_true rfl, Nat.le_of_ble_eq_true rfl⟩ (g_r0 (by omega) (by omega)) dX9_addQuad_40) V (fun r8 Zr8 hr8 H locs pr8 _ _ V => ?_)
  obtain ⟨rfl, rfl, fr8_0⟩ := pr8
  refine lv_if_ne (tgt := 47) hx hb dX9_addQuad_43 (by decide) (fun c_43 => ?_) (fun c_43 => ?_)
  · skip
    have c_43 := pi_ne c_43
    refine lv_aload_n hx hb dX9_addQuad_47 rfl (lv_at hl 1 rfl) ?_
    refine pg_r (Z := (gW Z yr4)) M V 9 0 (c_is_129 S) pC9 fk9_0 K.1.1 lkF_X9_11 dX9_addQuad_48 ?_
    refine lv_iload hx hb dX9_addQuad_51 (lv_at hl 0 rfl) ?_
    refine lv_aload_n hx hb dX9_addQuad_53 rfl (lv_at hl 2 rfl) ?_
    refine pg_i (Z := (gW Z yr4)) M V 2 0 isr4_1 pC2 fk2_0 lkF_X9_69 dX9_addQuad_54 ?_
    refine lv_topi (fun v9 ev9 => ?_)
    refine gs_i (Z := (gW Z yr4)) M V I K.1.2.1 K.1.2.2.1 (pi_in (by omega)) dX9_addQuad_57 (fun H locs hr10 I pA_r10 V => ?_)
    have A := A.tr pA_r10 (by decide)
    have L := L.congr (pA_r10.get 129 2 (by decide)) (pA_r10.get 129 3 (by decide))
    have w_r10_129_2 : (hr10 129 2).toInt = (hr4 129 2).toInt := congrArg Int32.toInt (pA_r10.get 129 2 (by decide))
    have w_r10_129_3 : (hr10 129 3).toInt = (hr4 129 3).toInt := congrArg Int32.toInt (pA_r10.get 129 3 (by decide))
    refine lv_aload_n hx hb dX9_addQuad_58 rfl (lv_at hl 1 rfl) ?_
    refine pg_r (Z := (gW Z yr4)) M V 9 0 (c_is_129 S) pC9 fk9_0 K.1.1 lkF_X9_11 dX9_addQuad_59 ?_
    refine lv_iload hx hb dX9_addQuad_62 (lv_at hl 0 rfl) ?_
    refine lv_iconst (v := 1) hx hb dX9_addQuad_64 (by decide) ?_
    refine lv_iadd hx hb dX9_addQuad_65 ?_
    refine lv_topi (fun v11 ev11 => ?_)
    refine lv_aload_n hx hb dX9_addQuad_66 rfl (lv_at hl 2 rfl) ?_
    refine pg_i (Z := (gW Z yr4)) M V 2 1 isr4_1 pC2 fk2_1 lkF_X9_72 dX9_addQuad_67 ?_
    refine lv_topi (fun v12 ev12 => ?_)
    have tv11 : v11.toInt = v5.toInt + 1 := by rw [ev11]; have z9 := pi_add (x := v5) (y := (1 : Int32)); rw [k_1] at z9; exact z9 (by omega)
    refine gs_i (Z := (gW Z yr4)) M V I K.1.2.1 K.1.2.2.1 (pi_in (by omega)) dX9_addQuad_70 (fun H locs hr13 I pA_r13 V => ?_)
    have A := A.tr pA_r13 (by decide)
    have L := L.congr (pA_r13.get 129 2 (by decide)) (pA_r13.get 129 3 (by decide))
    have w_r13_129_2 : (hr13 129 2).toInt = (hr10 129 2).toInt := congrArg Int32.toInt (pA_r13.get 129 2 (by decide))
    have w_r13_129_3 : (hr13 129 3).toInt = (hr10 129 3).toInt := congrArg Int32.toInt (pA_r13.get 129 3 (by decide))
    refine lv_aload_n hx hb dX9_addQuad_71 rfl (lv_at hl 1 rfl) ?_
    refine pg_r (Z := (gW Z yr4)) M V 9 0 (c_is_129 S) pC9 fk9_0 K.1.1 lkF_X9_11 dX9_addQuad_72 ?_
    refine lv_iload hx hb dX9_addQuad_75 (lv_at hl 0 rfl) ?_
    refine lv_iconst (v := 2) hx hb dX9_addQuad_77 (by decide) ?_
    refine lv_iadd hx hb dX9_addQuad_78 ?_
    refine lv_topi (fun v14 ev14 => ?_)
    refine lv_aload_n hx hb dX9_addQuad_79 rfl (lv_at hl 2 rfl) ?_
    refine pg_i (Z := (gW Z yr4)) M V 2 2 isr4_1 pC2 fk2_2 lkF_X9_75 dX9_addQuad_80 ?_
    refine lv_topi (fun v15 ev15 => ?_)
    have k_2 : (2 : Int32).toInt = 2 := rfl
    have tv14 : v14.toInt = v5.toInt + 2 := by rw [ev14]; have z9 := pi_add (x := v5) (y := (2 : Int32)); rw [k_2] at z9; exact z9 (by omega)
    refine gs_i (Z := (gW Z yr4)) M V I K.1.2.1 K.1.2.2.1 (pi_in (by omega)) dX9_addQuad_83 (fun H locs hr16 I pA_r16 V => ?_)
    have A := A.tr pA_r16 (by decide)
    have L := L.congr (pA_r16.get 129 2 (by decide)) (pA_r16.get 129 3 (by decide))
    have w_r16_129_2 : (hr16 129 2).toInt = (hr13 129 2).toInt := congrArg Int32.toInt (pA_r16.get 129 2 (by decide))
    have w_r16_129_3 : (hr16 129 3).toInt = (hr13 129 3).toInt := congrArg Int32.toInt (pA_r16.get 129 3 (by decide))
    refine lv_aload_n hx hb dX9_addQuad_84 rfl (lv_at hl 1 rfl) ?_
    refine pg_r (Z := (gW Z yr4)) M V 9 0 (c_is_129 S) pC9 fk9_0 K.1.1 lkF_X9_11 dX9_addQuad_85 ?_
    refine lv_iload hx hb dX9_addQuad_88 (lv_at hl 0 rfl) ?_
    refine lv_iconst (v := 3) hx hb dX9_addQuad_90 (by decide) ?_
    refine lv_iadd hx hb dX9_addQuad_91 ?_
    refine lv_topi (fun v17 ev17 => ?_)
    refine lv_aload_n hx hb dX9_addQuad_92 rfl (lv_at hl 2 rfl) ?_
    refine pg_i (Z := (gW Z yr4)) M V 2 3 isr4_1 pC2 fk2_3 lkF_X9_78 dX9_addQuad_93 ?_
    refine lv_topi (fun v18 ev18 => ?_)
    have k_3 : (3 : Int32).toInt = 3 := rfl
    have tv17 : v17.toInt = v5.toInt + 3 := by rw [ev17]; have z9 := pi_add (x := v5) (y := (3 : Int32)); rw [k_3] at z9; exact z9 (by omega)
    refine gs_i (Z := (gW Z yr4)) M V I K.1.2.1 K.1.2.2.1 (pi_in (by omega)) dX9_addQuad_96 (fun H locs hr19 I pA_r19 V => ?_)
    have A := A.tr pA_r19 (by decide)
    have L := L.congr (pA_r19.get 129 2 (by decide)) (pA_r19.get 129 3 (by decide))
    have w_r19_129_2 : (hr19 129 2).toInt = (hr16 129 2).toInt := congrArg Int32.toInt (pA_r19.get 129 2 (by decide))
    have w_r19_129_3 : (hr19 129 3).toInt = (hr16 129 3).toInt := congrArg Int32.toInt (pA_r19.get 129 3 (by decide))
    refine lv_aload_n hx hb dX9_addQuad_97 rfl (lv_at hl 1 rfl) ?_
    refine pg_r (Z := (gW Z yr4)) M V 9 0 (c_is_129 S) pC9 fk9_0 K.1.1 lkF_X9_11 dX9_addQuad_98 ?_
    refine lv_iload hx hb dX9_addQuad_101 (lv_at hl 0 rfl) ?_
    refine lv_iconst (v := 4) hx hb dX9_addQuad_103 (by decide) ?_
    refine lv_iadd hx hb dX9_addQuad_104 ?_
    refine lv_topi (fun v20 ev20 => ?_)
    refine lv_iload_n hx hb dX9_addQuad_105 rfl (lv_at hl 3 rfl) ?_
    have k_4 : (4 : Int32).toInt = 4 := rfl
    have tv20 : v20.toInt = v5.toInt + 4 := by rw [ev20]; have z9 := pi_add (x := v5) (y := (4 : Int32)); rw [k_4] at z9; exact z9 (by omega)
    refine gs_i (Z := (gW Z yr4)) M V I K.1.2.1 K.1.2.2.1 (pi_in (by omega)) dX9_addQuad_106 (fun H locs hr21 I pA_r21 V => ?_)
    have A := A.tr pA_r21 (by decide)
    have L := L.congr (pA_r21.get 129 2 (by decide)) (pA_r21.get 129 3 (by decide))
    have w_r21_129_2 : (hr21 129 2).toInt = (hr19 129 2).toInt := congrArg Int32.toInt (pA_r21.get 129 2 (by decide))
    have w_r21_129_3 : (hr21 129 3).toInt = (hr19 129 3).toInt := congrArg Int32.toInt (pA_r21.get 129 3 (by decide))
    refine lv_aload_n hx hb dX9_addQuad_107 rfl (lv_at hl 1 rfl) ?_
    refine pg_r (Z := (gW Z yr4)) M V 9 0 (c_is_129 S) pC9 fk9_0 K.1.1 lkF_X9_11 dX9_addQuad_108 ?_
    refine lv_iload hx hb dX9_addQuad_111 (lv_at hl 0 rfl) ?_
    refine lv_iconst (v := 5) hx hb dX9_addQuad_113 (by decide) ?_
    refine lv_iadd hx hb dX9_addQuad_114 ?_
    refine lv_topi (fun v22 ev22 => ?_)
    refine lv_iload_n hx hb dX9_addQuad_115 rfl (lv_at hl 4 rfl) ?_
    have k_5 : (5 : Int32).toInt = 5 := rfl
    have tv22 : v22.toInt = v5.toInt + 5 := by rw [ev22]; have z9 := pi_add (x := v5) (y := (5 : Int32)); rw [k_5] at z9; exact z9 (by omega)
    refine gs_i (Z := (gW Z yr4)) M V I K.1.2.1 K.1.2.2.1 (pi_in (by omega)) dX9_addQuad_116 (fun H locs hr23 I pA_r23 V => ?_)
    have A := A.tr pA_r23 (by decide)
    have L := L.congr (pA_r23.get 129 2 (by decide)) (pA_r23.get 129 3 (by decide))
    have w_r23_129_2 : (hr23 129 2).toInt = (hr21 129 2).toInt := congrArg Int32.toInt (pA_r23.get 129 2 (by decide))
    have w_r23_129_3 : (hr23 129 3).toInt = (hr21 129 3).toInt := congrArg Int32.toInt (pA_r23.get 129 3 (by decide))
    refine lv_aload_n hx hb dX9_addQuad_117 rfl (lv_at hl 1 rfl) ?_
    refine lv_dup hx hb dX9_addQuad_118 rfl ?_
    refine pg_iv (Z := (gW Z yr4)) M V 9 2 (v := v1) (c_is_129 S) pC9 fk9_2 ((pA_r23.get 129 2 (by decide)).trans ((pA_r21.get 129 2 (by decide)).trans ((pA_r19.get 129 2 (by decide)).trans ((pA_r16.get 129 2 (by decide)).trans ((pA_r13.get 129 2 (by decide)).trans ((pA_r10.get 129 2 (by decide)).trans ((pA_r4.get 129 2 (by decide)).trans ev1.symm))))))) lkF_X9_18 dX9_addQuad_119 ?_
    refine lv_iconst (v := 1) hx hb dX9_addQuad_122 (by decide) ?_
    refine lv_iadd hx hb dX9_addQuad_123 ?_
    refine lv_topi (fun v24 ev24 => ?_)
    refine pp_i (Z := (gW Z yr4)) M V 9 2 (c_is_129 S) pC9 fk9_2 rfl lkF_X9_18 ⟨rfl, rfl⟩ dX9_addQuad_124 (fun H locs V => ?_)
    have A := A.wk (l3 := [(129, 2)]) (by decide)
    have A := A.up (o := 129) (k := 2) (v := v24) (by decide)
    have tv24 : v24.toInt = v1.toInt + 1 := by rw [ev24]; have z9 := pi_add (x := v1) (y := (1 : Int32)); rw [k_1] at z9; exact z9 (by omega)
    have I := I.up (k := 2) (v := v24) (c_is_129 S) (show (0 : Int) ≤ v24.toInt ∧ v24.toInt ≤ (9000 : Int) by omega)
    have L : pLk (gW Z yr4) (u2 _ 129 2 v24) := ⟨(show 6 * v24.toInt ≤ (zN (gW Z yr4) (qA (gW Z yr4) 129 0) : Int) by omega), L.2⟩
    exact ge_v (Z := Z) (Z' := (gW Z yr4)) M V rfl rfl hr hlk ⟨GR, K, I, A.wk (by decide), ⟨by omega, by omega, hP0⟩, L, (show v24.toInt ≤ (h 129 2).toInt + 1 by omega)⟩ (g_re (by omega) (by omega) hPm) dX9_addQuad_127
  · skip
    have c_43 := pi_eq.mp c_43
    exact ge_v (Z := Z) (Z' := (gW Z yr4)) M V rfl rfl hr hlk ⟨GR, K, I, A.wk (by decide), ⟨by omega, by omega, hP0⟩, L, (show (hr4 129 2).toInt ≤ (h 129 2).toInt + 1 by omega)⟩ (g_re (by omega) (by omega) hPm) dX9_addQuad_46
theorem dX9_addCommand_0 : decode cX9_addCommand 0 = .ok (.aload_n 0, 1) := by decide +kernel
theorem dX9_addCommand_1 : decode cX9_addCommand 1 = .ok (.aload_n 0, 1) := by decide +kernel
theorem dX9_addCommand_2 : decode cX9_addCommand 2 = .ok (.getfield 15, 3) := by decide +kernel
theorem dX9_addCommand_5 : decode cX9_addCommand 5 = .ok (.aload_n 0, 1) := by decide +kernel
theorem dX9_addCommand_6 : decode cX9_addCommand 6 = .ok (.getfield 22, 3) := by decide +kernel
theorem dX9_addCommand_9 : decode cX9_addCommand 9 = .ok (.iconst 1, 1) := by decide +kernel
theorem dX9_addCommand_10 : decode cX9_addCommand 10 = .ok (.iadd, 1) := by decide +kernel
theorem dX9_addCommand_11 : decode cX9_addCommand 11 = .ok (.bipush 8, 2) := by decide +kernel
theorem dX9_addCommand_13 : decode cX9_addCommand 13 = .ok (.imul, 1) := by decide +kernel
theorem dX9_addCommand_14 : decode cX9_addCommand 14 = .ok (.invokestatic 81, 3) := by decide +kernel
theorem dX9_addCommand_17 : decode cX9_addCommand 17 = .ok (.putfield 15, 3) := by decide +kernel
theorem dX9_addCommand_20 : decode cX9_addCommand 20 = .ok (.aload_n 0, 1) := by decide +kernel
theorem dX9_addCommand_21 : decode cX9_addCommand 21 = .ok (.getfield 22, 3) := by decide +kernel
theorem dX9_addCommand_24 : decode cX9_addCommand 24 = .ok (.bipush 8, 2) := by decide +kernel
theorem dX9_addCommand_26 : decode cX9_addCommand 26 = .ok (.imul, 1) := by decide +kernel
theorem dX9_addCommand_27 : decode cX9_addCommand 27 = .ok (.istore 4, 2) := by decide +kernel
theorem dX9_addCommand_29 : decode cX9_addCommand 29 = .ok (.iload 4, 2) := by decide +kernel
theorem dX9_addCommand_31 : decode cX9_addCommand 31 = .ok (.iconst 0, 1) := by decide +kernel
theorem dX9_addCommand_32 : decode cX9_addCommand 32 = .ok (.aload_n 0, 1) := by decide +kernel
theorem dX9_addCommand_33 : decode cX9_addCommand 33 = .ok (.getfield 15, 3) := by decide +kernel
theorem dX9_addCommand_36 : decode cX9_addCommand 36 = .ok (.arraylength, 1) := by decide +kernel
theorem dX9_addCommand_37 : decode cX9_addCommand 37 = .ok (.bipush 8, 2) := by decide +kernel
theorem dX9_addCommand_39 : decode cX9_addCommand 39 = .ok (.isub, 1) := by decide +kernel
theorem dX9_addCommand_40 : decode cX9_addCommand 40 = .ok (.invokestatic 62, 3) := by decide +kernel
theorem dX9_addCommand_43 : decode cX9_addCommand 43 = .ok (.ifCond .ne 4, 3) := by decide +kernel
theorem dX9_addCommand_46 : decode cX9_addCommand 46 = .ok (.return_, 1) := by decide +kernel
theorem dX9_addCommand_47 : decode cX9_addCommand 47 = .ok (.aload_n 0, 1) := by decide +kernel
theorem dX9_addCommand_48 : decode cX9_addCommand 48 = .ok (.getfield 15, 3) := by decide +kernel
theorem dX9_addCommand_51 : decode cX9_addCommand 51 = .ok (.iload 4, 2) := by decide +kernel
theorem dX9_addCommand_53 : decode cX9_addCommand 53 = .ok (.aload_n 3, 1) := by decide +kernel
theorem dX9_addCommand_54 : decode cX9_addCommand 54 = .ok (.getfield 69, 3) := by decide +kernel
theorem dX9_addCommand_57 : decode cX9_addCommand 57 = .ok (.iastore, 1) := by decide +kernel
theorem dX9_addCommand_58 : decode cX9_addCommand 58 = .ok (.aload_n 0, 1) := by decide +kernel
theorem dX9_addCommand_59 : decode cX9_addCommand 59 = .ok (.getfield 15, 3) := by decide +kernel
theorem dX9_addCommand_62 : decode cX9_addCommand 62 = .ok (.iload 4, 2) := by decide +kernel
theorem dX9_addCommand_64 : decode cX9_addCommand 64 = .ok (.iconst 1, 1) := by decide +kernel
theorem dX9_addCommand_65 : decode cX9_addCommand 65 = .ok (.iadd, 1) := by decide +kernel
theorem dX9_addCommand_66 : decode cX9_addCommand 66 = .ok (.aload_n 3, 1) := by decide +kernel
theorem dX9_addCommand_67 : decode cX9_addCommand 67 = .ok (.getfield 72, 3) := by decide +kernel
theorem dX9_addCommand_70 : decode cX9_addCommand 70 = .ok (.iastore, 1) := by decide +kernel
theorem dX9_addCommand_71 : decode cX9_addCommand 71 = .ok (.aload_n 0, 1) := by decide +kernel
theorem dX9_addCommand_72 : decode cX9_addCommand 72 = .ok (.getfield 15, 3) := by decide +kernel
theorem dX9_addCommand_75 : decode cX9_addCommand 75 = .ok (.iload 4, 2) := by decide +kernel
theorem dX9_addCommand_77 : decode cX9_addCommand 77 = .ok (.iconst 2, 1) := by decide +kernel
theorem dX9_addCommand_78 : decode cX9_addCommand 78 = .ok (.iadd, 1) := by decide +kernel
theorem dX9_addCommand_79 : decode cX9_addCommand 79 = .ok (.aload_n 3, 1) := by decide +kernel
theorem dX9_addCommand_80 : decode cX9_addCommand 80 = .ok (.getfield 75, 3) := by decide +kernel
theorem dX9_addCommand_83 : decode cX9_addCommand 83 = .ok (.iastore, 1) := by decide +kernel
theorem dX9_addCommand_84 : decode cX9_addCommand 84 = .ok (.aload_n 0, 1) := by decide +kernel
theorem dX9_addCommand_85 : decode cX9_addCommand 85 = .ok (.getfield 15, 3) := by decide +kernel
theorem dX9_addCommand_88 : decode cX9_addCommand 88 = .ok (.iload 4, 2) := by decide +kernel
theorem dX9_addCommand_90 : decode cX9_addCommand 90 = .ok (.iconst 3, 1) := by decide +kernel
theorem dX9_addCommand_91 : decode cX9_addCommand 91 = .ok (.iadd, 1) := by decide +kernel
theorem dX9_addCommand_92 : decode cX9_addCommand 92 = .ok (.aload_n 3, 1) := by decide +kernel
theorem dX9_addCommand_93 : decode cX9_addCommand 93 = .ok (.getfield 78, 3) := by decide +kernel
theorem dX9_addCommand_96 : decode cX9_addCommand 96 = .ok (.iastore, 1) := by decide +kernel
theorem dX9_addCommand_97 : decode cX9_addCommand 97 = .ok (.aload_n 0, 1) := by decide +kernel
theorem dX9_addCommand_98 : decode cX9_addCommand 98 = .ok (.getfield 15, 3) := by decide +kernel
theorem dX9_addCommand_101 : decode cX9_addCommand 101 = .ok (.iload 4, 2) := by decide +kernel
theorem dX9_addCommand_103 : decode cX9_addCommand 103 = .ok (.iconst 4, 1) := by decide +kernel
theorem dX9_addCommand_104 : decode cX9_addCommand 104 = .ok (.iadd, 1) := by decide +kernel
theorem dX9_addCommand_105 : decode cX9_addCommand 105 = .ok (.iload_n 2, 1) := by decide +kernel
theorem dX9_addCommand_106 : decode cX9_addCommand 106 = .ok (.iastore, 1) := by decide +kernel
theorem dX9_addCommand_107 : decode cX9_addCommand 107 = .ok (.aload_n 0, 1) := by decide +kernel
theorem dX9_addCommand_108 : decode cX9_addCommand 108 = .ok (.getfield 15, 3) := by decide +kernel
theorem dX9_addCommand_111 : decode cX9_addCommand 111 = .ok (.iload 4, 2) := by decide +kernel
theorem dX9_addCommand_113 : decode cX9_addCommand 113 = .ok (.iconst 5, 1) := by decide +kernel
theorem dX9_addCommand_114 : decode cX9_addCommand 114 = .ok (.iadd, 1) := by decide +kernel
theorem dX9_addCommand_115 : decode cX9_addCommand 115 = .ok (.iload_n 1, 1) := by decide +kernel
theorem dX9_addCommand_116 : decode cX9_addCommand 116 = .ok (.iastore, 1) := by decide +kernel
theorem dX9_addCommand_117 : decode cX9_addCommand 117 = .ok (.aload_n 0, 1) := by decide +kernel
theorem dX9_addCommand_118 : decode cX9_addCommand 118 = .ok (.getfield 15, 3) := by decide +kernel
theorem dX9_addCommand_121 : decode cX9_addCommand 121 = .ok (.iload 4, 2) := by decide +kernel
theorem dX9_addCommand_123 : decode cX9_addCommand 123 = .ok (.bipush 6, 2) := by decide +kernel
theorem dX9_addCommand_125 : decode cX9_addCommand 125 = .ok (.iadd, 1) := by decide +kernel
theorem dX9_addCommand_126 : decode cX9_addCommand 126 = .ok (.aload_n 0, 1) := by decide +kernel
theorem dX9_addCommand_127 : decode cX9_addCommand 127 = .ok (.getfield 18, 3) := by decide +kernel
theorem dX9_addCommand_130 : decode cX9_addCommand 130 = .ok (.aload_n 0, 1) := by decide +kernel
theorem dX9_addCommand_131 : decode cX9_addCommand 131 = .ok (.getfield 28, 3) := by decide +kernel
theorem dX9_addCommand_134 : decode cX9_addCommand 134 = .ok (.isub, 1) := by decide +kernel
theorem dX9_addCommand_135 : decode cX9_addCommand 135 = .ok (.bipush 6, 2) := by decide +kernel
theorem dX9_addCommand_137 : decode cX9_addCommand 137 = .ok (.imul, 1) := by decide +kernel
theorem dX9_addCommand_138 : decode cX9_addCommand 138 = .ok (.iastore, 1) := by decide +kernel
theorem dX9_addCommand_139 : decode cX9_addCommand 139 = .ok (.aload_n 0, 1) := by decide +kernel
theorem dX9_addCommand_140 : decode cX9_addCommand 140 = .ok (.getfield 15, 3) := by decide +kernel
theorem dX9_addCommand_143 : decode cX9_addCommand 143 = .ok (.iload 4, 2) := by decide +kernel
theorem dX9_addCommand_145 : decode cX9_addCommand 145 = .ok (.bipush 7, 2) := by decide +kernel
theorem dX9_addCommand_147 : decode cX9_addCommand 147 = .ok (.iadd, 1) := by decide +kernel
theorem dX9_addCommand_148 : decode cX9_addCommand 148 = .ok (.iconst 0, 1) := by decide +kernel
theorem dX9_addCommand_149 : decode cX9_addCommand 149 = .ok (.iastore, 1) := by decide +kernel
theorem dX9_addCommand_150 : decode cX9_addCommand 150 = .ok (.aload_n 0, 1) := by decide +kernel
theorem dX9_addCommand_151 : decode cX9_addCommand 151 = .ok (.dup, 1) := by decide +kernel
theorem dX9_addCommand_152 : decode cX9_addCommand 152 = .ok (.getfield 22, 3) := by decide +kernel
theorem dX9_addCommand_155 : decode cX9_addCommand 155 = .ok (.iconst 1, 1) := by decide +kernel
theorem dX9_addCommand_156 : decode cX9_addCommand 156 = .ok (.iadd, 1) := by decide +kernel
theorem dX9_addCommand_157 : decode cX9_addCommand 157 = .ok (.putfield 22, 3) := by decide +kernel
theorem dX9_addCommand_160 : decode cX9_addCommand 160 = .ok (.return_, 1) := by decide +kernel
set_option maxHeartbeats 4000000 in
set_option maxRecDepth 100000 in
theorem m_X9_addCommand (l : Launch) {Z : pZ} (S : pSh Z) {h : pH} (I : Iv Z h) (offset : Int32) (texture : Int32) (o2 : Nat) (ho2 : pIs Z o2 2) (K : pSk Z) (L : pLk Z h) (hq : (h 129 3).toInt ≤ 8999) : pMet l yX9_addCommand cX9_addCommand 5 none 3 (gmc Z) (gms Z) 69 Z h [.ref (zB Z + 129), .int offset, .int texture, .ref (zB Z + o2)] (gQv Z (fun Z1 h1 k n => pGr Z Z1 ∧ pSk Z1 ∧ Iv Z1 h1 ∧ agrD [(129, 3)] h h1 ∧ (k ≤ pPh Z1 - pPh Z ∧ n ≤ 2 * (pPh Z1 - pPh Z) ∧ pPh Z ≤ pPh Z1) ∧ pLk Z1 h1 ∧ ((h1 129 3).toInt ≤ (h 129 3).toInt + 1))) := by
  refine pOfW (lv := [(0, .ref (zB Z + 129)), (1, .int offset), (2, .int texture), (3, .ref (zB Z + o2))]) (by decide) (Nat.le_of_ble_eq_true rfl) rfl ?_
  intro p e s m below meth c ls M hr hlk hnm V hl
  have hx := M.1.1
  have hb := M.1.2.1
  have A : agrD [] h h := agrD.rf
  have hP0 : pPh Z ≤ pPh Z := Nat.le_refl _
  have hPm := K.ph
  have GR : pGr Z Z := pGr.rf
  refine W.widen (k := pPh Z - pPh Z) (n := 2 * (pPh Z - pPh Z)) (Nat.zero_le _) (Nat.zero_le _) ?_
  refine lv_aload_n hx hb dX9_addCommand_0 rfl (lv_at hl 0 rfl) ?_
  refine lv_aload_n hx hb dX9_addCommand_1 rfl (lv_at hl 0 rfl) ?_
  refine pg_r M V 9 1 (c_is_129 S) pC9 fk9_1 K.2.1.1 lkF_X9_15 dX9_addCommand_2 ?_
  refine lv_aload_n hx hb dX9_addCommand_5 rfl (lv_at hl 0 rfl) ?_
  refine pg_i M V 9 3 (c_is_129 S) pC9 fk9_3 lkF_X9_22 dX9_addCommand_6 ?_
  refine lv_topi (fun v1 ev1 => ?_)
  have tv1 : 0 ≤ v1.toInt ∧ v1.toInt ≤ 9000 := by rw [ev1]; exact I.get (c_is_129 S) 3
  have uv1 : v1.toInt = (h 129 3).toInt := by rw [ev1, A.get 129 3 (by decide)]
  refine lv_iconst (v := 1) hx hb dX9_addCommand_9 (by decide) ?_
  refine lv_iadd hx hb dX9_addCommand_10 ?_
  refine lv_topi (fun v2 ev2 => ?_)
  refine lv_bipush (v := 8) hx hb dX9_addCommand_11 (by decide) ?_
  refine lv_imul hx hb dX9_addCommand_13 ?_
  refine lv_topi (fun v3 ev3 => ?_)
  have k_1 : (1 : Int32).toInt = 1 := rfl
  have tv2 : v2.toInt = v1.toInt + 1 := by rw [ev2]; have z9 := pi_add (x := v1) (y := (1 : Int32)); rw [k_1] at z9; exact z9 (by omega)
  have k_8 : (8 : Int32).toInt = 8 := rfl
  have tv3 : v3.toInt = v2.toInt * 8 := by rw [ev3]; have z9 := pi_mul (x := v2) (y := (8 : Int32)); rw [k_8] at z9; exact z9 (by omega)
  refine gz_room Z rfl rfl M V S I K 129 1 160000 (by decide) (by decide) ⟨by omega, by omega⟩ hl.1 lkM_X9_81 lkF_X9_15 (Nat.le_of_ble_eq_true rfl) ⟨Nat.le_of_ble_eq_true rfl, Nat.le_of_ble_eq_true rfl⟩ (g_rk (by omega) (by omega)) dX9_addCommand_14 dX9_addCommand_17 (fun yr4 hr4 kr4 nr4 H locs gr4 K I pA_r4 cr4 qr4 br4 f9_r4 V => ?_)
  have er4_129_0 := qr4 129 0 (by decide) (by decide) (by decide)
  have er4_132_0 := qr4 132 0 (by decide) (by decide) (by decide)
  have er4_132_1 := qr4 132 1 (by decide) (by decide) (by decide)
  have L := L.gr (Z1 := (gW Z yr4)) pA_r4 (Nat.le_of_eq er4_129_0.symm) cr4.2
  have isr4_1 := gr4.is ho2
  have S := S.gr (Z1 := (gW Z yr4)) rfl gr4
  have M := pM.to (gW Z yr4) rfl M
  have GR := GR.tr gr4
  have hP0 : pPh Z ≤ pPh (gW Z yr4) := by omega
  have hPm := K.ph
  refine W.widen (k := pPh (gW Z yr4) - pPh Z) (n := 2 * (pPh (gW Z yr4) - pPh Z)) (by omega) (by omega) ?_
  have A := A.tr pA_r4 (by decide)
  have w_r4_129_2 : (hr4 129 2).toInt = (h 129 2).toInt := congrArg Int32.toInt (pA_r4.get 129 2 (by decide))
  have w_r4_129_3 : (hr4 129 3).toInt = (h 129 3).toInt := congrArg Int32.toInt (pA_r4.get 129 3 (by decide))
  refine lv_aload_n hx hb dX9_addCommand_20 rfl (lv_at hl 0 rfl) ?_
  refine pg_iv (Z := (gW Z yr4)) M V 9 3 (v := v1) (c_is_129 S) pC9 fk9_3 ((pA_r4.get 129 3 (by decide)).trans ev1.symm) lkF_X9_22 dX9_addCommand_21 ?_
  refine lv_bipush (v := 8) hx hb dX9_addCommand_24 (by decide) ?_
  refine lv_imul hx hb dX9_addCommand_26 ?_
  refine lv_topi (fun v5 ev5 => ?_)
  refine lv_istore (lv' := [(4, .int v5), (0, .ref (zB Z + 129)), (1, .int offset), (2, .int texture), (3, .ref (zB Z + o2))]) hx hb dX9_addCommand_27 hl (by decide) rfl (fun ls hl => ?_)
  refine lv_iload hx hb dX9_addCommand_29 (lv_at hl 0 rfl) ?_
  refine lv_iconst (v := 0) hx hb dX9_addCommand_31 (by decide) ?_
  refine lv_aload_n hx hb dX9_addCommand_32 rfl (lv_at hl 1 rfl) ?_
  refine pg_r (Z := (gW Z yr4)) M V 9 1 (c_is_129 S) pC9 fk9_1 K.2.1.1 lkF_X9_15 dX9_addCommand_33 ?_
  refine pa_len (Z := (gW Z yr4)) M V K.2.1.2.1 dX9_addCommand_36 ?_
  refine lv_topi (fun v6 ev6 => ?_)
  have nv6 := K.2.1.2.2.2
  have tv6 : v6.toInt = (zN (gW Z yr4) (qA (gW Z yr4) 129 1) : Int) := by rw [ev6]; exact pi_len (by omega)
  refine lv_bipush (v := 8) hx hb dX9_addCommand_37 (by decide) ?_
  refine lv_isub hx hb dX9_addCommand_39 ?_
  refine lv_topi (fun v7 ev7 => ?_)
  have tv5 : v5.toInt = v1.toInt * 8 := by rw [ev5]; have z9 := pi_mul (x := v1) (y := (8 : Int32)); rw [k_8] at z9; exact z9 (by omega)
  have k_0 : (0 : Int32).toInt = 0 := rfl
  have tv7 : v7.toInt = v6.toInt - 8 := by rw [ev7]; have z9 := pi_sub (x := v6) (y := (8 : Int32)); rw [k_8] at z9; exact z9 (by omega)
  refine pk_i (pr_SN (Z := (gW Z yr4)) M V (m_X11_isWithin l (Z := (gW Z yr4)) (h := _) v5 (0 : Int32) v7) km_X11_isWithin lkN_X9_62 rfl hl.1 rfl (Nat.le_of_ble_eq_true rfl) ⟨Nat.le_of_ble_eq_true rfl, Nat.le_of_ble_eq_true rfl⟩ (g_r0 (by omega) (by omega)) dX9_addCommand_40) V (fun r8 Zr8 hr8 H locs pr8 _ _ V => ?_)
  obtain ⟨rfl, rfl, fr8_0⟩ := pr8
  refine lv_if_ne (tgt := 47) hx hb dX9_addCommand_43 (by decide) (fun c_43 => ?_) (fun c_43 => ?_)
  · skip
    have c_43 := pi_ne c_43
    refine lv_aload_n hx hb dX9_addCommand_47 rfl (lv_at hl 1 rfl) ?_
    refine pg_r (Z := (gW Z yr4)) M V 9 1 (c_is_129 S) pC9 fk9_1 K.2.1.1 lkF_X9_15 dX9_addCommand_48 ?_
    refine lv_iload hx hb dX9_addCommand_51 (lv_at hl 0 rfl) ?_
    refine lv_aload_n hx hb dX9_addCommand_53 rfl (lv_at hl 4 rfl) ?_
    refine pg_i (Z := (gW Z yr4)) M V 2 0 isr4_1 pC2 fk2_0 lkF_X9_69 dX9_addCommand_54 ?_
    refine lv_topi (fun v9 ev9 => ?_)
    refine gs_i (Z := (gW Z yr4)) M V I K.2.1.2.1 K.2.1.2.2.1 (pi_in (by omega)) dX9_addCommand_57 (fun H locs hr10 I pA_r10 V => ?_)
    have A := A.tr pA_r10 (by decide)
    have L := L.congr (pA_r10.get 129 2 (by decide)) (pA_r10.get 129 3 (by decide))
    have w_r10_129_2 : (hr10 129 2).toInt = (hr4 129 2).toInt := congrArg Int32.toInt (pA_r10.get 129 2 (by decide))
    have w_r10_129_3 : (hr10 129 3).toInt = (hr4 129 3).toInt := congrArg Int32.toInt (pA_r10.get 129 3 (by decide))
    refine lv_aload_n hx hb dX9_addCommand_58 rfl (lv_at hl 1 rfl) ?_
    refine pg_r (Z := (gW Z yr4)) M V 9 1 (c_is_129 S) pC9 fk9_1 K.2.1.1 lkF_X9_15 dX9_addCommand_59 ?_
    refine lv_iload hx hb dX9_addCommand_62 (lv_at hl 0 rfl) ?_
    refine lv_iconst (v := 1) hx hb dX9_addCommand_64 (by decide) ?_
    refine lv_iadd hx hb dX9_addCommand_65 ?_
    refine lv_topi (fun v11 ev11 => ?_)
    refine lv_aload_n hx hb dX9_addCommand_66 rfl (lv_at hl 4 rfl) ?_
    refine pg_i (Z := (gW Z yr4)) M V 2 1 isr4_1 pC2 fk2_1 lkF_X9_72 dX9_addCommand_67 ?_
    refine lv_topi (fun v12 ev12 => ?_)
    have tv11 : v11.toInt = v5.toInt + 1 := by rw [ev11]; have z9 := pi_add (x := v5) (y := (1 : Int32)); rw [k_1] at z9; exact z9 (by omega)
    refine gs_i (Z := (gW Z yr4)) M V I K.2.1.2.1 K.2.1.2.2.1 (pi_in (by omega)) dX9_addCommand_70 (fun H locs hr13 I pA_r13 V => ?_)
    have A := A.tr pA_r13 (by decide)
    have L := L.congr (pA_r13.get 129 2 (by decide)) (pA_r13.get 129 3 (by decide))
    have w_r13_129_2 : (hr13 129 2).toInt = (hr10 129 2).toInt := congrArg Int32.toInt (pA_r13.get 129 2 (by decide))
    have w_r13_129_3 : (hr13 129 3).toInt = (hr10 129 3).toInt := congrArg Int32.toInt (pA_r13.get 129 3 (by decide))
    refine lv_aload_n hx hb dX9_addCommand_71 rfl (lv_at hl 1 rfl) ?_
    refine pg_r (Z := (gW Z yr4)) M V 9 1 (c_is_129 S) pC9 fk9_1 K.2.1.1 lkF_X9_15 dX9_addCommand_72 ?_
    refine lv_iload hx hb dX9_addCommand_75 (lv_at hl 0 rfl) ?_
    refine lv_iconst (v := 2) hx hb dX9_addCommand_77 (by decide) ?_
    refine lv_iadd hx hb dX9_addCommand_78 ?_
    refine lv_topi (fun v14 ev14 => ?_)
    refine lv_aload_n hx hb dX9_addCommand_79 rfl (lv_at hl 4 rfl) ?_
    refine pg_i (Z := (gW Z yr4)) M V 2 2 isr4_1 pC2 fk2_2 lkF_X9_75 dX9_addCommand_80 ?_
    refine lv_topi (fun v15 ev15 => ?_)
    have k_2 : (2 : Int32).toInt = 2 := rfl
    have tv14 : v14.toInt = v5.toInt + 2 := by rw [ev14]; have z9 := pi_add (x := v5) (y := (2 : Int32)); rw [k_2] at z9; exact z9 (by omega)
    refine gs_i (Z := (gW Z yr4)) M V I K.2.1.2.1 K.2.1.2.2.1 (pi_in (by omega)) dX9_addCommand_83 (fun H locs hr16 I pA_r16 V => ?_)
    have A := A.tr pA_r16 (by decide)
    have L := L.congr (pA_r16.get 129 2 (by decide)) (pA_r16.get 129 3 (by decide))
    have w_r16_129_2 : (hr16 129 2).toInt = (hr13 129 2).toInt := congrArg Int32.toInt (pA_r16.get 129 2 (by decide))
    have w_r16_129_3 : (hr16 129 3).toInt = (hr13 129 3).toInt := congrArg Int32.toInt (pA_r16.get 129 3 (by decide))
    refine lv_aload_n hx hb dX9_addCommand_84 rfl (lv_at hl 1 rfl) ?_
    refine pg_r (Z := (gW Z yr4)) M V 9 1 (c_is_129 S) pC9 fk9_1 K.2.1.1 lkF_X9_15 dX9_addCommand_85 ?_
    refine lv_iload hx hb dX9_addCommand_88 (lv_at hl 0 rfl) ?_
    refine lv_iconst (v := 3) hx hb dX9_addCommand_90 (by decide) ?_
    refine lv_iadd hx hb dX9_addCommand_91 ?_
    refine lv_topi (fun v17 ev17 => ?_)
    refine lv_aload_n hx hb dX9_addCommand_92 rfl (lv_at hl 4 rfl) ?_
    refine pg_i (Z := (gW Z yr4)) M V 2 3 isr4_1 pC2 fk2_3 lkF_X9_78 dX9_addCommand_93 ?_
    refine lv_topi (fun v18 ev18 => ?_)
    have k_3 : (3 : Int32).toInt = 3 := rfl
    have tv17 : v17.toInt = v5.toInt + 3 := by rw [ev17]; have z9 := pi_add (x := v5) (y := (3 : Int32)); rw [k_3] at z9; exact z9 (by omega)
    refine gs_i (Z := (gW Z yr4)) M V I K.2.1.2.1 K.2.1.2.2.1 (pi_in (by omega)) dX9_addCommand_96 (fun H locs hr19 I pA_r19 V => ?_)
    have A := A.tr pA_r19 (by decide)
    have L := L.congr (pA_r19.get 129 2 (by decide)) (pA_r19.get 129 3 (by decide))
    have w_r19_129_2 : (hr19 129 2).toInt = (hr16 129 2).toInt := congrArg Int32.toInt (pA_r19.get 129 2 (by decide))
    have w_r19_129_3 : (hr19 129 3).toInt = (hr16 129 3).toInt := congrArg Int32.toInt (pA_r19.get 129 3 (by decide))
    refine lv_aload_n hx hb dX9_addCommand_97 rfl (lv_at hl 1 rfl) ?_
    refine pg_r (Z := (gW Z yr4)) M V 9 1 (c_is_129 S) pC9 fk9_1 K.2.1.1 lkF_X9_15 dX9_addCommand_98 ?_
    refine lv_iload hx hb dX9_addCommand_101 (lv_at hl 0 rfl) ?_
    refine lv_iconst (v := 4) hx hb dX9_addCommand_103 (by decide) ?_
    refine lv_iadd hx hb dX9_addCommand_104 ?_
    refine lv_topi (fun v20 ev20 => ?_)
    refine lv_iload_n hx hb dX9_addCommand_105 rfl (lv_at hl 3 rfl) ?_
    have k_4 : (4 : Int32).toInt = 4 := rfl
    have tv20 : v20.toInt = v5.toInt + 4 := by rw [ev20]; have z9 := pi_add (x := v5) (y := (4 : Int32)); rw [k_4] at z9; exact z9 (by omega)
    refine gs_i (Z := (gW Z yr4)) M V I K.2.1.2.1 K.2.1.2.2.1 (pi_in (by omega)) dX9_addCommand_106 (fun H locs hr21 I pA_r21 V => ?_)
    have A := A.tr pA_r21 (by decide)
    have L := L.congr (pA_r21.get 129 2 (by decide)) (pA_r21.get 129 3 (by decide))
    have w_r21_129_2 : (hr21 129 2).toInt = (hr19 129 2).toInt := congrArg Int32.toInt (pA_r21.get 129 2 (by decide))
    have w_r21_129_3 : (hr21 129 3).toInt = (hr19 129 3).toInt := congrArg Int32.toInt (pA_r21.get 129 3 (by decide))
    refine lv_aload_n hx hb dX9_addCommand_107 rfl (lv_at hl 1 rfl) ?_
    refine pg_r (Z := (gW Z yr4)) M V 9 1 (c_is_129 S) pC9 fk9_1 K.2.1.1 lkF_X9_15 dX9_addCommand_108 ?_
    refine lv_iload hx hb dX9_addCommand_111 (lv_at hl 0 rfl) ?_
    refine lv_iconst (v := 5) hx hb dX9_addCommand_113 (by decide) ?_
    refine lv_iadd hx hb dX9_addCommand_114 ?_
    refine lv_topi (fun v22 ev22 => ?_)
    refine lv_iload_n hx hb dX9_addCommand_115 rfl (lv_at hl 2 rfl) ?_
    have k_5 : (5 : Int32).toInt = 5 := rfl
    have tv22 : v22.toInt = v5.toInt + 5 := by rw [ev22]; have z9 := pi_add (x := v5) (y := (5 : Int32)); rw [k_5] at z9; exact z9 (by omega)
    refine gs_i (Z := (gW Z yr4)) M V I K.2.1.2.1 K.2.1.2.2.1 (pi_in (by omega)) dX9_addCommand_116 (fun H locs hr23 I pA_r23 V => ?_)
    have A := A.tr pA_r23 (by decide)
    have L := L.congr (pA_r23.get 129 2 (by decide)) (pA_r23.get 129 3 (by decide))
    have w_r23_129_2 : (hr23 129 2).toInt = (hr21 129 2).toInt := congrArg Int32.toInt (pA_r23.get 129 2 (by decide))
    have w_r23_129_3 : (hr23 129 3).toInt = (hr21 129 3).toInt := congrArg Int32.toInt (pA_r23.get 129 3 (by decide))
    refine lv_aload_n hx hb dX9_addCommand_117 rfl (lv_at hl 1 rfl) ?_
    refine pg_r (Z := (gW Z yr4)) M V 9 1 (c_is_129 S) pC9 fk9_1 K.2.1.1 lkF_X9_15 dX9_addCommand_118 ?_
    refine lv_iload hx hb dX9_addCommand_121 (lv_at hl 0 rfl) ?_
    refine lv_bipush (v := 6) hx hb dX9_addCommand_123 (by decide) ?_
    refine lv_iadd hx hb dX9_addCommand_125 ?_
    refine lv_topi (fun v24 ev24 => ?_)
    refine lv_aload_n hx hb dX9_addCommand_126 rfl (lv_at hl 1 rfl) ?_
    refine pg_i (Z := (gW Z yr4)) M V 9 2 (c_is_129 S) pC9 fk9_2 lkF_X9_18 dX9_addCommand_127 ?_
    refine lv_topi (fun v25 ev25 => ?_)
    have tv25 : 0 ≤ v25.toInt ∧ v25.toInt ≤ 9000 := by rw [ev25]; exact I.get (c_is_129 S) 2
    have uv25 : v25.toInt = (h 129 2).toInt := by rw [ev25, A.get 129 2 (by decide)]
    refine lv_aload_n hx hb dX9_addCommand_130 rfl (lv_at hl 1 rfl) ?_
    refine pg_i (Z := (gW Z yr4)) M V 9 4 (c_is_129 S) pC9 fk9_4 lkF_X9_28 dX9_addCommand_131 ?_
    refine lv_topi (fun v26 ev26 => ?_)
    refine lv_isub hx hb dX9_addCommand_134 ?_
    refine lv_topi (fun v27 ev27 => ?_)
    refine lv_bipush (v := 6) hx hb dX9_addCommand_135 (by decide) ?_
    refine lv_imul hx hb dX9_addCommand_137 ?_
    refine lv_topi (fun v28 ev28 => ?_)
    have k_6 : (6 : Int32).toInt = 6 := rfl
    have tv24 : v24.toInt = v5.toInt + 6 := by rw [ev24]; have z9 := pi_add (x := v5) (y := (6 : Int32)); rw [k_6] at z9; exact z9 (by omega)
    refine gs_i (Z := (gW Z yr4)) M V I K.2.1.2.1 K.2.1.2.2.1 (pi_in (by omega)) dX9_addCommand_138 (fun H locs hr29 I pA_r29 V => ?_)
    have A := A.tr pA_r29 (by decide)
    have L := L.congr (pA_r29.get 129 2 (by decide)) (pA_r29.get 129 3 (by decide))
    have w_r29_129_2 : (hr29 129 2).toInt = (hr23 129 2).toInt := congrArg Int32.toInt (pA_r29.get 129 2 (by decide))
    have w_r29_129_3 : (hr29 129 3).toInt = (hr23 129 3).toInt := congrArg Int32.toInt (pA_r29.get 129 3 (by decide))
    refine lv_aload_n hx hb dX9_addCommand_139 rfl (lv_at hl 1 rfl) ?_
    refine pg_r (Z := (gW Z yr4)) M V 9 1 (c_is_129 S) pC9 fk9_1 K.2.1.1 lkF_X9_15 dX9_addCommand_140 ?_
    refine lv_iload hx hb dX9_addCommand_143 (lv_at hl 0 rfl) ?_
    refine lv_bipush (v := 7) hx hb dX9_addCommand_145 (by decide) ?_
    refine lv_iadd hx hb dX9_addCommand_147 ?_
    refine lv_topi (fun v30 ev30 => ?_)
    refine lv_iconst (v := 0) hx hb dX9_addCommand_148 (by decide) ?_
    have k_7 : (7 : Int32).toInt = 7 := rfl
    have tv30 : v30.toInt = v5.toInt + 7 := by rw [ev30]; have z9 := pi_add (x := v5) (y := (7 : Int32)); rw [k_7] at z9; exact z9 (by omega)
    refine gs_i (Z := (gW Z yr4)) M V I K.2.1.2.1 K.2.1.2.2.1 (pi_in (by omega)) dX9_addCommand_149 (fun H locs hr31 I pA_r31 V => ?_)
    have A := A.tr pA_r31 (by decide)
    have L := L.congr (pA_r31.get 129 2 (by decide)) (pA_r31.get 129 3 (by decide))
    have w_r31_129_2 : (hr31 129 2).toInt = (hr29 129 2).toInt := congrArg Int32.toInt (pA_r31.get 129 2 (by decide))
    have w_r31_129_3 : (hr31 129 3).toInt = (hr29 129 3).toInt := congrArg Int32.toInt (pA_r31.get 129 3 (by decide))
    refine lv_aload_n hx hb dX9_addCommand_150 rfl (lv_at hl 1 rfl) ?_
    refine lv_dup hx hb dX9_addCommand_151 rfl ?_
    refine pg_iv (Z := (gW Z yr4)) M V 9 3 (v := v1) (c_is_129 S) pC9 fk9_3 ((pA_r31.get 129 3 (by decide)).trans ((pA_r29.get 129 3 (by decide)).trans ((pA_r23.get 129 3 (by decide)).trans ((pA_r21.get 129 3 (by decide)).trans ((pA_r19.get 129 3 (by decide)).trans ((pA_r16.get 129 3 (by decide)).trans ((pA_r13.get 129 3 (by decide)).trans ((pA_r10.get 129 3 (by decide)).trans ((pA_r4.get 129 3 (by decide)).trans ev1.symm))))))))) lkF_X9_22 dX9_addCommand_152 ?_
    refine lv_iconst (v := 1) hx hb dX9_addCommand_155 (by decide) ?_
    refine lv_iadd hx hb dX9_addCommand_156 ?_
    refine lv_topi (fun v32 ev32 => ?_)
    refine pp_i (Z := (gW Z yr4)) M V 9 3 (c_is_129 S) pC9 fk9_3 rfl lkF_X9_22 ⟨rfl, rfl⟩ dX9_addCommand_157 (fun H locs V => ?_)
    have A := A.wk (l3 := [(129, 3)]) (by decide)
    have A := A.up (o := 129) (k := 3) (v := v32) (by decide)
    have tv32 : v32.toInt = v1.toInt + 1 := by rw [ev32]; have z9 := pi_add (x := v1) (y := (1 : Int32)); rw [k_1] at z9; exact z9 (by omega)
    have I := I.up (k := 3) (v := v32) (c_is_129 S) (show (0 : Int) ≤ v32.toInt ∧ v32.toInt ≤ (9000 : Int) by omega)
    have L : pLk (gW Z yr4) (u2 _ 129 3 v32) := ⟨L.1, (show 8 * v32.toInt ≤ (zN (gW Z yr4) (qA (gW Z yr4) 129 1) : Int) by omega)⟩
    exact ge_v (Z := Z) (Z' := (gW Z yr4)) M V rfl rfl hr hlk ⟨GR, K, I, A.wk (by decide), ⟨by omega, by omega, hP0⟩, L, (show v32.toInt ≤ (h 129 3).toInt + 1 by omega)⟩ (g_re (by omega) (by omega) hPm) dX9_addCommand_160
  · skip
    have c_43 := pi_eq.mp c_43
    exact ge_v (Z := Z) (Z' := (gW Z yr4)) M V rfl rfl hr hlk ⟨GR, K, I, A.wk (by decide), ⟨by omega, by omega, hP0⟩, L, (show (hr4 129 3).toInt ≤ (h 129 3).toInt + 1 by omega)⟩ (g_re (by omega) (by omega) hPm) dX9_addCommand_46
