theorem dX12_made_0 : decode cX12_made 0 = .ok (.aload_n 0, 1) := by decide +kernel
theorem dX12_made_1 : decode cX12_made 1 = .ok (.iload_n 1, 1) := by decide +kernel
theorem dX12_made_2 : decode cX12_made 2 = .ok (.invokevirtual 365, 3) := by decide +kernel
theorem dX12_made_5 : decode cX12_made 5 = .ok (.istore_n 2, 1) := by decide +kernel
theorem dX12_made_6 : decode cX12_made 6 = .ok (.iload_n 2, 1) := by decide +kernel
theorem dX12_made_7 : decode cX12_made 7 = .ok (.iconst (-1), 1) := by decide +kernel
theorem dX12_made_8 : decode cX12_made 8 = .ok (.if_icmp .ne 12, 3) := by decide +kernel
theorem dX12_made_11 : decode cX12_made 11 = .ok (.aload_n 0, 1) := by decide +kernel
theorem dX12_made_12 : decode cX12_made 12 = .ok (.getfield 362, 3) := by decide +kernel
theorem dX12_made_15 : decode cX12_made 15 = .ok (.bipush 40, 2) := by decide +kernel
theorem dX12_made_17 : decode cX12_made 17 = .ok (.if_icmp .ne 5, 3) := by decide +kernel
theorem dX12_made_20 : decode cX12_made 20 = .ok (.iload_n 2, 1) := by decide +kernel
theorem dX12_made_21 : decode cX12_made 21 = .ok (.ireturn, 1) := by decide +kernel
theorem dX12_made_22 : decode cX12_made 22 = .ok (.aload_n 0, 1) := by decide +kernel
theorem dX12_made_23 : decode cX12_made 23 = .ok (.getfield 153, 3) := by decide +kernel
theorem dX12_made_26 : decode cX12_made 26 = .ok (.aload_n 0, 1) := by decide +kernel
theorem dX12_made_27 : decode cX12_made 27 = .ok (.getfield 362, 3) := by decide +kernel
theorem dX12_made_30 : decode cX12_made 30 = .ok (.iload_n 1, 1) := by decide +kernel
theorem dX12_made_31 : decode cX12_made 31 = .ok (.iastore, 1) := by decide +kernel
theorem dX12_made_32 : decode cX12_made 32 = .ok (.aload_n 0, 1) := by decide +kernel
theorem dX12_made_33 : decode cX12_made 33 = .ok (.getfield 156, 3) := by decide +kernel
theorem dX12_made_36 : decode cX12_made 36 = .ok (.aload_n 0, 1) := by decide +kernel
theorem dX12_made_37 : decode cX12_made 37 = .ok (.getfield 362, 3) := by decide +kernel
theorem dX12_made_40 : decode cX12_made 40 = .ok (.iconst 0, 1) := by decide +kernel
theorem dX12_made_41 : decode cX12_made 41 = .ok (.iastore, 1) := by decide +kernel
theorem dX12_made_42 : decode cX12_made 42 = .ok (.aload_n 0, 1) := by decide +kernel
theorem dX12_made_43 : decode cX12_made 43 = .ok (.getfield 162, 3) := by decide +kernel
theorem dX12_made_46 : decode cX12_made 46 = .ok (.aload_n 0, 1) := by decide +kernel
theorem dX12_made_47 : decode cX12_made 47 = .ok (.getfield 362, 3) := by decide +kernel
theorem dX12_made_50 : decode cX12_made 50 = .ok (.iconst 0, 1) := by decide +kernel
theorem dX12_made_51 : decode cX12_made 51 = .ok (.iastore, 1) := by decide +kernel
theorem dX12_made_52 : decode cX12_made 52 = .ok (.aload_n 0, 1) := by decide +kernel
theorem dX12_made_53 : decode cX12_made 53 = .ok (.getfield 165, 3) := by decide +kernel
theorem dX12_made_56 : decode cX12_made 56 = .ok (.aload_n 0, 1) := by decide +kernel
theorem dX12_made_57 : decode cX12_made 57 = .ok (.getfield 362, 3) := by decide +kernel
theorem dX12_made_60 : decode cX12_made 60 = .ok (.iconst 0, 1) := by decide +kernel
theorem dX12_made_61 : decode cX12_made 61 = .ok (.iastore, 1) := by decide +kernel
theorem dX12_made_62 : decode cX12_made 62 = .ok (.aload_n 0, 1) := by decide +kernel
theorem dX12_made_63 : decode cX12_made 63 = .ok (.dup, 1) := by decide +kernel
theorem dX12_made_64 : decode cX12_made 64 = .ok (.getfield 362, 3) := by decide +kernel
theorem dX12_made_67 : decode cX12_made 67 = .ok (.iconst 1, 1) := by decide +kernel
theorem dX12_made_68 : decode cX12_made 68 = .ok (.iadd, 1) := by decide +kernel
theorem dX12_made_69 : decode cX12_made 69 = .ok (.putfield 362, 3) := by decide +kernel
theorem dX12_made_72 : decode cX12_made 72 = .ok (.aload_n 0, 1) := by decide +kernel
theorem dX12_made_73 : decode cX12_made 73 = .ok (.getfield 362, 3) := by decide +kernel
theorem dX12_made_76 : decode cX12_made 76 = .ok (.iconst 1, 1) := by decide +kernel
theorem dX12_made_77 : decode cX12_made 77 = .ok (.isub, 1) := by decide +kernel
theorem dX12_made_78 : decode cX12_made 78 = .ok (.ireturn, 1) := by decide +kernel
set_option maxHeartbeats 4000000 in
set_option maxRecDepth 100000 in
theorem m_X12_made (l : Launch) {Z : pZ} (S : pSh Z) {h : pH} (I : Iv Z h) (id : Int32) (K9 : mK h) : pMet l yX12_made cX12_made 3 (some .int) 1 0 0 22 Z h [.ref (zB Z + 137), .int id] (pQi Z (fun r Z1 h1 => Z = Z1 ∧ Iv Z h1 ∧ agr [(137, 79), (181, 1000), (182, 1000), (184, 1000), (185, 1000)] h h1 ∧ (-1 ≤ r.toInt ∧ r.toInt ≤ 39) ∧ (mK h1))) := by
  refine pOfW (lv := [(0, .ref (zB Z + 137)), (1, .int id)]) (by decide) (Nat.le_of_ble_eq_true rfl) rfl ?_
  intro p e s m below meth c ls M hr hlk hnm V hl
  have hx := M.1.1
  have hb := M.1.2.1
  have A : agr [] h h := agr.rf
  have J_20 : ∀ (x20_2 : Int32) (hJ : pH) (H : Heap) (locs : List Loc) (ls : Array Slot), pV Z hJ s.heap H locs → Iv Z hJ → agr [] h hJ → lv_has ls 3 [(0, .ref (zB Z + 137)), (1, .int id), (2, .int x20_2)] → (-1 ≤ x20_2.toInt ∧ x20_2.toInt ≤ 39) → mK hJ → W p l e (pRm 1 0 0 22) s m ([.ref (zB Z + 137), .int id] : List Value).toArray below meth c H locs 0 0 (MQ below (pQi Z (fun r Z1 h1 => Z = Z1 ∧ Iv Z h1 ∧ agr [(137, 79), (181, 1000), (182, 1000), (184, 1000), (185, 1000)] h h1 ∧ (-1 ≤ r.toInt ∧ r.toInt ≤ 39) ∧ (mK h1))) ([.ref (zB Z + 137), .int id] : List Value).toArray s 0 0 (pA (zB Z))) (F0 m 20 ls []) := by
    intro x20_2 hJ H locs ls V I A hl g_20_2 K9
    refine lv_iload_n hx hb dX12_made_20 rfl (lv_at hl 2 rfl) ?_
    exact pe_i M V rfl rfl hr hlk rfl ⟨rfl, I, A.wk (by decide), by omega, (K9.congr rfl rfl)⟩ ⟨Nat.le_refl _, Nat.le_refl _⟩ dX12_made_21
  refine lv_aload_n hx hb dX12_made_0 rfl (lv_at hl 0 rfl) ?_
  refine lv_iload_n hx hb dX12_made_1 rfl (lv_at hl 1 rfl) ?_
  refine pk_i (pr_V M V (m_X12_find l S I id ) km_X12_find (sm_this S) pC12 lkM_X12_365 rfl hl.1 rfl (Nat.le_of_ble_eq_true rfl) ⟨Nat.le_of_ble_eq_true rfl, Nat.le_of_ble_eq_true rfl⟩ ⟨Nat.le_of_ble_eq_true rfl, Nat.le_of_ble_eq_true rfl⟩ dX12_made_2) V (fun r1 Zr1 hr1 H locs pr1 _ _ V => ?_)
  obtain ⟨rfl, I, pA_r1, fr1_0, fr1_1⟩ := pr1
  have A := A.tr pA_r1 (by decide)
  have K9 : mK hr1 := K9.congr (pA_r1.row 185 (by decide)) (pA_r1.row 184 (by decide))
  refine lv_istore_n (lv' := [(2, .int r1), (0, .ref (zB Z + 137)), (1, .int id)]) hx hb dX12_made_5 rfl hl (by decide) rfl (fun ls hl => ?_)
  refine lv_iload_n hx hb dX12_made_6 rfl (lv_at hl 0 rfl) ?_
  refine lv_iconst (v := (-1)) hx hb dX12_made_7 (by decide) ?_
  refine lv_icmp_ne (tgt := 20) hx hb dX12_made_8 (by decide) (fun c_8 => ?_) (fun c_8 => ?_)
  · skip
    have k_m1 : (-1 : Int32).toInt = -1 := rfl
    have c_8 := pi_ne c_8
    exact J_20 r1 _ _ _ _ V I (A.wk (by decide)) (lv_sub hl [1, 2, 0] rfl) (by omega) (K9.congr rfl rfl) 
  · skip
    have k_m1 : (-1 : Int32).toInt = -1 := rfl
    have c_8 := pi_eq.mp c_8
    refine lv_aload_n hx hb dX12_made_11 rfl (lv_at hl 1 rfl) ?_
    refine pg_i M V 12 79 (sm_this S) pC12 fk12_79 lkF_X12_362 dX12_made_12 ?_
    refine lv_topi (fun v2 ev2 => ?_)
    have tv2 : 0 ≤ v2.toInt ∧ v2.toInt ≤ 40 := by rw [ev2]; exact I.get (sm_this S) 79
    refine lv_bipush (v := 40) hx hb dX12_made_15 (by decide) ?_
    refine lv_icmp_ne (tgt := 22) hx hb dX12_made_17 (by decide) (fun c_17 => ?_) (fun c_17 => ?_)
    · skip
      have k_40 : (40 : Int32).toInt = 40 := rfl
      have c_17 := pi_ne c_17
      refine lv_aload_n hx hb dX12_made_22 rfl (lv_at hl 1 rfl) ?_
      refine pg_r M V 12 74 (sm_this S) pC12 fk12_74 (sm_keptId S).2.2 lkF_X12_153 dX12_made_23 ?_
      refine lv_aload_n hx hb dX12_made_26 rfl (lv_at hl 1 rfl) ?_
      refine pg_iv M V 12 79 (v := v2) (sm_this S) pC12 fk12_79 ev2.symm lkF_X12_362 dX12_made_27 ?_
      refine lv_iload_n hx hb dX12_made_30 rfl (lv_at hl 2 rfl) ?_
      refine ps_i M V (sm_keptId S).1 (by rw [(sm_keptId S).2.1]; exact pi_in (by omega)) dX12_made_31 (fun H locs V => ?_)
      have A := A.wk (l3 := [(181, 1000)]) (by decide)
      have A := A.upA (o := 181) (k := v2.toNatClampNeg) (v := id) (by decide)
      have I := I.up (k := v2.toNatClampNeg) (v := id) (sm_keptId S).1 (pi_full _)
      refine lv_aload_n hx hb dX12_made_32 rfl (lv_at hl 1 rfl) ?_
      refine pg_r M V 12 75 (sm_this S) pC12 fk12_75 (sm_keptNumber S).2.2 lkF_X12_156 dX12_made_33 ?_
      refine lv_aload_n hx hb dX12_made_36 rfl (lv_at hl 1 rfl) ?_
      refine pg_iv M V 12 79 (v := v2) (sm_this S) pC12 fk12_79 ev2.symm lkF_X12_362 dX12_made_37 ?_
      refine lv_iconst (v := 0) hx hb dX12_made_40 (by decide) ?_
      refine ps_i M V (sm_keptNumber S).1 (by rw [(sm_keptNumber S).2.1]; exact pi_in (by omega)) dX12_made_41 (fun H locs V => ?_)
      have A := A.wk (l3 := [(181, 1000), (182, 1000)]) (by decide)
      have A := A.upA (o := 182) (k := v2.toNatClampNeg) (v := (0 : Int32)) (by decide)
      have I := I.up (k := v2.toNatClampNeg) (v := (0 : Int32)) (sm_keptNumber S).1 (pi_full _)
      refine lv_aload_n hx hb dX12_made_42 rfl (lv_at hl 1 rfl) ?_
      refine pg_r M V 12 77 (sm_this S) pC12 fk12_77 (sm_keptSize S).2.2 lkF_X12_162 dX12_made_43 ?_
      refine lv_aload_n hx hb dX12_made_46 rfl (lv_at hl 1 rfl) ?_
      refine pg_iv M V 12 79 (v := v2) (sm_this S) pC12 fk12_79 ev2.symm lkF_X12_362 dX12_made_47 ?_
      refine lv_iconst (v := 0) hx hb dX12_made_50 (by decide) ?_
      refine ps_i M V (sm_keptSize S).1 (by rw [(sm_keptSize S).2.1]; exact pi_in (by omega)) dX12_made_51 (fun H locs V => ?_)
      have A := A.wk (l3 := [(181, 1000), (182, 1000), (184, 1000)]) (by decide)
      have A := A.upA (o := 184) (k := v2.toNatClampNeg) (v := (0 : Int32)) (by decide)
      have k_0 : (0 : Int32).toInt = 0 := rfl
      have I := I.up (k := v2.toNatClampNeg) (v := (0 : Int32)) (sm_keptSize S).1 (show (0 : Int) ≤ (0 : Int32).toInt ∧ (0 : Int32).toInt ≤ (12 : Int) by omega)
      refine lv_aload_n hx hb dX12_made_52 rfl (lv_at hl 1 rfl) ?_
      refine pg_r M V 12 78 (sm_this S) pC12 fk12_78 (sm_keptCaret S).2.2 lkF_X12_165 dX12_made_53 ?_
      refine lv_aload_n hx hb dX12_made_56 rfl (lv_at hl 1 rfl) ?_
      refine pg_iv M V 12 79 (v := v2) (sm_this S) pC12 fk12_79 ev2.symm lkF_X12_362 dX12_made_57 ?_
      refine lv_iconst (v := 0) hx hb dX12_made_60 (by decide) ?_
      refine ps_i M V (sm_keptCaret S).1 (by rw [(sm_keptCaret S).2.1]; exact pi_in (by omega)) dX12_made_61 (fun H locs V => ?_)
      have A := A.wk (l3 := [(181, 1000), (182, 1000), (184, 1000), (185, 1000)]) (by decide)
      have A := A.upA (o := 185) (k := v2.toNatClampNeg) (v := (0 : Int32)) (by decide)
      have I := I.up (k := v2.toNatClampNeg) (v := (0 : Int32)) (sm_keptCaret S).1 (show (0 : Int) ≤ (0 : Int32).toInt ∧ (0 : Int32).toInt ≤ (12 : Int) by omega)
      refine lv_aload_n hx hb dX12_made_62 rfl (lv_at hl 1 rfl) ?_
      refine lv_dup hx hb dX12_made_63 rfl ?_
      refine pg_iv M V 12 79 (v := v2) (sm_this S) pC12 fk12_79 ev2.symm lkF_X12_362 dX12_made_64 ?_
      refine lv_iconst (v := 1) hx hb dX12_made_67 (by decide) ?_
      refine lv_iadd hx hb dX12_made_68 ?_
      refine lv_topi (fun v3 ev3 => ?_)
      refine pp_i M V 12 79 (sm_this S) pC12 fk12_79 rfl lkF_X12_362 ⟨rfl, rfl⟩ dX12_made_69 (fun H locs V => ?_)
      have A := A.wk (l3 := [(181, 1000), (182, 1000), (184, 1000), (185, 1000), (137, 79)]) (by decide)
      have A := A.up (o := 137) (k := 79) (v := v3) (by decide)
      have k_1 : (1 : Int32).toInt = 1 := rfl
      have tv3 : v3.toInt = v2.toInt + 1 := by rw [ev3]; have z9 := pi_add (x := v2) (y := (1 : Int32)); rw [k_1] at z9; exact z9 (by omega)
      have I := I.up (k := 79) (v := v3) (sm_this S) (show (0 : Int) ≤ v3.toInt ∧ v3.toInt ≤ (40 : Int) by omega)
      refine lv_aload_n hx hb dX12_made_72 rfl (lv_at hl 1 rfl) ?_
      refine pg_iv M V 12 79 (v := v3) (sm_this S) pC12 fk12_79 rfl lkF_X12_362 dX12_made_73 ?_
      refine lv_iconst (v := 1) hx hb dX12_made_76 (by decide) ?_
      refine lv_isub hx hb dX12_made_77 ?_
      refine lv_topi (fun v4 ev4 => ?_)
      have tv4 : v4.toInt = v3.toInt - 1 := by rw [ev4]; have z9 := pi_sub (x := v3) (y := (1 : Int32)); rw [k_1] at z9; exact z9 (by omega)
      exact pe_i M V rfl rfl hr hlk rfl ⟨rfl, I, A.wk (by decide), by omega, (mK_up (cv := 0) (sv := 0) K9 rfl rfl (by decide))⟩ ⟨Nat.le_refl _, Nat.le_refl _⟩ dX12_made_78
    · skip
      have k_40 : (40 : Int32).toInt = 40 := rfl
      have c_17 := pi_eq.mp c_17
      exact J_20 r1 _ _ _ _ V I (A.wk (by decide)) (lv_sub hl [1, 2, 0] rfl) (by omega) (K9.congr rfl rfl) 
theorem dX12_numberOf_0 : decode cX12_numberOf 0 = .ok (.aload_n 0, 1) := by decide +kernel
theorem dX12_numberOf_1 : decode cX12_numberOf 1 = .ok (.iload_n 1, 1) := by decide +kernel
theorem dX12_numberOf_2 : decode cX12_numberOf 2 = .ok (.invokevirtual 365, 3) := by decide +kernel
theorem dX12_numberOf_5 : decode cX12_numberOf 5 = .ok (.iconst (-1), 1) := by decide +kernel
theorem dX12_numberOf_6 : decode cX12_numberOf 6 = .ok (.if_icmp .ne 7, 3) := by decide +kernel
theorem dX12_numberOf_9 : decode cX12_numberOf 9 = .ok (.iconst 0, 1) := by decide +kernel
theorem dX12_numberOf_10 : decode cX12_numberOf 10 = .ok (.goto 13, 3) := by decide +kernel
theorem dX12_numberOf_13 : decode cX12_numberOf 13 = .ok (.aload_n 0, 1) := by decide +kernel
theorem dX12_numberOf_14 : decode cX12_numberOf 14 = .ok (.getfield 156, 3) := by decide +kernel
theorem dX12_numberOf_17 : decode cX12_numberOf 17 = .ok (.aload_n 0, 1) := by decide +kernel
theorem dX12_numberOf_18 : decode cX12_numberOf 18 = .ok (.iload_n 1, 1) := by decide +kernel
theorem dX12_numberOf_19 : decode cX12_numberOf 19 = .ok (.invokevirtual 365, 3) := by decide +kernel
theorem dX12_numberOf_22 : decode cX12_numberOf 22 = .ok (.iaload, 1) := by decide +kernel
theorem dX12_numberOf_23 : decode cX12_numberOf 23 = .ok (.ireturn, 1) := by decide +kernel
set_option maxHeartbeats 4000000 in
set_option maxRecDepth 100000 in
theorem m_X12_numberOf (l : Launch) {Z : pZ} (S : pSh Z) {h : pH} (I : Iv Z h) (id : Int32)  : pMet l yX12_numberOf cX12_numberOf 2 (some .int) 1 0 0 22 Z h [.ref (zB Z + 137), .int id] (pQi Z (fun r Z1 h1 => Z = Z1 ∧ Iv Z h1 ∧ agr [] h h1)) := by
  refine pOfW (lv := [(0, .ref (zB Z + 137)), (1, .int id)]) (by decide) (Nat.le_of_ble_eq_true rfl) rfl ?_
  intro p e s m below meth c ls M hr hlk hnm V hl
  have hx := M.1.1
  have hb := M.1.2.1
  have A : agr [] h h := agr.rf
  have J_23 : ∀ (y23_0 : Int32) (hJ : pH) (H : Heap) (locs : List Loc) (ls : Array Slot), pV Z hJ s.heap H locs → Iv Z hJ → agr [] h hJ → lv_has ls 2 [(0, .ref (zB Z + 137)), (1, .int id)] → W p l e (pRm 1 0 0 22) s m ([.ref (zB Z + 137), .int id] : List Value).toArray below meth c H locs 0 0 (MQ below (pQi Z (fun r Z1 h1 => Z = Z1 ∧ Iv Z h1 ∧ agr [] h h1)) ([.ref (zB Z + 137), .int id] : List Value).toArray s 0 0 (pA (zB Z))) (F0 m 23 ls [.int y23_0]) := by
    intro y23_0 hJ H locs ls V I A hl
    exact pe_i M V rfl rfl hr hlk rfl ⟨rfl, I, A.wk (by decide)⟩ ⟨Nat.le_refl _, Nat.le_refl _⟩ dX12_numberOf_23
  refine lv_aload_n hx hb dX12_numberOf_0 rfl (lv_at hl 0 rfl) ?_
  refine lv_iload_n hx hb dX12_numberOf_1 rfl (lv_at hl 1 rfl) ?_
  refine pk_i (pr_V M V (m_X12_find l S I id ) km_X12_find (sm_this S) pC12 lkM_X12_365 rfl hl.1 rfl (Nat.le_of_ble_eq_true rfl) ⟨Nat.le_of_ble_eq_true rfl, Nat.le_of_ble_eq_true rfl⟩ ⟨Nat.le_of_ble_eq_true rfl, Nat.le_of_ble_eq_true rfl⟩ dX12_numberOf_2) V (fun r1 Zr1 hr1 H locs pr1 _ _ V => ?_)
  obtain ⟨rfl, I, pA_r1, fr1_0, fr1_1⟩ := pr1
  have A := A.tr pA_r1 (by decide)
  refine lv_iconst (v := (-1)) hx hb dX12_numberOf_5 (by decide) ?_
  refine lv_icmp_ne (tgt := 13) hx hb dX12_numberOf_6 (by decide) (fun c_6 => ?_) (fun c_6 => ?_)
  · skip
    have k_m1 : (-1 : Int32).toInt = -1 := rfl
    have c_6 := pi_ne c_6
    refine lv_aload_n hx hb dX12_numberOf_13 rfl (lv_at hl 0 rfl) ?_
    refine pg_r M V 12 75 (sm_this S) pC12 fk12_75 (sm_keptNumber S).2.2 lkF_X12_156 dX12_numberOf_14 ?_
    refine lv_aload_n hx hb dX12_numberOf_17 rfl (lv_at hl 0 rfl) ?_
    refine lv_iload_n hx hb dX12_numberOf_18 rfl (lv_at hl 1 rfl) ?_
    refine pk_i (pr_V M V (m_X12_find l S I id ) km_X12_find (sm_this S) pC12 lkM_X12_365 rfl hl.1 rfl (Nat.le_of_ble_eq_true rfl) ⟨Nat.le_of_ble_eq_true rfl, Nat.le_of_ble_eq_true rfl⟩ ⟨Nat.le_of_ble_eq_true rfl, Nat.le_of_ble_eq_true rfl⟩ dX12_numberOf_19) V (fun r2 Zr2 hr2 H locs pr2 _ _ V => ?_)
    obtain ⟨rfl, I, pA_r2, fr2_0, fr2_1⟩ := pr2
    have A := A.tr pA_r2 (by decide)
    have q9 := isF.uniq fr1_1 (isF.congr fr2_1 (pA_r1.get 137 79 rfl).symm ((pA_r1.row 181 rfl)).symm)
    refine pa_i M V (sm_keptNumber S).1 (by rw [(sm_keptNumber S).2.1]; exact pi_in (by omega)) dX12_numberOf_22 ?_
    refine lv_topi (fun v3 ev3 => ?_)
    exact J_23 v3 _ _ _ _ V I (A.wk (by decide)) (lv_sub hl [0, 1] rfl) 
  · skip
    have k_m1 : (-1 : Int32).toInt = -1 := rfl
    have c_6 := pi_eq.mp c_6
    refine lv_iconst (v := 0) hx hb dX12_numberOf_9 (by decide) ?_
    refine lv_goto (tgt := 23) hx hb dX12_numberOf_10 (by decide) ?_
    exact J_23 (0 : Int32) _ _ _ _ V I (A.wk (by decide)) (lv_sub hl [0, 1] rfl) 
theorem dX12_keep_0 : decode cX12_keep 0 = .ok (.iload_n 2, 1) := by decide +kernel
theorem dX12_keep_1 : decode cX12_keep 1 = .ok (.ifCond .ne 11, 3) := by decide +kernel
theorem dX12_keep_4 : decode cX12_keep 4 = .ok (.aload_n 0, 1) := by decide +kernel
theorem dX12_keep_5 : decode cX12_keep 5 = .ok (.iload_n 1, 1) := by decide +kernel
theorem dX12_keep_6 : decode cX12_keep 6 = .ok (.invokevirtual 365, 3) := by decide +kernel
theorem dX12_keep_9 : decode cX12_keep 9 = .ok (.goto 8, 3) := by decide +kernel
theorem dX12_keep_12 : decode cX12_keep 12 = .ok (.aload_n 0, 1) := by decide +kernel
theorem dX12_keep_13 : decode cX12_keep 13 = .ok (.iload_n 1, 1) := by decide +kernel
theorem dX12_keep_14 : decode cX12_keep 14 = .ok (.invokevirtual 368, 3) := by decide +kernel
theorem dX12_keep_17 : decode cX12_keep 17 = .ok (.istore_n 3, 1) := by decide +kernel
theorem dX12_keep_18 : decode cX12_keep 18 = .ok (.iload_n 3, 1) := by decide +kernel
theorem dX12_keep_19 : decode cX12_keep 19 = .ok (.iconst (-1), 1) := by decide +kernel
theorem dX12_keep_20 : decode cX12_keep 20 = .ok (.if_icmp .eq 10, 3) := by decide +kernel
theorem dX12_keep_23 : decode cX12_keep 23 = .ok (.aload_n 0, 1) := by decide +kernel
theorem dX12_keep_24 : decode cX12_keep 24 = .ok (.getfield 156, 3) := by decide +kernel
theorem dX12_keep_27 : decode cX12_keep 27 = .ok (.iload_n 3, 1) := by decide +kernel
theorem dX12_keep_28 : decode cX12_keep 28 = .ok (.iload_n 2, 1) := by decide +kernel
theorem dX12_keep_29 : decode cX12_keep 29 = .ok (.iastore, 1) := by decide +kernel
theorem dX12_keep_30 : decode cX12_keep 30 = .ok (.return_, 1) := by decide +kernel
set_option maxHeartbeats 4000000 in
set_option maxRecDepth 100000 in
theorem m_X12_keep (l : Launch) {Z : pZ} (S : pSh Z) {h : pH} (I : Iv Z h) (id : Int32) (v : Int32) (K9 : mK h) : pMet l yX12_keep cX12_keep 4 none 2 0 0 44 Z h [.ref (zB Z + 137), .int id, .int v] (pQv Z (fun Z1 h1 => Z = Z1 ∧ Iv Z h1 ∧ agr [(137, 79), (181, 1000), (182, 1000), (184, 1000), (185, 1000)] h h1 ∧ (mK h1))) := by
  refine pOfW (lv := [(0, .ref (zB Z + 137)), (1, .int id), (2, .int v)]) (by decide) (Nat.le_of_ble_eq_true rfl) rfl ?_
  intro p e s m below meth c ls M hr hlk hnm V hl
  have hx := M.1.1
  have hb := M.1.2.1
  have A : agr [] h h := agr.rf
  have J_30 : ∀ (x30_3 : Int32) (hJ : pH) (H : Heap) (locs : List Loc) (ls : Array Slot), pV Z hJ s.heap H locs → Iv Z hJ → agr [(137, 79), (181, 1000), (182, 1000), (184, 1000), (185, 1000)] h hJ → lv_has ls 4 [(0, .ref (zB Z + 137)), (1, .int id), (2, .int v), (3, .int x30_3)] → (-1 ≤ x30_3.toInt ∧ x30_3.toInt ≤ 39) → mK hJ → W p l e (pRm 2 0 0 44) s m ([.ref (zB Z + 137), .int id, .int v] : List Value).toArray below meth c H locs 0 0 (MQ below (pQv Z (fun Z1 h1 => Z = Z1 ∧ Iv Z h1 ∧ agr [(137, 79), (181, 1000), (182, 1000), (184, 1000), (185, 1000)] h h1 ∧ (mK h1))) ([.ref (zB Z + 137), .int id, .int v] : List Value).toArray s 0 0 (pA (zB Z))) (F0 m 30 ls []) := by
    intro x30_3 hJ H locs ls V I A hl g_30_3 K9
    exact pe_v M V rfl rfl hr hlk ⟨rfl, I, A.wk (by decide), (K9.congr rfl rfl)⟩ ⟨Nat.le_refl _, Nat.le_refl _⟩ dX12_keep_30
  have J_17 : ∀ (y17_0 : Int32) (hJ : pH) (H : Heap) (locs : List Loc) (ls : Array Slot), pV Z hJ s.heap H locs → Iv Z hJ → agr [(137, 79), (181, 1000), (182, 1000), (184, 1000), (185, 1000)] h hJ → lv_has ls 4 [(0, .ref (zB Z + 137)), (1, .int id), (2, .int v)] → (-1 ≤ y17_0.toInt ∧ y17_0.toInt ≤ 39) → mK hJ → W p l e (pRm 2 0 0 44) s m ([.ref (zB Z + 137), .int id, .int v] : List Value).toArray below meth c H locs 0 0 (MQ below (pQv Z (fun Z1 h1 => Z = Z1 ∧ Iv Z h1 ∧ agr [(137, 79), (181, 1000), (182, 1000), (184, 1000), (185, 1000)] h h1 ∧ (mK h1))) ([.ref (zB Z + 137), .int id, .int v] : List Value).toArray s 0 0 (pA (zB Z))) (F0 m 17 ls [.int y17_0]) := by
    intro y17_0 hJ H locs ls V I A hl gs_17_0 K9
    refine lv_istore_n (lv' := [(3, .int y17_0), (0, .ref (zB Z + 137)), (1, .int id), (2, .int v)]) hx hb dX12_keep_17 rfl hl (by decide) rfl (fun ls hl => ?_)
    refine lv_iload_n hx hb dX12_keep_18 rfl (lv_at hl 0 rfl) ?_
    refine lv_iconst (v := (-1)) hx hb dX12_keep_19 (by decide) ?_
    refine lv_icmp_eq (tgt := 30) hx hb dX12_keep_20 (by decide) (fun c_20 => ?_) (fun c_20 => ?_)
    · skip
      have k_m1 : (-1 : Int32).toInt = -1 := rfl
      have c_20 := pi_eq.mp c_20
      exact J_30 y17_0 _ _ _ _ V I (A.wk (by decide)) (lv_sub hl [1, 2, 3, 0] rfl) (by omega) (K9.congr rfl rfl) 
    · skip
      have k_m1 : (-1 : Int32).toInt = -1 := rfl
      have c_20 := pi_ne c_20
      refine lv_aload_n hx hb dX12_keep_23 rfl (lv_at hl 1 rfl) ?_
      refine pg_r M V 12 75 (sm_this S) pC12 fk12_75 (sm_keptNumber S).2.2 lkF_X12_156 dX12_keep_24 ?_
      refine lv_iload_n hx hb dX12_keep_27 rfl (lv_at hl 0 rfl) ?_
      refine lv_iload_n hx hb dX12_keep_28 rfl (lv_at hl 3 rfl) ?_
      refine ps_i M V (sm_keptNumber S).1 (by rw [(sm_keptNumber S).2.1]; exact pi_in (by omega)) dX12_keep_29 (fun H locs V => ?_)
      have A := A.upA (o := 182) (k := y17_0.toNatClampNeg) (v := v) (by decide)
      have I := I.up (k := y17_0.toNatClampNeg) (v := v) (sm_keptNumber S).1 (pi_full _)
      exact J_30 y17_0 _ _ _ _ V I (A.wk (by decide)) (lv_sub hl [1, 2, 3, 0] rfl) (by omega) (K9.congr rfl rfl) 
  refine lv_iload_n hx hb dX12_keep_0 rfl (lv_at hl 2 rfl) ?_
  refine lv_if_ne (tgt := 12) hx hb dX12_keep_1 (by decide) (fun c_1 => ?_) (fun c_1 => ?_)
  · skip
    have k_0 : (0 : Int32).toInt = 0 := rfl
    have c_1 := pi_ne c_1
    refine lv_aload_n hx hb dX12_keep_12 rfl (lv_at hl 0 rfl) ?_
    refine lv_iload_n hx hb dX12_keep_13 rfl (lv_at hl 1 rfl) ?_
    refine pk_i (pr_V M V (m_X12_made l S I id (K9.congr rfl rfl)) km_X12_made (sm_this S) pC12 lkM_X12_368 rfl hl.1 rfl (Nat.le_of_ble_eq_true rfl) ⟨Nat.le_of_ble_eq_true rfl, Nat.le_of_ble_eq_true rfl⟩ ⟨Nat.le_of_ble_eq_true rfl, Nat.le_of_ble_eq_true rfl⟩ dX12_keep_14) V (fun r1 Zr1 hr1 H locs pr1 _ _ V => ?_)
    obtain ⟨rfl, I, pA_r1, fr1_0, fr1_1⟩ := pr1
    have A := A.wk (l3 := [(137, 79), (181, 1000), (182, 1000), (184, 1000), (185, 1000)]) (by decide)
    have A := A.tr pA_r1 (by decide)
    have K9 : mK hr1 := fr1_1
    exact J_17 r1 _ _ _ _ V I (A.wk (by decide)) (lv_sub hl [0, 1, 2] rfl) (by omega) (K9.congr rfl rfl) 
  · skip
    have k_0 : (0 : Int32).toInt = 0 := rfl
    have c_1 := pi_eq.mp c_1
    refine lv_aload_n hx hb dX12_keep_4 rfl (lv_at hl 0 rfl) ?_
    refine lv_iload_n hx hb dX12_keep_5 rfl (lv_at hl 1 rfl) ?_
    refine pk_i (pr_V M V (m_X12_find l S I id ) km_X12_find (sm_this S) pC12 lkM_X12_365 rfl hl.1 rfl (Nat.le_of_ble_eq_true rfl) ⟨Nat.le_of_ble_eq_true rfl, Nat.le_of_ble_eq_true rfl⟩ ⟨Nat.le_of_ble_eq_true rfl, Nat.le_of_ble_eq_true rfl⟩ dX12_keep_6) V (fun r2 Zr2 hr2 H locs pr2 _ _ V => ?_)
    obtain ⟨rfl, I, pA_r2, fr2_0, fr2_1⟩ := pr2
    have A := A.tr pA_r2 (by decide)
    have K9 : mK hr2 := K9.congr (pA_r2.row 185 (by decide)) (pA_r2.row 184 (by decide))
    refine lv_goto (tgt := 17) hx hb dX12_keep_9 (by decide) ?_
    exact J_17 r2 _ _ _ _ V I (A.wk (by decide)) (lv_sub hl [0, 1, 2] rfl) (by omega) (K9.congr rfl rfl) 
theorem dX12_behaves_0 : decode cX12_behaves 0 = .ok (.aload_n 0, 1) := by decide +kernel
theorem dX12_behaves_1 : decode cX12_behaves 1 = .ok (.getfield 150, 3) := by decide +kernel
theorem dX12_behaves_4 : decode cX12_behaves 4 = .ok (.iconst 0, 1) := by decide +kernel
theorem dX12_behaves_5 : decode cX12_behaves 5 = .ok (.iaload, 1) := by decide +kernel
theorem dX12_behaves_6 : decode cX12_behaves 6 = .ok (.aload_n 0, 1) := by decide +kernel
theorem dX12_behaves_7 : decode cX12_behaves 7 = .ok (.getfield 147, 3) := by decide +kernel
theorem dX12_behaves_10 : decode cX12_behaves 10 = .ok (.iconst 0, 1) := by decide +kernel
theorem dX12_behaves_11 : decode cX12_behaves 11 = .ok (.iaload, 1) := by decide +kernel
theorem dX12_behaves_12 : decode cX12_behaves 12 = .ok (.invokestatic 182, 3) := by decide +kernel
theorem dX12_behaves_15 : decode cX12_behaves 15 = .ok (.istore_n 2, 1) := by decide +kernel
theorem dX12_behaves_16 : decode cX12_behaves 16 = .ok (.aload_n 0, 1) := by decide +kernel
theorem dX12_behaves_17 : decode cX12_behaves 17 = .ok (.getfield 150, 3) := by decide +kernel
theorem dX12_behaves_20 : decode cX12_behaves 20 = .ok (.iconst 1, 1) := by decide +kernel
theorem dX12_behaves_21 : decode cX12_behaves 21 = .ok (.iaload, 1) := by decide +kernel
theorem dX12_behaves_22 : decode cX12_behaves 22 = .ok (.aload_n 0, 1) := by decide +kernel
theorem dX12_behaves_23 : decode cX12_behaves 23 = .ok (.getfield 147, 3) := by decide +kernel
theorem dX12_behaves_26 : decode cX12_behaves 26 = .ok (.iconst 1, 1) := by decide +kernel
theorem dX12_behaves_27 : decode cX12_behaves 27 = .ok (.iaload, 1) := by decide +kernel
theorem dX12_behaves_28 : decode cX12_behaves 28 = .ok (.invokestatic 182, 3) := by decide +kernel
theorem dX12_behaves_31 : decode cX12_behaves 31 = .ok (.istore_n 3, 1) := by decide +kernel
theorem dX12_behaves_32 : decode cX12_behaves 32 = .ok (.aload_n 0, 1) := by decide +kernel
theorem dX12_behaves_33 : decode cX12_behaves 33 = .ok (.getfield 150, 3) := by decide +kernel
theorem dX12_behaves_36 : decode cX12_behaves 36 = .ok (.iconst 2, 1) := by decide +kernel
theorem dX12_behaves_37 : decode cX12_behaves 37 = .ok (.iaload, 1) := by decide +kernel
theorem dX12_behaves_38 : decode cX12_behaves 38 = .ok (.aload_n 0, 1) := by decide +kernel
theorem dX12_behaves_39 : decode cX12_behaves 39 = .ok (.getfield 147, 3) := by decide +kernel
theorem dX12_behaves_42 : decode cX12_behaves 42 = .ok (.iconst 2, 1) := by decide +kernel
theorem dX12_behaves_43 : decode cX12_behaves 43 = .ok (.iaload, 1) := by decide +kernel
theorem dX12_behaves_44 : decode cX12_behaves 44 = .ok (.invokestatic 178, 3) := by decide +kernel
theorem dX12_behaves_47 : decode cX12_behaves 47 = .ok (.istore 4, 2) := by decide +kernel
theorem dX12_behaves_49 : decode cX12_behaves 49 = .ok (.aload_n 0, 1) := by decide +kernel
theorem dX12_behaves_50 : decode cX12_behaves 50 = .ok (.getfield 150, 3) := by decide +kernel
theorem dX12_behaves_53 : decode cX12_behaves 53 = .ok (.iconst 3, 1) := by decide +kernel
theorem dX12_behaves_54 : decode cX12_behaves 54 = .ok (.iaload, 1) := by decide +kernel
theorem dX12_behaves_55 : decode cX12_behaves 55 = .ok (.aload_n 0, 1) := by decide +kernel
theorem dX12_behaves_56 : decode cX12_behaves 56 = .ok (.getfield 147, 3) := by decide +kernel
theorem dX12_behaves_59 : decode cX12_behaves 59 = .ok (.iconst 3, 1) := by decide +kernel
theorem dX12_behaves_60 : decode cX12_behaves 60 = .ok (.iaload, 1) := by decide +kernel
theorem dX12_behaves_61 : decode cX12_behaves 61 = .ok (.invokestatic 178, 3) := by decide +kernel
theorem dX12_behaves_64 : decode cX12_behaves 64 = .ok (.istore 5, 2) := by decide +kernel
theorem dX12_behaves_66 : decode cX12_behaves 66 = .ok (.aload_n 0, 1) := by decide +kernel
theorem dX12_behaves_67 : decode cX12_behaves 67 = .ok (.aload_n 0, 1) := by decide +kernel
theorem dX12_behaves_68 : decode cX12_behaves 68 = .ok (.getfield 192, 3) := by decide +kernel
theorem dX12_behaves_71 : decode cX12_behaves 71 = .ok (.aload_n 0, 1) := by decide +kernel
theorem dX12_behaves_72 : decode cX12_behaves 72 = .ok (.getfield 195, 3) := by decide +kernel
theorem dX12_behaves_75 : decode cX12_behaves 75 = .ok (.iload_n 2, 1) := by decide +kernel
theorem dX12_behaves_76 : decode cX12_behaves 76 = .ok (.iload_n 3, 1) := by decide +kernel
theorem dX12_behaves_77 : decode cX12_behaves 77 = .ok (.iload 4, 2) := by decide +kernel
theorem dX12_behaves_79 : decode cX12_behaves 79 = .ok (.iload 5, 2) := by decide +kernel
theorem dX12_behaves_81 : decode cX12_behaves 81 = .ok (.invokevirtual 228, 3) := by decide +kernel
theorem dX12_behaves_84 : decode cX12_behaves 84 = .ok (.ifCond .eq 40, 3) := by decide +kernel
theorem dX12_behaves_87 : decode cX12_behaves 87 = .ok (.aload_n 0, 1) := by decide +kernel
theorem dX12_behaves_88 : decode cX12_behaves 88 = .ok (.getfield 26, 3) := by decide +kernel
theorem dX12_behaves_91 : decode cX12_behaves 91 = .ok (.aload_n 0, 1) := by decide +kernel
theorem dX12_behaves_92 : decode cX12_behaves 92 = .ok (.getfield 144, 3) := by decide +kernel
theorem dX12_behaves_95 : decode cX12_behaves 95 = .ok (.if_icmp .ne 29, 3) := by decide +kernel
theorem dX12_behaves_98 : decode cX12_behaves 98 = .ok (.aload_n 0, 1) := by decide +kernel
theorem dX12_behaves_99 : decode cX12_behaves 99 = .ok (.getfield 255, 3) := by decide +kernel
theorem dX12_behaves_102 : decode cX12_behaves 102 = .ok (.ifCond .eq 11, 3) := by decide +kernel
theorem dX12_behaves_105 : decode cX12_behaves 105 = .ok (.aload_n 0, 1) := by decide +kernel
theorem dX12_behaves_106 : decode cX12_behaves 106 = .ok (.getfield 255, 3) := by decide +kernel
theorem dX12_behaves_109 : decode cX12_behaves 109 = .ok (.iload_n 1, 1) := by decide +kernel
theorem dX12_behaves_110 : decode cX12_behaves 110 = .ok (.if_icmp .ne 14, 3) := by decide +kernel
theorem dX12_behaves_113 : decode cX12_behaves 113 = .ok (.aload_n 0, 1) := by decide +kernel
theorem dX12_behaves_114 : decode cX12_behaves 114 = .ok (.getfield 264, 3) := by decide +kernel
theorem dX12_behaves_117 : decode cX12_behaves 117 = .ok (.ifCond .ne 7, 3) := by decide +kernel
theorem dX12_behaves_120 : decode cX12_behaves 120 = .ok (.iconst 1, 1) := by decide +kernel
theorem dX12_behaves_121 : decode cX12_behaves 121 = .ok (.goto 4, 3) := by decide +kernel
theorem dX12_behaves_124 : decode cX12_behaves 124 = .ok (.iconst 0, 1) := by decide +kernel
theorem dX12_behaves_125 : decode cX12_behaves 125 = .ok (.istore 6, 2) := by decide +kernel
theorem dX12_behaves_127 : decode cX12_behaves 127 = .ok (.iload 6, 2) := by decide +kernel
theorem dX12_behaves_129 : decode cX12_behaves 129 = .ok (.ifCond .eq 8, 3) := by decide +kernel
theorem dX12_behaves_132 : decode cX12_behaves 132 = .ok (.aload_n 0, 1) := by decide +kernel
theorem dX12_behaves_133 : decode cX12_behaves 133 = .ok (.iload_n 1, 1) := by decide +kernel
theorem dX12_behaves_134 : decode cX12_behaves 134 = .ok (.putfield 264, 3) := by decide +kernel
theorem dX12_behaves_137 : decode cX12_behaves 137 = .ok (.iconst 0, 1) := by decide +kernel
theorem dX12_behaves_138 : decode cX12_behaves 138 = .ok (.istore 7, 2) := by decide +kernel
theorem dX12_behaves_140 : decode cX12_behaves 140 = .ok (.aload_n 0, 1) := by decide +kernel
theorem dX12_behaves_141 : decode cX12_behaves 141 = .ok (.getfield 17, 3) := by decide +kernel
theorem dX12_behaves_144 : decode cX12_behaves 144 = .ok (.iconst 0, 1) := by decide +kernel
theorem dX12_behaves_145 : decode cX12_behaves 145 = .ok (.baload, 1) := by decide +kernel
theorem dX12_behaves_146 : decode cX12_behaves 146 = .ok (.ifCond .eq 46, 3) := by decide +kernel
theorem dX12_behaves_149 : decode cX12_behaves 149 = .ok (.aload_n 0, 1) := by decide +kernel
theorem dX12_behaves_150 : decode cX12_behaves 150 = .ok (.getfield 273, 3) := by decide +kernel
theorem dX12_behaves_153 : decode cX12_behaves 153 = .ok (.ifCond .ne 39, 3) := by decide +kernel
theorem dX12_behaves_156 : decode cX12_behaves 156 = .ok (.aload_n 0, 1) := by decide +kernel
theorem dX12_behaves_157 : decode cX12_behaves 157 = .ok (.getfield 294, 3) := by decide +kernel
theorem dX12_behaves_160 : decode cX12_behaves 160 = .ok (.ifCond .eq 32, 3) := by decide +kernel
theorem dX12_behaves_163 : decode cX12_behaves 163 = .ok (.iload_n 1, 1) := by decide +kernel
theorem dX12_behaves_164 : decode cX12_behaves 164 = .ok (.aload_n 0, 1) := by decide +kernel
theorem dX12_behaves_165 : decode cX12_behaves 165 = .ok (.getfield 294, 3) := by decide +kernel
theorem dX12_behaves_168 : decode cX12_behaves 168 = .ok (.if_icmp .eq 24, 3) := by decide +kernel
theorem dX12_behaves_171 : decode cX12_behaves 171 = .ok (.aload_n 0, 1) := by decide +kernel
theorem dX12_behaves_172 : decode cX12_behaves 172 = .ok (.aload_n 0, 1) := by decide +kernel
theorem dX12_behaves_173 : decode cX12_behaves 173 = .ok (.getfield 294, 3) := by decide +kernel
theorem dX12_behaves_176 : decode cX12_behaves 176 = .ok (.invokevirtual 359, 3) := by decide +kernel
theorem dX12_behaves_179 : decode cX12_behaves 179 = .ok (.ifCond .eq 13, 3) := by decide +kernel
theorem dX12_behaves_182 : decode cX12_behaves 182 = .ok (.aload_n 0, 1) := by decide +kernel
theorem dX12_behaves_183 : decode cX12_behaves 183 = .ok (.iload_n 1, 1) := by decide +kernel
theorem dX12_behaves_184 : decode cX12_behaves 184 = .ok (.invokevirtual 300, 3) := by decide +kernel
theorem dX12_behaves_187 : decode cX12_behaves 187 = .ok (.aload_n 0, 1) := by decide +kernel
theorem dX12_behaves_188 : decode cX12_behaves 188 = .ok (.iconst 1, 1) := by decide +kernel
theorem dX12_behaves_189 : decode cX12_behaves 189 = .ok (.putfield 273, 3) := by decide +kernel
theorem dX12_behaves_192 : decode cX12_behaves 192 = .ok (.aload_n 0, 1) := by decide +kernel
theorem dX12_behaves_193 : decode cX12_behaves 193 = .ok (.getfield 33, 3) := by decide +kernel
theorem dX12_behaves_196 : decode cX12_behaves 196 = .ok (.aload_n 0, 1) := by decide +kernel
theorem dX12_behaves_197 : decode cX12_behaves 197 = .ok (.getfield 270, 3) := by decide +kernel
theorem dX12_behaves_200 : decode cX12_behaves 200 = .ok (.iload_n 1, 1) := by decide +kernel
theorem dX12_behaves_201 : decode cX12_behaves 201 = .ok (.iastore, 1) := by decide +kernel
theorem dX12_behaves_202 : decode cX12_behaves 202 = .ok (.aload_n 0, 1) := by decide +kernel
theorem dX12_behaves_203 : decode cX12_behaves 203 = .ok (.dup, 1) := by decide +kernel
theorem dX12_behaves_204 : decode cX12_behaves 204 = .ok (.getfield 270, 3) := by decide +kernel
theorem dX12_behaves_207 : decode cX12_behaves 207 = .ok (.iconst 1, 1) := by decide +kernel
theorem dX12_behaves_208 : decode cX12_behaves 208 = .ok (.iadd, 1) := by decide +kernel
theorem dX12_behaves_209 : decode cX12_behaves 209 = .ok (.putfield 270, 3) := by decide +kernel
theorem dX12_behaves_212 : decode cX12_behaves 212 = .ok (.iload 6, 2) := by decide +kernel
theorem dX12_behaves_214 : decode cX12_behaves 214 = .ok (.ifCond .eq 27, 3) := by decide +kernel
theorem dX12_behaves_217 : decode cX12_behaves 217 = .ok (.aload_n 0, 1) := by decide +kernel
theorem dX12_behaves_218 : decode cX12_behaves 218 = .ok (.getfield 202, 3) := by decide +kernel
theorem dX12_behaves_221 : decode cX12_behaves 221 = .ok (.ifCond .eq 20, 3) := by decide +kernel
theorem dX12_behaves_224 : decode cX12_behaves 224 = .ok (.aload_n 0, 1) := by decide +kernel
theorem dX12_behaves_225 : decode cX12_behaves 225 = .ok (.getfield 255, 3) := by decide +kernel
theorem dX12_behaves_228 : decode cX12_behaves 228 = .ok (.ifCond .ne 13, 3) := by decide +kernel
theorem dX12_behaves_231 : decode cX12_behaves 231 = .ok (.aload_n 0, 1) := by decide +kernel
theorem dX12_behaves_232 : decode cX12_behaves 232 = .ok (.iload_n 1, 1) := by decide +kernel
theorem dX12_behaves_233 : decode cX12_behaves 233 = .ok (.putfield 255, 3) := by decide +kernel
theorem dX12_behaves_236 : decode cX12_behaves 236 = .ok (.aload_n 0, 1) := by decide +kernel
theorem dX12_behaves_237 : decode cX12_behaves 237 = .ok (.iload_n 1, 1) := by decide +kernel
theorem dX12_behaves_238 : decode cX12_behaves 238 = .ok (.invokevirtual 300, 3) := by decide +kernel
theorem dX12_behaves_241 : decode cX12_behaves 241 = .ok (.aload_n 0, 1) := by decide +kernel
theorem dX12_behaves_242 : decode cX12_behaves 242 = .ok (.getfield 255, 3) := by decide +kernel
theorem dX12_behaves_245 : decode cX12_behaves 245 = .ok (.iload_n 1, 1) := by decide +kernel
theorem dX12_behaves_246 : decode cX12_behaves 246 = .ok (.if_icmp .ne 19, 3) := by decide +kernel
theorem dX12_behaves_249 : decode cX12_behaves 249 = .ok (.aload_n 0, 1) := by decide +kernel
theorem dX12_behaves_250 : decode cX12_behaves 250 = .ok (.getfield 205, 3) := by decide +kernel
theorem dX12_behaves_253 : decode cX12_behaves 253 = .ok (.ifCond .eq 12, 3) := by decide +kernel
theorem dX12_behaves_256 : decode cX12_behaves 256 = .ok (.aload_n 0, 1) := by decide +kernel
theorem dX12_behaves_257 : decode cX12_behaves 257 = .ok (.iconst 0, 1) := by decide +kernel
theorem dX12_behaves_258 : decode cX12_behaves 258 = .ok (.putfield 255, 3) := by decide +kernel
theorem dX12_behaves_261 : decode cX12_behaves 261 = .ok (.iload 6, 2) := by decide +kernel
theorem dX12_behaves_263 : decode cX12_behaves 263 = .ok (.istore 7, 2) := by decide +kernel
theorem dX12_behaves_265 : decode cX12_behaves 265 = .ok (.aload_n 0, 1) := by decide +kernel
theorem dX12_behaves_266 : decode cX12_behaves 266 = .ok (.getfield 294, 3) := by decide +kernel
theorem dX12_behaves_269 : decode cX12_behaves 269 = .ok (.iload_n 1, 1) := by decide +kernel
theorem dX12_behaves_270 : decode cX12_behaves 270 = .ok (.if_icmp .ne 17, 3) := by decide +kernel
theorem dX12_behaves_273 : decode cX12_behaves 273 = .ok (.aload_n 0, 1) := by decide +kernel
theorem dX12_behaves_274 : decode cX12_behaves 274 = .ok (.getfield 17, 3) := by decide +kernel
theorem dX12_behaves_277 : decode cX12_behaves 277 = .ok (.iconst 1, 1) := by decide +kernel
theorem dX12_behaves_278 : decode cX12_behaves 278 = .ok (.baload, 1) := by decide +kernel
theorem dX12_behaves_279 : decode cX12_behaves 279 = .ok (.ifCond .eq 8, 3) := by decide +kernel
theorem dX12_behaves_282 : decode cX12_behaves 282 = .ok (.aload_n 0, 1) := by decide +kernel
theorem dX12_behaves_283 : decode cX12_behaves 283 = .ok (.iload_n 1, 1) := by decide +kernel
theorem dX12_behaves_284 : decode cX12_behaves 284 = .ok (.putfield 291, 3) := by decide +kernel
theorem dX12_behaves_287 : decode cX12_behaves 287 = .ok (.aload_n 0, 1) := by decide +kernel
theorem dX12_behaves_288 : decode cX12_behaves 288 = .ok (.getfield 294, 3) := by decide +kernel
theorem dX12_behaves_291 : decode cX12_behaves 291 = .ok (.iload_n 1, 1) := by decide +kernel
theorem dX12_behaves_292 : decode cX12_behaves 292 = .ok (.if_icmp .ne 28, 3) := by decide +kernel
theorem dX12_behaves_295 : decode cX12_behaves 295 = .ok (.aload_n 0, 1) := by decide +kernel
theorem dX12_behaves_296 : decode cX12_behaves 296 = .ok (.getfield 291, 3) := by decide +kernel
theorem dX12_behaves_299 : decode cX12_behaves 299 = .ok (.iload_n 1, 1) := by decide +kernel
theorem dX12_behaves_300 : decode cX12_behaves 300 = .ok (.if_icmp .ne 20, 3) := by decide +kernel
theorem dX12_behaves_303 : decode cX12_behaves 303 = .ok (.aload_n 0, 1) := by decide +kernel
theorem dX12_behaves_304 : decode cX12_behaves 304 = .ok (.getfield 20, 3) := by decide +kernel
theorem dX12_behaves_307 : decode cX12_behaves 307 = .ok (.iconst 1, 1) := by decide +kernel
theorem dX12_behaves_308 : decode cX12_behaves 308 = .ok (.baload, 1) := by decide +kernel
theorem dX12_behaves_309 : decode cX12_behaves 309 = .ok (.ifCond .eq 11, 3) := by decide +kernel
theorem dX12_behaves_312 : decode cX12_behaves 312 = .ok (.aload_n 0, 1) := by decide +kernel
theorem dX12_behaves_313 : decode cX12_behaves 313 = .ok (.iconst 0, 1) := by decide +kernel
theorem dX12_behaves_314 : decode cX12_behaves 314 = .ok (.putfield 291, 3) := by decide +kernel
theorem dX12_behaves_317 : decode cX12_behaves 317 = .ok (.iconst 1, 1) := by decide +kernel
theorem dX12_behaves_318 : decode cX12_behaves 318 = .ok (.istore 7, 2) := by decide +kernel
theorem dX12_behaves_320 : decode cX12_behaves 320 = .ok (.iload 7, 2) := by decide +kernel
theorem dX12_behaves_322 : decode cX12_behaves 322 = .ok (.ireturn, 1) := by decide +kernel
set_option maxHeartbeats 4000000 in
set_option maxRecDepth 100000 in
theorem m_X12_behaves (l : Launch) {Z : pZ} (S : pSh Z) {h : pH} (I : Iv Z h) (id : Int32) (hb9 : (h 137 27).toInt ≤ 599) : pMet l yX12_behaves cX12_behaves 8 (some .boolean) 1 0 0 26 Z h [.ref (zB Z + 137), .int id] (pQi Z (fun r Z1 h1 => Z = Z1 ∧ Iv Z h1 ∧ agr [(137, 20), (137, 21), (137, 22), (137, 28), (137, 27), (144, 1000), (137, 19)] h h1 ∧ (r.toInt = 0 ∨ r.toInt = 1) ∧ ((h 137 27).toInt + (1) ≤ (h1 137 27).toInt ∧ (h1 137 27).toInt ≤ (h 137 27).toInt + (1)))) := by
  refine pOfW (lv := [(0, .ref (zB Z + 137)), (1, .int id)]) (by decide) (Nat.le_of_ble_eq_true rfl) rfl ?_
  intro p e s m below meth c ls M hr hlk hnm V hl
  have hx := M.1.1
  have hb := M.1.2.1
  have A : agr [] h h := agr.rf
  have i_27 : 0 ≤ (h 137 27).toInt ∧ (h 137 27).toInt ≤ 600 := I.get (sm_this S) 27
  have J_320 : ∀ (x320_2 : Int32) (x320_3 : Int32) (x320_4 : Int32) (x320_5 : Int32) (x320_6 : Int32) (x320_7 : Int32) (hJ : pH) (H : Heap) (locs : List Loc) (ls : Array Slot), pV Z hJ s.heap H locs → Iv Z hJ → agr [(137, 19), (137, 20), (137, 21), (137, 22), (137, 27), (137, 28), (144, 1000)] h hJ → lv_has ls 8 [(0, .ref (zB Z + 137)), (1, .int id), (2, .int x320_2), (3, .int x320_3), (4, .int x320_4), (5, .int x320_5), (6, .int x320_6), (7, .int x320_7)] → (0 ≤ x320_6.toInt ∧ x320_6.toInt ≤ 1) → (0 ≤ x320_7.toInt ∧ x320_7.toInt ≤ 1) → ((h 137 27).toInt + (1) ≤ (hJ 137 27).toInt ∧ (hJ 137 27).toInt ≤ (h 137 27).toInt + (1)) → W p l e (pRm 1 0 0 26) s m ([.ref (zB Z + 137), .int id] : List Value).toArray below meth c H locs 0 0 (MQ below (pQi Z (fun r Z1 h1 => Z = Z1 ∧ Iv Z h1 ∧ agr [(137, 20), (137, 21), (137, 22), (137, 28), (137, 27), (144, 1000), (137, 19)] h h1 ∧ (r.toInt = 0 ∨ r.toInt = 1) ∧ ((h 137 27).toInt + (1) ≤ (h1 137 27).toInt ∧ (h1 137 27).toInt ≤ (h 137 27).toInt + (1)))) ([.ref (zB Z + 137), .int id] : List Value).toArray s 0 0 (pA (zB Z))) (F0 m 320 ls []) := by
    intro x320_2 x320_3 x320_4 x320_5 x320_6 x320_7 hJ H locs ls V I A hl g_320_6 g_320_7 gd_320_27
    refine lv_iload hx hb dX12_behaves_320 (lv_at hl 7 rfl) ?_
    exact pe_i M V rfl rfl hr hlk (pn_z (pi_z (by omega))).1 ⟨rfl, I, A.wk (by decide), by omega, (show (h 137 27).toInt + (1) ≤ (hJ 137 27).toInt ∧ (hJ 137 27).toInt ≤ (h 137 27).toInt + (1) by omega)⟩ ⟨Nat.le_refl _, Nat.le_refl _⟩ dX12_behaves_322
  have J_287 : ∀ (x287_2 : Int32) (x287_3 : Int32) (x287_4 : Int32) (x287_5 : Int32) (x287_6 : Int32) (x287_7 : Int32) (hJ : pH) (H : Heap) (locs : List Loc) (ls : Array Slot), pV Z hJ s.heap H locs → Iv Z hJ → agr [(137, 19), (137, 20), (137, 21), (137, 22), (137, 27), (137, 28), (144, 1000)] h hJ → lv_has ls 8 [(0, .ref (zB Z + 137)), (1, .int id), (2, .int x287_2), (3, .int x287_3), (4, .int x287_4), (5, .int x287_5), (6, .int x287_6), (7, .int x287_7)] → (0 ≤ x287_6.toInt ∧ x287_6.toInt ≤ 1) → (0 ≤ x287_7.toInt ∧ x287_7.toInt ≤ 1) → ((h 137 27).toInt + (1) ≤ (hJ 137 27).toInt ∧ (hJ 137 27).toInt ≤ (h 137 27).toInt + (1)) → W p l e (pRm 1 0 0 26) s m ([.ref (zB Z + 137), .int id] : List Value).toArray below meth c H locs 0 0 (MQ below (pQi Z (fun r Z1 h1 => Z = Z1 ∧ Iv Z h1 ∧ agr [(137, 20), (137, 21), (137, 22), (137, 28), (137, 27), (144, 1000), (137, 19)] h h1 ∧ (r.toInt = 0 ∨ r.toInt = 1) ∧ ((h 137 27).toInt + (1) ≤ (h1 137 27).toInt ∧ (h1 137 27).toInt ≤ (h 137 27).toInt + (1)))) ([.ref (zB Z + 137), .int id] : List Value).toArray s 0 0 (pA (zB Z))) (F0 m 287 ls []) := by
    intro x287_2 x287_3 x287_4 x287_5 x287_6 x287_7 hJ H locs ls V I A hl g_287_6 g_287_7 gd_287_27
    refine lv_aload_n hx hb dX12_behaves_287 rfl (lv_at hl 0 rfl) ?_
    refine pg_i M V 12 21 (sm_this S) pC12 fk12_21 lkF_X12_294 dX12_behaves_288 ?_
    refine lv_topi (fun v1 ev1 => ?_)
    refine lv_iload_n hx hb dX12_behaves_291 rfl (lv_at hl 1 rfl) ?_
    refine lv_icmp_ne (tgt := 320) hx hb dX12_behaves_292 (by decide) (fun c_292 => ?_) (fun c_292 => ?_)
    · skip
      have c_292 := pi_ne c_292
      exact J_320 x287_2 x287_3 x287_4 x287_5 x287_6 x287_7 _ _ _ _ V I (A.wk (by decide)) (lv_sub hl [0, 1, 2, 3, 4, 5, 6, 7] rfl) (by omega) (by omega) (show (h 137 27).toInt + (1) ≤ (hJ 137 27).toInt ∧ (hJ 137 27).toInt ≤ (h 137 27).toInt + (1) by omega) 
    · skip
      have c_292 := pi_eq.mp c_292
      refine lv_aload_n hx hb dX12_behaves_295 rfl (lv_at hl 0 rfl) ?_
      refine pg_i M V 12 22 (sm_this S) pC12 fk12_22 lkF_X12_291 dX12_behaves_296 ?_
      refine lv_topi (fun v2 ev2 => ?_)
      refine lv_iload_n hx hb dX12_behaves_299 rfl (lv_at hl 1 rfl) ?_
      refine lv_icmp_ne (tgt := 320) hx hb dX12_behaves_300 (by decide) (fun c_300 => ?_) (fun c_300 => ?_)
      · skip
        have c_300 := pi_ne c_300
        exact J_320 x287_2 x287_3 x287_4 x287_5 x287_6 x287_7 _ _ _ _ V I (A.wk (by decide)) (lv_sub hl [0, 1, 2, 3, 4, 5, 6, 7] rfl) (by omega) (by omega) (show (h 137 27).toInt + (1) ≤ (hJ 137 27).toInt ∧ (hJ 137 27).toInt ≤ (h 137 27).toInt + (1) by omega) 
      · skip
        have c_300 := pi_eq.mp c_300
        refine lv_aload_n hx hb dX12_behaves_303 rfl (lv_at hl 0 rfl) ?_
        refine pg_r M V 12 12 (sm_this S) pC12 fk12_12 (sm_upHere S).2.2 lkF_X12_20 dX12_behaves_304 ?_
        refine lv_iconst (v := 1) hx hb dX12_behaves_307 (by decide) ?_
        have k_1 : (1 : Int32).toInt = 1 := rfl
        refine pa_z M V (sm_upHere S).1 (by rw [(sm_upHere S).2.1]; exact pi_in (by omega)) dX12_behaves_308 ?_
        refine lv_topi (fun v3 ev3 => ?_)
        have tv3 : 0 ≤ v3.toInt ∧ v3.toInt ≤ 1 := by rw [ev3]; exact I.get (sm_upHere S).1 _
        refine lv_if_eq (tgt := 320) hx hb dX12_behaves_309 (by decide) (fun c_309 => ?_) (fun c_309 => ?_)
        · skip
          have k_0 : (0 : Int32).toInt = 0 := rfl
          have c_309 := pi_eq.mp c_309
          exact J_320 x287_2 x287_3 x287_4 x287_5 x287_6 x287_7 _ _ _ _ V I (A.wk (by decide)) (lv_sub hl [0, 1, 2, 3, 4, 5, 6, 7] rfl) (by omega) (by omega) (show (h 137 27).toInt + (1) ≤ (hJ 137 27).toInt ∧ (hJ 137 27).toInt ≤ (h 137 27).toInt + (1) by omega) 
        · skip
          have k_0 : (0 : Int32).toInt = 0 := rfl
          have c_309 := pi_ne c_309
          refine lv_aload_n hx hb dX12_behaves_312 rfl (lv_at hl 0 rfl) ?_
          refine lv_iconst (v := 0) hx hb dX12_behaves_313 (by decide) ?_
          refine pp_i M V 12 22 (sm_this S) pC12 fk12_22 rfl lkF_X12_291 ⟨rfl, rfl⟩ dX12_behaves_314 (fun H locs V => ?_)
          have A := A.up (o := 137) (k := 22) (v := (0 : Int32)) (by decide)
          have I := I.up (k := 22) (v := (0 : Int32)) (sm_this S) (pi_full _)
          refine lv_iconst (v := 1) hx hb dX12_behaves_317 (by decide) ?_
          refine lv_istore (lv' := [(7, .int (1 : Int32)), (0, .ref (zB Z + 137)), (1, .int id), (2, .int x287_2), (3, .int x287_3), (4, .int x287_4), (5, .int x287_5), (6, .int x287_6)]) hx hb dX12_behaves_318 hl (by decide) rfl (fun ls hl => ?_)
          exact J_320 x287_2 x287_3 x287_4 x287_5 x287_6 (1 : Int32) _ _ _ _ V I (A.wk (by decide)) (lv_sub hl [1, 2, 3, 4, 5, 6, 7, 0] rfl) (by omega) (by omega) (show (h 137 27).toInt + (1) ≤ (hJ 137 27).toInt ∧ (hJ 137 27).toInt ≤ (h 137 27).toInt + (1) by omega) 
  have J_265 : ∀ (x265_2 : Int32) (x265_3 : Int32) (x265_4 : Int32) (x265_5 : Int32) (x265_6 : Int32) (x265_7 : Int32) (hJ : pH) (H : Heap) (locs : List Loc) (ls : Array Slot), pV Z hJ s.heap H locs → Iv Z hJ → agr [(137, 19), (137, 20), (137, 21), (137, 22), (137, 27), (137, 28), (144, 1000)] h hJ → lv_has ls 8 [(0, .ref (zB Z + 137)), (1, .int id), (2, .int x265_2), (3, .int x265_3), (4, .int x265_4), (5, .int x265_5), (6, .int x265_6), (7, .int x265_7)] → (0 ≤ x265_6.toInt ∧ x265_6.toInt ≤ 1) → (0 ≤ x265_7.toInt ∧ x265_7.toInt ≤ 1) → ((h 137 27).toInt + (1) ≤ (hJ 137 27).toInt ∧ (hJ 137 27).toInt ≤ (h 137 27).toInt + (1)) → W p l e (pRm 1 0 0 26) s m ([.ref (zB Z + 137), .int id] : List Value).toArray below meth c H locs 0 0 (MQ below (pQi Z (fun r Z1 h1 => Z = Z1 ∧ Iv Z h1 ∧ agr [(137, 20), (137, 21), (137, 22), (137, 28), (137, 27), (144, 1000), (137, 19)] h h1 ∧ (r.toInt = 0 ∨ r.toInt = 1) ∧ ((h 137 27).toInt + (1) ≤ (h1 137 27).toInt ∧ (h1 137 27).toInt ≤ (h 137 27).toInt + (1)))) ([.ref (zB Z + 137), .int id] : List Value).toArray s 0 0 (pA (zB Z))) (F0 m 265 ls []) := by
    intro x265_2 x265_3 x265_4 x265_5 x265_6 x265_7 hJ H locs ls V I A hl g_265_6 g_265_7 gd_265_27
    refine lv_aload_n hx hb dX12_behaves_265 rfl (lv_at hl 0 rfl) ?_
    refine pg_i M V 12 21 (sm_this S) pC12 fk12_21 lkF_X12_294 dX12_behaves_266 ?_
    refine lv_topi (fun v4 ev4 => ?_)
    refine lv_iload_n hx hb dX12_behaves_269 rfl (lv_at hl 1 rfl) ?_
    refine lv_icmp_ne (tgt := 287) hx hb dX12_behaves_270 (by decide) (fun c_270 => ?_) (fun c_270 => ?_)
    · skip
      have c_270 := pi_ne c_270
      exact J_287 x265_2 x265_3 x265_4 x265_5 x265_6 x265_7 _ _ _ _ V I (A.wk (by decide)) (lv_sub hl [0, 1, 2, 3, 4, 5, 6, 7] rfl) (by omega) (by omega) (show (h 137 27).toInt + (1) ≤ (hJ 137 27).toInt ∧ (hJ 137 27).toInt ≤ (h 137 27).toInt + (1) by omega) 
    · skip
      have c_270 := pi_eq.mp c_270
      refine lv_aload_n hx hb dX12_behaves_273 rfl (lv_at hl 0 rfl) ?_
      refine pg_r M V 12 11 (sm_this S) pC12 fk12_11 (sm_downHere S).2.2 lkF_X12_17 dX12_behaves_274 ?_
      refine lv_iconst (v := 1) hx hb dX12_behaves_277 (by decide) ?_
      have k_1 : (1 : Int32).toInt = 1 := rfl
      refine pa_z M V (sm_downHere S).1 (by rw [(sm_downHere S).2.1]; exact pi_in (by omega)) dX12_behaves_278 ?_
      refine lv_topi (fun v5 ev5 => ?_)
      have tv5 : 0 ≤ v5.toInt ∧ v5.toInt ≤ 1 := by rw [ev5]; exact I.get (sm_downHere S).1 _
      refine lv_if_eq (tgt := 287) hx hb dX12_behaves_279 (by decide) (fun c_279 => ?_) (fun c_279 => ?_)
      · skip
        have k_0 : (0 : Int32).toInt = 0 := rfl
        have c_279 := pi_eq.mp c_279
        exact J_287 x265_2 x265_3 x265_4 x265_5 x265_6 x265_7 _ _ _ _ V I (A.wk (by decide)) (lv_sub hl [0, 1, 2, 3, 4, 5, 6, 7] rfl) (by omega) (by omega) (show (h 137 27).toInt + (1) ≤ (hJ 137 27).toInt ∧ (hJ 137 27).toInt ≤ (h 137 27).toInt + (1) by omega) 
      · skip
        have k_0 : (0 : Int32).toInt = 0 := rfl
        have c_279 := pi_ne c_279
        refine lv_aload_n hx hb dX12_behaves_282 rfl (lv_at hl 0 rfl) ?_
        refine lv_iload_n hx hb dX12_behaves_283 rfl (lv_at hl 1 rfl) ?_
        refine pp_i M V 12 22 (sm_this S) pC12 fk12_22 rfl lkF_X12_291 ⟨rfl, rfl⟩ dX12_behaves_284 (fun H locs V => ?_)
        have A := A.up (o := 137) (k := 22) (v := id) (by decide)
        have I := I.up (k := 22) (v := id) (sm_this S) (pi_full _)
        exact J_287 x265_2 x265_3 x265_4 x265_5 x265_6 x265_7 _ _ _ _ V I (A.wk (by decide)) (lv_sub hl [0, 1, 2, 3, 4, 5, 6, 7] rfl) (by omega) (by omega) (show (h 137 27).toInt + (1) ≤ (hJ 137 27).toInt ∧ (hJ 137 27).toInt ≤ (h 137 27).toInt + (1) by omega) 
  have J_241 : ∀ (x241_2 : Int32) (x241_3 : Int32) (x241_4 : Int32) (x241_5 : Int32) (x241_6 : Int32) (x241_7 : Int32) (hJ : pH) (H : Heap) (locs : List Loc) (ls : Array Slot), pV Z hJ s.heap H locs → Iv Z hJ → agr [(137, 19), (137, 20), (137, 21), (137, 22), (137, 27), (137, 28), (144, 1000)] h hJ → lv_has ls 8 [(0, .ref (zB Z + 137)), (1, .int id), (2, .int x241_2), (3, .int x241_3), (4, .int x241_4), (5, .int x241_5), (6, .int x241_6), (7, .int x241_7)] → (0 ≤ x241_6.toInt ∧ x241_6.toInt ≤ 1) → (0 ≤ x241_7.toInt ∧ x241_7.toInt ≤ 0) → ((h 137 27).toInt + (1) ≤ (hJ 137 27).toInt ∧ (hJ 137 27).toInt ≤ (h 137 27).toInt + (1)) → W p l e (pRm 1 0 0 26) s m ([.ref (zB Z + 137), .int id] : List Value).toArray below meth c H locs 0 0 (MQ below (pQi Z (fun r Z1 h1 => Z = Z1 ∧ Iv Z h1 ∧ agr [(137, 20), (137, 21), (137, 22), (137, 28), (137, 27), (144, 1000), (137, 19)] h h1 ∧ (r.toInt = 0 ∨ r.toInt = 1) ∧ ((h 137 27).toInt + (1) ≤ (h1 137 27).toInt ∧ (h1 137 27).toInt ≤ (h 137 27).toInt + (1)))) ([.ref (zB Z + 137), .int id] : List Value).toArray s 0 0 (pA (zB Z))) (F0 m 241 ls []) := by
    intro x241_2 x241_3 x241_4 x241_5 x241_6 x241_7 hJ H locs ls V I A hl g_241_6 g_241_7 gd_241_27
    refine lv_aload_n hx hb dX12_behaves_241 rfl (lv_at hl 0 rfl) ?_
    refine pg_i M V 12 19 (sm_this S) pC12 fk12_19 lkF_X12_255 dX12_behaves_242 ?_
    refine lv_topi (fun v6 ev6 => ?_)
    refine lv_iload_n hx hb dX12_behaves_245 rfl (lv_at hl 1 rfl) ?_
    refine lv_icmp_ne (tgt := 265) hx hb dX12_behaves_246 (by decide) (fun c_246 => ?_) (fun c_246 => ?_)
    · skip
      have c_246 := pi_ne c_246
      exact J_265 x241_2 x241_3 x241_4 x241_5 x241_6 x241_7 _ _ _ _ V I (A.wk (by decide)) (lv_sub hl [0, 1, 2, 3, 4, 5, 6, 7] rfl) (by omega) (by omega) (show (h 137 27).toInt + (1) ≤ (hJ 137 27).toInt ∧ (hJ 137 27).toInt ≤ (h 137 27).toInt + (1) by omega) 
    · skip
      have c_246 := pi_eq.mp c_246
      refine lv_aload_n hx hb dX12_behaves_249 rfl (lv_at hl 0 rfl) ?_
      refine pg_i M V 12 14 (sm_this S) pC12 fk12_14 lkF_X12_205 dX12_behaves_250 ?_
      refine lv_topi (fun v7 ev7 => ?_)
      have tv7 : 0 ≤ v7.toInt ∧ v7.toInt ≤ 1 := by rw [ev7]; exact I.get (sm_this S) 14
      refine lv_if_eq (tgt := 265) hx hb dX12_behaves_253 (by decide) (fun c_253 => ?_) (fun c_253 => ?_)
      · skip
        have k_0 : (0 : Int32).toInt = 0 := rfl
        have c_253 := pi_eq.mp c_253
        exact J_265 x241_2 x241_3 x241_4 x241_5 x241_6 x241_7 _ _ _ _ V I (A.wk (by decide)) (lv_sub hl [0, 1, 2, 3, 4, 5, 6, 7] rfl) (by omega) (by omega) (show (h 137 27).toInt + (1) ≤ (hJ 137 27).toInt ∧ (hJ 137 27).toInt ≤ (h 137 27).toInt + (1) by omega) 
      · skip
        have k_0 : (0 : Int32).toInt = 0 := rfl
        have c_253 := pi_ne c_253
        refine lv_aload_n hx hb dX12_behaves_256 rfl (lv_at hl 0 rfl) ?_
        refine lv_iconst (v := 0) hx hb dX12_behaves_257 (by decide) ?_
        refine pp_i M V 12 19 (sm_this S) pC12 fk12_19 rfl lkF_X12_255 ⟨rfl, rfl⟩ dX12_behaves_258 (fun H locs V => ?_)
        have A := A.up (o := 137) (k := 19) (v := (0 : Int32)) (by decide)
        have I := I.up (k := 19) (v := (0 : Int32)) (sm_this S) (pi_full _)
        refine lv_iload hx hb dX12_behaves_261 (lv_at hl 6 rfl) ?_
        refine lv_istore (lv' := [(7, .int x241_6), (0, .ref (zB Z + 137)), (1, .int id), (2, .int x241_2), (3, .int x241_3), (4, .int x241_4), (5, .int x241_5), (6, .int x241_6)]) hx hb dX12_behaves_263 hl (by decide) rfl (fun ls hl => ?_)
        exact J_265 x241_2 x241_3 x241_4 x241_5 x241_6 x241_6 _ _ _ _ V I (A.wk (by decide)) (lv_sub hl [1, 2, 3, 4, 5, 6, 7, 0] rfl) (by omega) (by omega) (show (h 137 27).toInt + (1) ≤ (hJ 137 27).toInt ∧ (hJ 137 27).toInt ≤ (h 137 27).toInt + (1) by omega) 
  have J_192 : ∀ (x192_2 : Int32) (x192_3 : Int32) (x192_4 : Int32) (x192_5 : Int32) (x192_6 : Int32) (x192_7 : Int32) (hJ : pH) (H : Heap) (locs : List Loc) (ls : Array Slot), pV Z hJ s.heap H locs → Iv Z hJ → agr [(137, 20), (137, 21), (137, 22), (137, 28)] h hJ → lv_has ls 8 [(0, .ref (zB Z + 137)), (1, .int id), (2, .int x192_2), (3, .int x192_3), (4, .int x192_4), (5, .int x192_5), (6, .int x192_6), (7, .int x192_7)] → (0 ≤ x192_6.toInt ∧ x192_6.toInt ≤ 1) → (0 ≤ x192_7.toInt ∧ x192_7.toInt ≤ 0) → ((h 137 27).toInt + (0) ≤ (hJ 137 27).toInt ∧ (hJ 137 27).toInt ≤ (h 137 27).toInt + (0)) → W p l e (pRm 1 0 0 26) s m ([.ref (zB Z + 137), .int id] : List Value).toArray below meth c H locs 0 0 (MQ below (pQi Z (fun r Z1 h1 => Z = Z1 ∧ Iv Z h1 ∧ agr [(137, 20), (137, 21), (137, 22), (137, 28), (137, 27), (144, 1000), (137, 19)] h h1 ∧ (r.toInt = 0 ∨ r.toInt = 1) ∧ ((h 137 27).toInt + (1) ≤ (h1 137 27).toInt ∧ (h1 137 27).toInt ≤ (h 137 27).toInt + (1)))) ([.ref (zB Z + 137), .int id] : List Value).toArray s 0 0 (pA (zB Z))) (F0 m 192 ls []) := by
    intro x192_2 x192_3 x192_4 x192_5 x192_6 x192_7 hJ H locs ls V I A hl g_192_6 g_192_7 gd_192_27
    refine lv_aload_n hx hb dX12_behaves_192 rfl (lv_at hl 0 rfl) ?_
    refine pg_r M V 12 26 (sm_this S) pC12 fk12_26 (sm_behaved S).2.2 lkF_X12_33 dX12_behaves_193 ?_
    refine lv_aload_n hx hb dX12_behaves_196 rfl (lv_at hl 0 rfl) ?_
    refine pg_i M V 12 27 (sm_this S) pC12 fk12_27 lkF_X12_270 dX12_behaves_197 ?_
    refine lv_topi (fun v8 ev8 => ?_)
    have tv8 : 0 ≤ v8.toInt ∧ v8.toInt ≤ 600 := by rw [ev8]; exact I.get (sm_this S) 27
    have uv8 : v8.toInt = (hJ 137 27).toInt := congrArg Int32.toInt ev8
    refine lv_iload_n hx hb dX12_behaves_200 rfl (lv_at hl 1 rfl) ?_
    refine ps_i M V (sm_behaved S).1 (by rw [(sm_behaved S).2.1]; exact pi_in (by omega)) dX12_behaves_201 (fun H locs V => ?_)
    have A := A.wk (l3 := [(137, 20), (137, 21), (137, 22), (137, 28), (144, 1000)]) (by decide)
    have A := A.upA (o := 144) (k := v8.toNatClampNeg) (v := id) (by decide)
    have I := I.up (k := v8.toNatClampNeg) (v := id) (sm_behaved S).1 (pi_full _)
    refine lv_aload_n hx hb dX12_behaves_202 rfl (lv_at hl 0 rfl) ?_
    refine lv_dup hx hb dX12_behaves_203 rfl ?_
    refine pg_iv M V 12 27 (v := v8) (sm_this S) pC12 fk12_27 ev8.symm lkF_X12_270 dX12_behaves_204 ?_
    refine lv_iconst (v := 1) hx hb dX12_behaves_207 (by decide) ?_
    refine lv_iadd hx hb dX12_behaves_208 ?_
    refine lv_topi (fun v9 ev9 => ?_)
    refine pp_i M V 12 27 (sm_this S) pC12 fk12_27 rfl lkF_X12_270 ⟨rfl, rfl⟩ dX12_behaves_209 (fun H locs V => ?_)
    have A := A.wk (l3 := [(137, 20), (137, 21), (137, 22), (137, 28), (144, 1000), (137, 27)]) (by decide)
    have A := A.up (o := 137) (k := 27) (v := v9) (by decide)
    have k_1 : (1 : Int32).toInt = 1 := rfl
    have tv9 : v9.toInt = v8.toInt + 1 := by rw [ev9]; have z9 := pi_add (x := v8) (y := (1 : Int32)); rw [k_1] at z9; exact z9 (by omega)
    have I := I.up (k := 27) (v := v9) (sm_this S) (show (0 : Int) ≤ v9.toInt ∧ v9.toInt ≤ (600 : Int) by omega)
    refine lv_iload hx hb dX12_behaves_212 (lv_at hl 6 rfl) ?_
    refine lv_if_eq (tgt := 241) hx hb dX12_behaves_214 (by decide) (fun c_214 => ?_) (fun c_214 => ?_)
    · skip
      have k_0 : (0 : Int32).toInt = 0 := rfl
      have c_214 := pi_eq.mp c_214
      exact J_241 x192_2 x192_3 x192_4 x192_5 x192_6 x192_7 _ _ _ _ V I (A.wk (by decide)) (lv_sub hl [0, 1, 2, 3, 4, 5, 6, 7] rfl) (by omega) (by omega) (show (h 137 27).toInt + (1) ≤ v9.toInt ∧ v9.toInt ≤ (h 137 27).toInt + (1) by omega) 
    · skip
      have k_0 : (0 : Int32).toInt = 0 := rfl
      have c_214 := pi_ne c_214
      refine lv_aload_n hx hb dX12_behaves_217 rfl (lv_at hl 0 rfl) ?_
      refine pg_i M V 12 13 (sm_this S) pC12 fk12_13 lkF_X12_202 dX12_behaves_218 ?_
      refine lv_topi (fun v10 ev10 => ?_)
      have tv10 : 0 ≤ v10.toInt ∧ v10.toInt ≤ 1 := by rw [ev10]; exact I.get (sm_this S) 13
      refine lv_if_eq (tgt := 241) hx hb dX12_behaves_221 (by decide) (fun c_221 => ?_) (fun c_221 => ?_)
      · skip
        have c_221 := pi_eq.mp c_221
        exact J_241 x192_2 x192_3 x192_4 x192_5 x192_6 x192_7 _ _ _ _ V I (A.wk (by decide)) (lv_sub hl [0, 1, 2, 3, 4, 5, 6, 7] rfl) (by omega) (by omega) (show (h 137 27).toInt + (1) ≤ v9.toInt ∧ v9.toInt ≤ (h 137 27).toInt + (1) by omega) 
      · skip
        have c_221 := pi_ne c_221
        refine lv_aload_n hx hb dX12_behaves_224 rfl (lv_at hl 0 rfl) ?_
        refine pg_i M V 12 19 (sm_this S) pC12 fk12_19 lkF_X12_255 dX12_behaves_225 ?_
        refine lv_topi (fun v11 ev11 => ?_)
        refine lv_if_ne (tgt := 241) hx hb dX12_behaves_228 (by decide) (fun c_228 => ?_) (fun c_228 => ?_)
        · skip
          have c_228 := pi_ne c_228
          exact J_241 x192_2 x192_3 x192_4 x192_5 x192_6 x192_7 _ _ _ _ V I (A.wk (by decide)) (lv_sub hl [0, 1, 2, 3, 4, 5, 6, 7] rfl) (by omega) (by omega) (show (h 137 27).toInt + (1) ≤ v9.toInt ∧ v9.toInt ≤ (h 137 27).toInt + (1) by omega) 
        · skip
          have c_228 := pi_eq.mp c_228
          refine lv_aload_n hx hb dX12_behaves_231 rfl (lv_at hl 0 rfl) ?_
          refine lv_iload_n hx hb dX12_behaves_232 rfl (lv_at hl 1 rfl) ?_
          refine pp_i M V 12 19 (sm_this S) pC12 fk12_19 rfl lkF_X12_255 ⟨rfl, rfl⟩ dX12_behaves_233 (fun H locs V => ?_)
          have A := A.wk (l3 := [(137, 20), (137, 21), (137, 22), (137, 28), (144, 1000), (137, 27), (137, 19)]) (by decide)
          have A := A.up (o := 137) (k := 19) (v := id) (by decide)
          have I := I.up (k := 19) (v := id) (sm_this S) (pi_full _)
          refine lv_aload_n hx hb dX12_behaves_236 rfl (lv_at hl 0 rfl) ?_
          refine lv_iload_n hx hb dX12_behaves_237 rfl (lv_at hl 1 rfl) ?_
          refine pk_v (pr_V M V (m_X12_give l S I id ) km_X12_give (sm_this S) pC12 lkM_X12_300 rfl hl.1 rfl (Nat.le_of_ble_eq_true rfl) ⟨Nat.le_of_ble_eq_true rfl, Nat.le_of_ble_eq_true rfl⟩ ⟨Nat.le_of_ble_eq_true rfl, Nat.le_of_ble_eq_true rfl⟩ dX12_behaves_238) V (fun Zr12 hr12 H locs pr12 _ _ V => ?_)
          obtain ⟨rfl, I, pA_r12⟩ := pr12
          have A := A.tr pA_r12 (by decide)
          have w_r12_27 : (hr12 137 27).toInt = v9.toInt := congrArg Int32.toInt (pA_r12.get 137 27 (by decide))
          exact J_241 x192_2 x192_3 x192_4 x192_5 x192_6 x192_7 _ _ _ _ V I (A.wk (by decide)) (lv_sub hl [0, 1, 2, 3, 4, 5, 6, 7] rfl) (by omega) (by omega) (show (h 137 27).toInt + (1) ≤ (hr12 137 27).toInt ∧ (hr12 137 27).toInt ≤ (h 137 27).toInt + (1) by omega) 
  have J_137 : ∀ (x137_2 : Int32) (x137_3 : Int32) (x137_4 : Int32) (x137_5 : Int32) (x137_6 : Int32) (hJ : pH) (H : Heap) (locs : List Loc) (ls : Array Slot), pV Z hJ s.heap H locs → Iv Z hJ → agr [(137, 20)] h hJ → lv_has ls 8 [(0, .ref (zB Z + 137)), (1, .int id), (2, .int x137_2), (3, .int x137_3), (4, .int x137_4), (5, .int x137_5), (6, .int x137_6)] → (0 ≤ x137_6.toInt ∧ x137_6.toInt ≤ 1) → ((h 137 27).toInt + (0) ≤ (hJ 137 27).toInt ∧ (hJ 137 27).toInt ≤ (h 137 27).toInt + (0)) → W p l e (pRm 1 0 0 26) s m ([.ref (zB Z + 137), .int id] : List Value).toArray below meth c H locs 0 0 (MQ below (pQi Z (fun r Z1 h1 => Z = Z1 ∧ Iv Z h1 ∧ agr [(137, 20), (137, 21), (137, 22), (137, 28), (137, 27), (144, 1000), (137, 19)] h h1 ∧ (r.toInt = 0 ∨ r.toInt = 1) ∧ ((h 137 27).toInt + (1) ≤ (h1 137 27).toInt ∧ (h1 137 27).toInt ≤ (h 137 27).toInt + (1)))) ([.ref (zB Z + 137), .int id] : List Value).toArray s 0 0 (pA (zB Z))) (F0 m 137 ls []) := by
    intro x137_2 x137_3 x137_4 x137_5 x137_6 hJ H locs ls V I A hl g_137_6 gd_137_27
    refine lv_iconst (v := 0) hx hb dX12_behaves_137 (by decide) ?_
    refine lv_istore (lv' := [(7, .int (0 : Int32)), (0, .ref (zB Z + 137)), (1, .int id), (2, .int x137_2), (3, .int x137_3), (4, .int x137_4), (5, .int x137_5), (6, .int x137_6)]) hx hb dX12_behaves_138 hl (by decide) rfl (fun ls hl => ?_)
    refine lv_aload_n hx hb dX12_behaves_140 rfl (lv_at hl 1 rfl) ?_
    refine pg_r M V 12 11 (sm_this S) pC12 fk12_11 (sm_downHere S).2.2 lkF_X12_17 dX12_behaves_141 ?_
    refine lv_iconst (v := 0) hx hb dX12_behaves_144 (by decide) ?_
    have k_0 : (0 : Int32).toInt = 0 := rfl
    refine pa_z M V (sm_downHere S).1 (by rw [(sm_downHere S).2.1]; exact pi_in (by omega)) dX12_behaves_145 ?_
    refine lv_topi (fun v13 ev13 => ?_)
    have tv13 : 0 ≤ v13.toInt ∧ v13.toInt ≤ 1 := by rw [ev13]; exact I.get (sm_downHere S).1 _
    refine lv_if_eq (tgt := 192) hx hb dX12_behaves_146 (by decide) (fun c_146 => ?_) (fun c_146 => ?_)
    · skip
      have c_146 := pi_eq.mp c_146
      exact J_192 x137_2 x137_3 x137_4 x137_5 x137_6 (0 : Int32) _ _ _ _ V I (A.wk (by decide)) (lv_sub hl [1, 2, 3, 4, 5, 6, 7, 0] rfl) (by omega) (by omega) (show (h 137 27).toInt + (0) ≤ (hJ 137 27).toInt ∧ (hJ 137 27).toInt ≤ (h 137 27).toInt + (0) by omega) 
    · skip
      have c_146 := pi_ne c_146
      refine lv_aload_n hx hb dX12_behaves_149 rfl (lv_at hl 1 rfl) ?_
      refine pg_i M V 12 28 (sm_this S) pC12 fk12_28 lkF_X12_273 dX12_behaves_150 ?_
      refine lv_topi (fun v14 ev14 => ?_)
      have tv14 : 0 ≤ v14.toInt ∧ v14.toInt ≤ 1 := by rw [ev14]; exact I.get (sm_this S) 28
      refine lv_if_ne (tgt := 192) hx hb dX12_behaves_153 (by decide) (fun c_153 => ?_) (fun c_153 => ?_)
      · skip
        have c_153 := pi_ne c_153
        exact J_192 x137_2 x137_3 x137_4 x137_5 x137_6 (0 : Int32) _ _ _ _ V I (A.wk (by decide)) (lv_sub hl [1, 2, 3, 4, 5, 6, 7, 0] rfl) (by omega) (by omega) (show (h 137 27).toInt + (0) ≤ (hJ 137 27).toInt ∧ (hJ 137 27).toInt ≤ (h 137 27).toInt + (0) by omega) 
      · skip
        have c_153 := pi_eq.mp c_153
        refine lv_aload_n hx hb dX12_behaves_156 rfl (lv_at hl 1 rfl) ?_
        refine pg_i M V 12 21 (sm_this S) pC12 fk12_21 lkF_X12_294 dX12_behaves_157 ?_
        refine lv_topi (fun v15 ev15 => ?_)
        refine lv_if_eq (tgt := 192) hx hb dX12_behaves_160 (by decide) (fun c_160 => ?_) (fun c_160 => ?_)
        · skip
          have c_160 := pi_eq.mp c_160
          exact J_192 x137_2 x137_3 x137_4 x137_5 x137_6 (0 : Int32) _ _ _ _ V I (A.wk (by decide)) (lv_sub hl [1, 2, 3, 4, 5, 6, 7, 0] rfl) (by omega) (by omega) (show (h 137 27).toInt + (0) ≤ (hJ 137 27).toInt ∧ (hJ 137 27).toInt ≤ (h 137 27).toInt + (0) by omega) 
        · skip
          have c_160 := pi_ne c_160
          refine lv_iload_n hx hb dX12_behaves_163 rfl (lv_at hl 2 rfl) ?_
          refine lv_aload_n hx hb dX12_behaves_164 rfl (lv_at hl 1 rfl) ?_
          refine pg_iv M V 12 21 (v := v15) (sm_this S) pC12 fk12_21 ev15.symm lkF_X12_294 dX12_behaves_165 ?_
          refine lv_icmp_eq (tgt := 192) hx hb dX12_behaves_168 (by decide) (fun c_168 => ?_) (fun c_168 => ?_)
          · skip
            have c_168 := pi_eq.mp c_168
            exact J_192 x137_2 x137_3 x137_4 x137_5 x137_6 (0 : Int32) _ _ _ _ V I (A.wk (by decide)) (lv_sub hl [1, 2, 3, 4, 5, 6, 7, 0] rfl) (by omega) (by omega) (show (h 137 27).toInt + (0) ≤ (hJ 137 27).toInt ∧ (hJ 137 27).toInt ≤ (h 137 27).toInt + (0) by omega) 
          · skip
            have c_168 := pi_ne c_168
            refine lv_aload_n hx hb dX12_behaves_171 rfl (lv_at hl 1 rfl) ?_
            refine lv_aload_n hx hb dX12_behaves_172 rfl (lv_at hl 1 rfl) ?_
            refine pg_iv M V 12 21 (v := v15) (sm_this S) pC12 fk12_21 ev15.symm lkF_X12_294 dX12_behaves_173 ?_
            refine pk_i (pr_V M V (m_X12_hasBehaved l S I v15 ) km_X12_hasBehaved (sm_this S) pC12 lkM_X12_359 rfl hl.1 rfl (Nat.le_of_ble_eq_true rfl) ⟨Nat.le_of_ble_eq_true rfl, Nat.le_of_ble_eq_true rfl⟩ ⟨Nat.le_of_ble_eq_true rfl, Nat.le_of_ble_eq_true rfl⟩ dX12_behaves_176) V (fun r16 Zr16 hr16 H locs pr16 _ _ V => ?_)
            obtain ⟨rfl, I, pA_r16, fr16_0⟩ := pr16
            have A := A.tr pA_r16 (by decide)
            have w_r16_27 : (hr16 137 27).toInt = (hJ 137 27).toInt := congrArg Int32.toInt (pA_r16.get 137 27 (by decide))
            refine lv_if_eq (tgt := 192) hx hb dX12_behaves_179 (by decide) (fun c_179 => ?_) (fun c_179 => ?_)
            · skip
              have c_179 := pi_eq.mp c_179
              exact J_192 x137_2 x137_3 x137_4 x137_5 x137_6 (0 : Int32) _ _ _ _ V I (A.wk (by decide)) (lv_sub hl [1, 2, 3, 4, 5, 6, 7, 0] rfl) (by omega) (by omega) (show (h 137 27).toInt + (0) ≤ (hr16 137 27).toInt ∧ (hr16 137 27).toInt ≤ (h 137 27).toInt + (0) by omega) 
            · skip
              have c_179 := pi_ne c_179
              refine lv_aload_n hx hb dX12_behaves_182 rfl (lv_at hl 1 rfl) ?_
              refine lv_iload_n hx hb dX12_behaves_183 rfl (lv_at hl 2 rfl) ?_
              refine pk_v (pr_V M V (m_X12_give l S I id ) km_X12_give (sm_this S) pC12 lkM_X12_300 rfl hl.1 rfl (Nat.le_of_ble_eq_true rfl) ⟨Nat.le_of_ble_eq_true rfl, Nat.le_of_ble_eq_true rfl⟩ ⟨Nat.le_of_ble_eq_true rfl, Nat.le_of_ble_eq_true rfl⟩ dX12_behaves_184) V (fun Zr17 hr17 H locs pr17 _ _ V => ?_)
              obtain ⟨rfl, I, pA_r17⟩ := pr17
              have A := A.wk (l3 := [(137, 20), (137, 21), (137, 22)]) (by decide)
              have A := A.tr pA_r17 (by decide)
              have w_r17_27 : (hr17 137 27).toInt = (hr16 137 27).toInt := congrArg Int32.toInt (pA_r17.get 137 27 (by decide))
              refine lv_aload_n hx hb dX12_behaves_187 rfl (lv_at hl 1 rfl) ?_
              refine lv_iconst (v := 1) hx hb dX12_behaves_188 (by decide) ?_
              have k_1 : (1 : Int32).toInt = 1 := rfl
              have z_189 : (1 : Int32) = 0 ∨ (1 : Int32) = 1 := pi_z (by omega)
              refine pp_i M V 12 28 (sm_this S) pC12 fk12_28 rfl lkF_X12_273 ⟨(pn_z z_189).1, (pn_z z_189).2.1⟩ dX12_behaves_189 (fun H locs V => ?_)
              have A := A.wk (l3 := [(137, 20), (137, 21), (137, 22), (137, 28)]) (by decide)
              have A := A.up (o := 137) (k := 28) (v := (1 : Int32)) (by decide)
              have I := I.up (k := 28) (v := (1 : Int32)) (sm_this S) (show (0 : Int) ≤ (1 : Int32).toInt ∧ (1 : Int32).toInt ≤ (1 : Int) by omega)
              exact J_192 x137_2 x137_3 x137_4 x137_5 x137_6 (0 : Int32) _ _ _ _ V I (A.wk (by decide)) (lv_sub hl [1, 2, 3, 4, 5, 6, 7, 0] rfl) (by omega) (by omega) (show (h 137 27).toInt + (0) ≤ (hr17 137 27).toInt ∧ (hr17 137 27).toInt ≤ (h 137 27).toInt + (0) by omega) 
  have J_125 : ∀ (x125_2 : Int32) (x125_3 : Int32) (x125_4 : Int32) (x125_5 : Int32) (y125_0 : Int32) (hJ : pH) (H : Heap) (locs : List Loc) (ls : Array Slot), pV Z hJ s.heap H locs → Iv Z hJ → agr [] h hJ → lv_has ls 8 [(0, .ref (zB Z + 137)), (1, .int id), (2, .int x125_2), (3, .int x125_3), (4, .int x125_4), (5, .int x125_5)] → (0 ≤ y125_0.toInt ∧ y125_0.toInt ≤ 1) → ((h 137 27).toInt + (0) ≤ (hJ 137 27).toInt ∧ (hJ 137 27).toInt ≤ (h 137 27).toInt + (0)) → W p l e (pRm 1 0 0 26) s m ([.ref (zB Z + 137), .int id] : List Value).toArray below meth c H locs 0 0 (MQ below (pQi Z (fun r Z1 h1 => Z = Z1 ∧ Iv Z h1 ∧ agr [(137, 20), (137, 21), (137, 22), (137, 28), (137, 27), (144, 1000), (137, 19)] h h1 ∧ (r.toInt = 0 ∨ r.toInt = 1) ∧ ((h 137 27).toInt + (1) ≤ (h1 137 27).toInt ∧ (h1 137 27).toInt ≤ (h 137 27).toInt + (1)))) ([.ref (zB Z + 137), .int id] : List Value).toArray s 0 0 (pA (zB Z))) (F0 m 125 ls [.int y125_0]) := by
    intro x125_2 x125_3 x125_4 x125_5 y125_0 hJ H locs ls V I A hl gs_125_0 gd_125_27
    refine lv_istore (lv' := [(6, .int y125_0), (0, .ref (zB Z + 137)), (1, .int id), (2, .int x125_2), (3, .int x125_3), (4, .int x125_4), (5, .int x125_5)]) hx hb dX12_behaves_125 hl (by decide) rfl (fun ls hl => ?_)
    refine lv_iload hx hb dX12_behaves_127 (lv_at hl 0 rfl) ?_
    refine lv_if_eq (tgt := 137) hx hb dX12_behaves_129 (by decide) (fun c_129 => ?_) (fun c_129 => ?_)
    · skip
      have k_0 : (0 : Int32).toInt = 0 := rfl
      have c_129 := pi_eq.mp c_129
      exact J_137 x125_2 x125_3 x125_4 x125_5 y125_0 _ _ _ _ V I (A.wk (by decide)) (lv_sub hl [1, 2, 3, 4, 5, 6, 0] rfl) (by omega) (show (h 137 27).toInt + (0) ≤ (hJ 137 27).toInt ∧ (hJ 137 27).toInt ≤ (h 137 27).toInt + (0) by omega) 
    · skip
      have k_0 : (0 : Int32).toInt = 0 := rfl
      have c_129 := pi_ne c_129
      refine lv_aload_n hx hb dX12_behaves_132 rfl (lv_at hl 1 rfl) ?_
      refine lv_iload_n hx hb dX12_behaves_133 rfl (lv_at hl 2 rfl) ?_
      refine pp_i M V 12 20 (sm_this S) pC12 fk12_20 rfl lkF_X12_264 ⟨rfl, rfl⟩ dX12_behaves_134 (fun H locs V => ?_)
      have A := A.wk (l3 := [(137, 20)]) (by decide)
      have A := A.up (o := 137) (k := 20) (v := id) (by decide)
      have I := I.up (k := 20) (v := id) (sm_this S) (pi_full _)
      exact J_137 x125_2 x125_3 x125_4 x125_5 y125_0 _ _ _ _ V I (A.wk (by decide)) (lv_sub hl [1, 2, 3, 4, 5, 6, 0] rfl) (by omega) (show (h 137 27).toInt + (0) ≤ (hJ 137 27).toInt ∧ (hJ 137 27).toInt ≤ (h 137 27).toInt + (0) by omega) 
  have J_124 : ∀ (x124_2 : Int32) (x124_3 : Int32) (x124_4 : Int32) (x124_5 : Int32) (hJ : pH) (H : Heap) (locs : List Loc) (ls : Array Slot), pV Z hJ s.heap H locs → Iv Z hJ → agr [] h hJ → lv_has ls 8 [(0, .ref (zB Z + 137)), (1, .int id), (2, .int x124_2), (3, .int x124_3), (4, .int x124_4), (5, .int x124_5)] → ((h 137 27).toInt + (0) ≤ (hJ 137 27).toInt ∧ (hJ 137 27).toInt ≤ (h 137 27).toInt + (0)) → W p l e (pRm 1 0 0 26) s m ([.ref (zB Z + 137), .int id] : List Value).toArray below meth c H locs 0 0 (MQ below (pQi Z (fun r Z1 h1 => Z = Z1 ∧ Iv Z h1 ∧ agr [(137, 20), (137, 21), (137, 22), (137, 28), (137, 27), (144, 1000), (137, 19)] h h1 ∧ (r.toInt = 0 ∨ r.toInt = 1) ∧ ((h 137 27).toInt + (1) ≤ (h1 137 27).toInt ∧ (h1 137 27).toInt ≤ (h 137 27).toInt + (1)))) ([.ref (zB Z + 137), .int id] : List Value).toArray s 0 0 (pA (zB Z))) (F0 m 124 ls []) := by
    intro x124_2 x124_3 x124_4 x124_5 hJ H locs ls V I A hl gd_124_27
    refine lv_iconst (v := 0) hx hb dX12_behaves_124 (by decide) ?_
    have k_0 : (0 : Int32).toInt = 0 := rfl
    exact J_125 x124_2 x124_3 x124_4 x124_5 (0 : Int32) _ _ _ _ V I (A.wk (by decide)) (lv_sub hl [0, 1, 2, 3, 4, 5] rfl) (by omega) (show (h 137 27).toInt + (0) ≤ (hJ 137 27).toInt ∧ (hJ 137 27).toInt ≤ (h 137 27).toInt + (0) by omega) 
  have J_113 : ∀ (x113_2 : Int32) (x113_3 : Int32) (x113_4 : Int32) (x113_5 : Int32) (hJ : pH) (H : Heap) (locs : List Loc) (ls : Array Slot), pV Z hJ s.heap H locs → Iv Z hJ → agr [] h hJ → lv_has ls 8 [(0, .ref (zB Z + 137)), (1, .int id), (2, .int x113_2), (3, .int x113_3), (4, .int x113_4), (5, .int x113_5)] → ((h 137 27).toInt + (0) ≤ (hJ 137 27).toInt ∧ (hJ 137 27).toInt ≤ (h 137 27).toInt + (0)) → W p l e (pRm 1 0 0 26) s m ([.ref (zB Z + 137), .int id] : List Value).toArray below meth c H locs 0 0 (MQ below (pQi Z (fun r Z1 h1 => Z = Z1 ∧ Iv Z h1 ∧ agr [(137, 20), (137, 21), (137, 22), (137, 28), (137, 27), (144, 1000), (137, 19)] h h1 ∧ (r.toInt = 0 ∨ r.toInt = 1) ∧ ((h 137 27).toInt + (1) ≤ (h1 137 27).toInt ∧ (h1 137 27).toInt ≤ (h 137 27).toInt + (1)))) ([.ref (zB Z + 137), .int id] : List Value).toArray s 0 0 (pA (zB Z))) (F0 m 113 ls []) := by
    intro x113_2 x113_3 x113_4 x113_5 hJ H locs ls V I A hl gd_113_27
    refine lv_aload_n hx hb dX12_behaves_113 rfl (lv_at hl 0 rfl) ?_
    refine pg_i M V 12 20 (sm_this S) pC12 fk12_20 lkF_X12_264 dX12_behaves_114 ?_
    refine lv_topi (fun v18 ev18 => ?_)
    refine lv_if_ne (tgt := 124) hx hb dX12_behaves_117 (by decide) (fun c_117 => ?_) (fun c_117 => ?_)
    · skip
      have k_0 : (0 : Int32).toInt = 0 := rfl
      have c_117 := pi_ne c_117
      exact J_124 x113_2 x113_3 x113_4 x113_5 _ _ _ _ V I (A.wk (by decide)) (lv_sub hl [0, 1, 2, 3, 4, 5] rfl) (show (h 137 27).toInt + (0) ≤ (hJ 137 27).toInt ∧ (hJ 137 27).toInt ≤ (h 137 27).toInt + (0) by omega) 
    · skip
      have k_0 : (0 : Int32).toInt = 0 := rfl
      have c_117 := pi_eq.mp c_117
      refine lv_iconst (v := 1) hx hb dX12_behaves_120 (by decide) ?_
      refine lv_goto (tgt := 125) hx hb dX12_behaves_121 (by decide) ?_
      have k_1 : (1 : Int32).toInt = 1 := rfl
      exact J_125 x113_2 x113_3 x113_4 x113_5 (1 : Int32) _ _ _ _ V I (A.wk (by decide)) (lv_sub hl [0, 1, 2, 3, 4, 5] rfl) (by omega) (show (h 137 27).toInt + (0) ≤ (hJ 137 27).toInt ∧ (hJ 137 27).toInt ≤ (h 137 27).toInt + (0) by omega) 
  refine lv_aload_n hx hb dX12_behaves_0 rfl (lv_at hl 0 rfl) ?_
  refine pg_r M V 12 73 (sm_this S) pC12 fk12_73 (sm_item S).2.2 lkF_X12_150 dX12_behaves_1 ?_
  refine lv_iconst (v := 0) hx hb dX12_behaves_4 (by decide) ?_
  have k_0 : (0 : Int32).toInt = 0 := rfl
  refine pa_i M V (sm_item S).1 (by rw [(sm_item S).2.1]; exact pi_in (by omega)) dX12_behaves_5 ?_
  refine lv_topi (fun v19 ev19 => ?_)
  refine lv_aload_n hx hb dX12_behaves_6 rfl (lv_at hl 0 rfl) ?_
  refine pg_r M V 12 72 (sm_this S) pC12 fk12_72 (sm_clip S).2.2 lkF_X12_147 dX12_behaves_7 ?_
  refine lv_iconst (v := 0) hx hb dX12_behaves_10 (by decide) ?_
  refine pa_i M V (sm_clip S).1 (by rw [(sm_clip S).2.1]; exact pi_in (by omega)) dX12_behaves_11 ?_
  refine lv_topi (fun v20 ev20 => ?_)
  refine pk_i (pr_S M V (m_X12_max l (Z := Z) (h := _) v19 v20) km_X12_max lkM_X12_182 rfl hl.1 rfl (Nat.le_of_ble_eq_true rfl) ⟨Nat.le_of_ble_eq_true rfl, Nat.le_of_ble_eq_true rfl⟩ ⟨Nat.le_of_ble_eq_true rfl, Nat.le_of_ble_eq_true rfl⟩ dX12_behaves_12) V (fun r21 Zr21 hr21 H locs pr21 _ _ V => ?_)
  obtain ⟨rfl, rfl, fr21_0, fr21_1, fr21_2⟩ := pr21
  refine lv_istore_n (lv' := [(2, .int r21), (0, .ref (zB Z + 137)), (1, .int id)]) hx hb dX12_behaves_15 rfl hl (by decide) rfl (fun ls hl => ?_)
  refine lv_aload_n hx hb dX12_behaves_16 rfl (lv_at hl 1 rfl) ?_
  refine pg_r M V 12 73 (sm_this S) pC12 fk12_73 (sm_item S).2.2 lkF_X12_150 dX12_behaves_17 ?_
  refine lv_iconst (v := 1) hx hb dX12_behaves_20 (by decide) ?_
  have k_1 : (1 : Int32).toInt = 1 := rfl
  refine pa_i M V (sm_item S).1 (by rw [(sm_item S).2.1]; exact pi_in (by omega)) dX12_behaves_21 ?_
  refine lv_topi (fun v22 ev22 => ?_)
  refine lv_aload_n hx hb dX12_behaves_22 rfl (lv_at hl 1 rfl) ?_
  refine pg_r M V 12 72 (sm_this S) pC12 fk12_72 (sm_clip S).2.2 lkF_X12_147 dX12_behaves_23 ?_
  refine lv_iconst (v := 1) hx hb dX12_behaves_26 (by decide) ?_
  refine pa_i M V (sm_clip S).1 (by rw [(sm_clip S).2.1]; exact pi_in (by omega)) dX12_behaves_27 ?_
  refine lv_topi (fun v23 ev23 => ?_)
  refine pk_i (pr_S M V (m_X12_max l (Z := Z) (h := _) v22 v23) km_X12_max lkM_X12_182 rfl hl.1 rfl (Nat.le_of_ble_eq_true rfl) ⟨Nat.le_of_ble_eq_true rfl, Nat.le_of_ble_eq_true rfl⟩ ⟨Nat.le_of_ble_eq_true rfl, Nat.le_of_ble_eq_true rfl⟩ dX12_behaves_28) V (fun r24 Zr24 hr24 H locs pr24 _ _ V => ?_)
  obtain ⟨rfl, rfl, fr24_0, fr24_1, fr24_2⟩ := pr24
  refine lv_istore_n (lv' := [(3, .int r24), (2, .int r21), (0, .ref (zB Z + 137)), (1, .int id)]) hx hb dX12_behaves_31 rfl hl (by decide) rfl (fun ls hl => ?_)
  refine lv_aload_n hx hb dX12_behaves_32 rfl (lv_at hl 2 rfl) ?_
  refine pg_r M V 12 73 (sm_this S) pC12 fk12_73 (sm_item S).2.2 lkF_X12_150 dX12_behaves_33 ?_
  refine lv_iconst (v := 2) hx hb dX12_behaves_36 (by decide) ?_
  have k_2 : (2 : Int32).toInt = 2 := rfl
  refine pa_i M V (sm_item S).1 (by rw [(sm_item S).2.1]; exact pi_in (by omega)) dX12_behaves_37 ?_
  refine lv_topi (fun v25 ev25 => ?_)
  refine lv_aload_n hx hb dX12_behaves_38 rfl (lv_at hl 2 rfl) ?_
  refine pg_r M V 12 72 (sm_this S) pC12 fk12_72 (sm_clip S).2.2 lkF_X12_147 dX12_behaves_39 ?_
  refine lv_iconst (v := 2) hx hb dX12_behaves_42 (by decide) ?_
  refine pa_i M V (sm_clip S).1 (by rw [(sm_clip S).2.1]; exact pi_in (by omega)) dX12_behaves_43 ?_
  refine lv_topi (fun v26 ev26 => ?_)
  refine pk_i (pr_S M V (m_X12_min l (Z := Z) (h := _) v25 v26) km_X12_min lkM_X12_178 rfl hl.1 rfl (Nat.le_of_ble_eq_true rfl) ⟨Nat.le_of_ble_eq_true rfl, Nat.le_of_ble_eq_true rfl⟩ ⟨Nat.le_of_ble_eq_true rfl, Nat.le_of_ble_eq_true rfl⟩ dX12_behaves_44) V (fun r27 Zr27 hr27 H locs pr27 _ _ V => ?_)
  obtain ⟨rfl, rfl, fr27_0, fr27_1, fr27_2⟩ := pr27
  refine lv_istore (lv' := [(4, .int r27), (3, .int r24), (2, .int r21), (0, .ref (zB Z + 137)), (1, .int id)]) hx hb dX12_behaves_47 hl (by decide) rfl (fun ls hl => ?_)
  refine lv_aload_n hx hb dX12_behaves_49 rfl (lv_at hl 3 rfl) ?_
  refine pg_r M V 12 73 (sm_this S) pC12 fk12_73 (sm_item S).2.2 lkF_X12_150 dX12_behaves_50 ?_
  refine lv_iconst (v := 3) hx hb dX12_behaves_53 (by decide) ?_
  have k_3 : (3 : Int32).toInt = 3 := rfl
  refine pa_i M V (sm_item S).1 (by rw [(sm_item S).2.1]; exact pi_in (by omega)) dX12_behaves_54 ?_
  refine lv_topi (fun v28 ev28 => ?_)
  refine lv_aload_n hx hb dX12_behaves_55 rfl (lv_at hl 3 rfl) ?_
  refine pg_r M V 12 72 (sm_this S) pC12 fk12_72 (sm_clip S).2.2 lkF_X12_147 dX12_behaves_56 ?_
  refine lv_iconst (v := 3) hx hb dX12_behaves_59 (by decide) ?_
  refine pa_i M V (sm_clip S).1 (by rw [(sm_clip S).2.1]; exact pi_in (by omega)) dX12_behaves_60 ?_
  refine lv_topi (fun v29 ev29 => ?_)
  refine pk_i (pr_S M V (m_X12_min l (Z := Z) (h := _) v28 v29) km_X12_min lkM_X12_178 rfl hl.1 rfl (Nat.le_of_ble_eq_true rfl) ⟨Nat.le_of_ble_eq_true rfl, Nat.le_of_ble_eq_true rfl⟩ ⟨Nat.le_of_ble_eq_true rfl, Nat.le_of_ble_eq_true rfl⟩ dX12_behaves_61) V (fun r30 Zr30 hr30 H locs pr30 _ _ V => ?_)
  obtain ⟨rfl, rfl, fr30_0, fr30_1, fr30_2⟩ := pr30
  refine lv_istore (lv' := [(5, .int r30), (4, .int r27), (3, .int r24), (2, .int r21), (0, .ref (zB Z + 137)), (1, .int id)]) hx hb dX12_behaves_64 hl (by decide) rfl (fun ls hl => ?_)
  refine lv_aload_n hx hb dX12_behaves_66 rfl (lv_at hl 4 rfl) ?_
  refine lv_aload_n hx hb dX12_behaves_67 rfl (lv_at hl 4 rfl) ?_
  refine pg_i M V 12 3 (sm_this S) pC12 fk12_3 lkF_X12_192 dX12_behaves_68 ?_
  refine lv_topi (fun v31 ev31 => ?_)
  refine lv_aload_n hx hb dX12_behaves_71 rfl (lv_at hl 4 rfl) ?_
  refine pg_i M V 12 4 (sm_this S) pC12 fk12_4 lkF_X12_195 dX12_behaves_72 ?_
  refine lv_topi (fun v32 ev32 => ?_)
  refine lv_iload_n hx hb dX12_behaves_75 rfl (lv_at hl 3 rfl) ?_
  refine lv_iload_n hx hb dX12_behaves_76 rfl (lv_at hl 2 rfl) ?_
  refine lv_iload hx hb dX12_behaves_77 (lv_at hl 1 rfl) ?_
  refine lv_iload hx hb dX12_behaves_79 (lv_at hl 0 rfl) ?_
  refine pk_i (pr_V M V (m_X12_isIn l S I v31 v32 r21 r24 r27 r30) km_X12_isIn (sm_this S) pC12 lkM_X12_228 rfl hl.1 rfl (Nat.le_of_ble_eq_true rfl) ⟨Nat.le_of_ble_eq_true rfl, Nat.le_of_ble_eq_true rfl⟩ ⟨Nat.le_of_ble_eq_true rfl, Nat.le_of_ble_eq_true rfl⟩ dX12_behaves_81) V (fun r33 Zr33 hr33 H locs pr33 _ _ V => ?_)
  obtain ⟨rfl, rfl, fr33_0⟩ := pr33
  refine lv_if_eq (tgt := 124) hx hb dX12_behaves_84 (by decide) (fun c_84 => ?_) (fun c_84 => ?_)
  · skip
    have c_84 := pi_eq.mp c_84
    exact J_124 r21 r24 r27 r30 _ _ _ _ V I (A.wk (by decide)) (lv_sub hl [4, 5, 3, 2, 1, 0] rfl) (show (h 137 27).toInt + (0) ≤ (h 137 27).toInt ∧ (h 137 27).toInt ≤ (h 137 27).toInt + (0) by omega) 
  · skip
    have c_84 := pi_ne c_84
    refine lv_aload_n hx hb dX12_behaves_87 rfl (lv_at hl 4 rfl) ?_
    refine pg_i M V 12 23 (sm_this S) pC12 fk12_23 lkF_X12_26 dX12_behaves_88 ?_
    refine lv_topi (fun v34 ev34 => ?_)
    have tv34 : -1 ≤ v34.toInt ∧ v34.toInt ≤ 8 := by rw [ev34]; exact I.get (sm_this S) 23
    refine lv_aload_n hx hb dX12_behaves_91 rfl (lv_at hl 4 rfl) ?_
    refine pg_i M V 12 71 (sm_this S) pC12 fk12_71 lkF_X12_144 dX12_behaves_92 ?_
    refine lv_topi (fun v35 ev35 => ?_)
    have tv35 : -1 ≤ v35.toInt ∧ v35.toInt ≤ 8 := by rw [ev35]; exact I.get (sm_this S) 71
    refine lv_icmp_ne (tgt := 124) hx hb dX12_behaves_95 (by decide) (fun c_95 => ?_) (fun c_95 => ?_)
    · skip
      have c_95 := pi_ne c_95
      exact J_124 r21 r24 r27 r30 _ _ _ _ V I (A.wk (by decide)) (lv_sub hl [4, 5, 3, 2, 1, 0] rfl) (show (h 137 27).toInt + (0) ≤ (h 137 27).toInt ∧ (h 137 27).toInt ≤ (h 137 27).toInt + (0) by omega) 
    · skip
      have c_95 := pi_eq.mp c_95
      refine lv_aload_n hx hb dX12_behaves_98 rfl (lv_at hl 4 rfl) ?_
      refine pg_i M V 12 19 (sm_this S) pC12 fk12_19 lkF_X12_255 dX12_behaves_99 ?_
      refine lv_topi (fun v36 ev36 => ?_)
      refine lv_if_eq (tgt := 113) hx hb dX12_behaves_102 (by decide) (fun c_102 => ?_) (fun c_102 => ?_)
      · skip
        have c_102 := pi_eq.mp c_102
        exact J_113 r21 r24 r27 r30 _ _ _ _ V I (A.wk (by decide)) (lv_sub hl [4, 5, 3, 2, 1, 0] rfl) (show (h 137 27).toInt + (0) ≤ (h 137 27).toInt ∧ (h 137 27).toInt ≤ (h 137 27).toInt + (0) by omega) 
      · skip
        have c_102 := pi_ne c_102
        refine lv_aload_n hx hb dX12_behaves_105 rfl (lv_at hl 4 rfl) ?_
        refine pg_iv M V 12 19 (v := v36) (sm_this S) pC12 fk12_19 ev36.symm lkF_X12_255 dX12_behaves_106 ?_
        refine lv_iload_n hx hb dX12_behaves_109 rfl (lv_at hl 5 rfl) ?_
        refine lv_icmp_ne (tgt := 124) hx hb dX12_behaves_110 (by decide) (fun c_110 => ?_) (fun c_110 => ?_)
        · skip
          have c_110 := pi_ne c_110
          exact J_124 r21 r24 r27 r30 _ _ _ _ V I (A.wk (by decide)) (lv_sub hl [4, 5, 3, 2, 1, 0] rfl) (show (h 137 27).toInt + (0) ≤ (h 137 27).toInt ∧ (h 137 27).toInt ≤ (h 137 27).toInt + (0) by omega) 
        · skip
          have c_110 := pi_eq.mp c_110
          exact J_113 r21 r24 r27 r30 _ _ _ _ V I (A.wk (by decide)) (lv_sub hl [4, 5, 3, 2, 1, 0] rfl) (show (h 137 27).toInt + (0) ≤ (h 137 27).toInt ∧ (h 137 27).toInt ≤ (h 137 27).toInt + (0) by omega) 
theorem dX12_take_0 : decode cX12_take 0 = .ok (.iload_n 1, 1) := by decide +kernel
theorem dX12_take_1 : decode cX12_take 1 = .ok (.ifCond .ne 16, 3) := by decide +kernel
theorem dX12_take_4 : decode cX12_take 4 = .ok (.aload_n 0, 1) := by decide +kernel
theorem dX12_take_5 : decode cX12_take 5 = .ok (.iload_n 2, 1) := by decide +kernel
theorem dX12_take_6 : decode cX12_take 6 = .ok (.putfield 192, 3) := by decide +kernel
theorem dX12_take_9 : decode cX12_take 9 = .ok (.aload_n 0, 1) := by decide +kernel
theorem dX12_take_10 : decode cX12_take 10 = .ok (.iload_n 3, 1) := by decide +kernel
theorem dX12_take_11 : decode cX12_take 11 = .ok (.putfield 195, 3) := by decide +kernel
theorem dX12_take_14 : decode cX12_take 14 = .ok (.goto 211, 3) := by decide +kernel
theorem dX12_take_17 : decode cX12_take 17 = .ok (.iload_n 1, 1) := by decide +kernel
theorem dX12_take_18 : decode cX12_take 18 = .ok (.iconst 1, 1) := by decide +kernel
theorem dX12_take_19 : decode cX12_take 19 = .ok (.if_icmp .ne 97, 3) := by decide +kernel
theorem dX12_take_22 : decode cX12_take 22 = .ok (.iload_n 2, 1) := by decide +kernel
theorem dX12_take_23 : decode cX12_take 23 = .ok (.iconst 1, 1) := by decide +kernel
theorem dX12_take_24 : decode cX12_take 24 = .ok (.if_icmp .ne 7, 3) := by decide +kernel
theorem dX12_take_27 : decode cX12_take 27 = .ok (.iconst 1, 1) := by decide +kernel
theorem dX12_take_28 : decode cX12_take 28 = .ok (.goto 4, 3) := by decide +kernel
theorem dX12_take_31 : decode cX12_take 31 = .ok (.iconst 0, 1) := by decide +kernel
theorem dX12_take_32 : decode cX12_take 32 = .ok (.istore 4, 2) := by decide +kernel
theorem dX12_take_34 : decode cX12_take 34 = .ok (.iload 4, 2) := by decide +kernel
theorem dX12_take_36 : decode cX12_take 36 = .ok (.aload_n 0, 1) := by decide +kernel
theorem dX12_take_37 : decode cX12_take 37 = .ok (.getfield 198, 3) := by decide +kernel
theorem dX12_take_40 : decode cX12_take 40 = .ok (.if_icmp .ne 4, 3) := by decide +kernel
theorem dX12_take_43 : decode cX12_take 43 = .ok (.return_, 1) := by decide +kernel
theorem dX12_take_44 : decode cX12_take 44 = .ok (.aload_n 0, 1) := by decide +kernel
theorem dX12_take_45 : decode cX12_take 45 = .ok (.iload 4, 2) := by decide +kernel
theorem dX12_take_47 : decode cX12_take 47 = .ok (.putfield 198, 3) := by decide +kernel
theorem dX12_take_50 : decode cX12_take 50 = .ok (.aload_n 0, 1) := by decide +kernel
theorem dX12_take_51 : decode cX12_take 51 = .ok (.aload_n 0, 1) := by decide +kernel
theorem dX12_take_52 : decode cX12_take 52 = .ok (.getfield 202, 3) := by decide +kernel
theorem dX12_take_55 : decode cX12_take 55 = .ok (.ifCond .ne 8, 3) := by decide +kernel
theorem dX12_take_58 : decode cX12_take 58 = .ok (.iload 4, 2) := by decide +kernel
theorem dX12_take_60 : decode cX12_take 60 = .ok (.ifCond .eq 7, 3) := by decide +kernel
theorem dX12_take_63 : decode cX12_take 63 = .ok (.iconst 1, 1) := by decide +kernel
theorem dX12_take_64 : decode cX12_take 64 = .ok (.goto 4, 3) := by decide +kernel
theorem dX12_take_67 : decode cX12_take 67 = .ok (.iconst 0, 1) := by decide +kernel
theorem dX12_take_68 : decode cX12_take 68 = .ok (.putfield 202, 3) := by decide +kernel
theorem dX12_take_71 : decode cX12_take 71 = .ok (.aload_n 0, 1) := by decide +kernel
theorem dX12_take_72 : decode cX12_take 72 = .ok (.aload_n 0, 1) := by decide +kernel
theorem dX12_take_73 : decode cX12_take 73 = .ok (.getfield 205, 3) := by decide +kernel
theorem dX12_take_76 : decode cX12_take 76 = .ok (.ifCond .ne 8, 3) := by decide +kernel
theorem dX12_take_79 : decode cX12_take 79 = .ok (.iload 4, 2) := by decide +kernel
theorem dX12_take_81 : decode cX12_take 81 = .ok (.ifCond .ne 7, 3) := by decide +kernel
theorem dX12_take_84 : decode cX12_take 84 = .ok (.iconst 1, 1) := by decide +kernel
theorem dX12_take_85 : decode cX12_take 85 = .ok (.goto 4, 3) := by decide +kernel
theorem dX12_take_88 : decode cX12_take 88 = .ok (.iconst 0, 1) := by decide +kernel
theorem dX12_take_89 : decode cX12_take 89 = .ok (.putfield 205, 3) := by decide +kernel
theorem dX12_take_92 : decode cX12_take 92 = .ok (.iload 4, 2) := by decide +kernel
theorem dX12_take_94 : decode cX12_take 94 = .ok (.ifCond .eq 19, 3) := by decide +kernel
theorem dX12_take_97 : decode cX12_take 97 = .ok (.aload_n 0, 1) := by decide +kernel
theorem dX12_take_98 : decode cX12_take 98 = .ok (.aload_n 0, 1) := by decide +kernel
theorem dX12_take_99 : decode cX12_take 99 = .ok (.getfield 192, 3) := by decide +kernel
theorem dX12_take_102 : decode cX12_take 102 = .ok (.putfield 208, 3) := by decide +kernel
theorem dX12_take_105 : decode cX12_take 105 = .ok (.aload_n 0, 1) := by decide +kernel
theorem dX12_take_106 : decode cX12_take 106 = .ok (.aload_n 0, 1) := by decide +kernel
theorem dX12_take_107 : decode cX12_take 107 = .ok (.getfield 195, 3) := by decide +kernel
theorem dX12_take_110 : decode cX12_take 110 = .ok (.putfield 211, 3) := by decide +kernel
theorem dX12_take_113 : decode cX12_take 113 = .ok (.goto 112, 3) := by decide +kernel
theorem dX12_take_116 : decode cX12_take 116 = .ok (.iload_n 1, 1) := by decide +kernel
theorem dX12_take_117 : decode cX12_take 117 = .ok (.iconst 2, 1) := by decide +kernel
theorem dX12_take_118 : decode cX12_take 118 = .ok (.if_icmp .ne 16, 3) := by decide +kernel
theorem dX12_take_121 : decode cX12_take 121 = .ok (.aload_n 0, 1) := by decide +kernel
theorem dX12_take_122 : decode cX12_take 122 = .ok (.dup, 1) := by decide +kernel
theorem dX12_take_123 : decode cX12_take 123 = .ok (.getfield 214, 3) := by decide +kernel
theorem dX12_take_126 : decode cX12_take 126 = .ok (.iload_n 2, 1) := by decide +kernel
theorem dX12_take_127 : decode cX12_take 127 = .ok (.iadd, 1) := by decide +kernel
theorem dX12_take_128 : decode cX12_take 128 = .ok (.putfield 214, 3) := by decide +kernel
theorem dX12_take_131 : decode cX12_take 131 = .ok (.goto 94, 3) := by decide +kernel
theorem dX12_take_134 : decode cX12_take 134 = .ok (.iload_n 1, 1) := by decide +kernel
theorem dX12_take_135 : decode cX12_take 135 = .ok (.iconst 3, 1) := by decide +kernel
theorem dX12_take_136 : decode cX12_take 136 = .ok (.if_icmp .ne 60, 3) := by decide +kernel
theorem dX12_take_139 : decode cX12_take 139 = .ok (.iload_n 3, 1) := by decide +kernel
theorem dX12_take_140 : decode cX12_take 140 = .ok (.iconst 1, 1) := by decide +kernel
theorem dX12_take_141 : decode cX12_take 141 = .ok (.if_icmp .ne 7, 3) := by decide +kernel
theorem dX12_take_144 : decode cX12_take 144 = .ok (.iconst 1, 1) := by decide +kernel
theorem dX12_take_145 : decode cX12_take 145 = .ok (.goto 4, 3) := by decide +kernel
theorem dX12_take_148 : decode cX12_take 148 = .ok (.iconst 0, 1) := by decide +kernel
theorem dX12_take_149 : decode cX12_take 149 = .ok (.istore 4, 2) := by decide +kernel
theorem dX12_take_151 : decode cX12_take 151 = .ok (.aload_n 0, 1) := by decide +kernel
theorem dX12_take_152 : decode cX12_take 152 = .ok (.getfield 13, 3) := by decide +kernel
theorem dX12_take_155 : decode cX12_take 155 = .ok (.iload_n 2, 1) := by decide +kernel
theorem dX12_take_156 : decode cX12_take 156 = .ok (.baload, 1) := by decide +kernel
theorem dX12_take_157 : decode cX12_take 157 = .ok (.iload 4, 2) := by decide +kernel
theorem dX12_take_159 : decode cX12_take 159 = .ok (.if_icmp .ne 4, 3) := by decide +kernel
theorem dX12_take_162 : decode cX12_take 162 = .ok (.return_, 1) := by decide +kernel
theorem dX12_take_163 : decode cX12_take 163 = .ok (.aload_n 0, 1) := by decide +kernel
theorem dX12_take_164 : decode cX12_take 164 = .ok (.getfield 13, 3) := by decide +kernel
theorem dX12_take_167 : decode cX12_take 167 = .ok (.iload_n 2, 1) := by decide +kernel
theorem dX12_take_168 : decode cX12_take 168 = .ok (.iload 4, 2) := by decide +kernel
theorem dX12_take_170 : decode cX12_take 170 = .ok (.bastore, 1) := by decide +kernel
theorem dX12_take_171 : decode cX12_take 171 = .ok (.iload 4, 2) := by decide +kernel
theorem dX12_take_173 : decode cX12_take 173 = .ok (.ifCond .eq 13, 3) := by decide +kernel
theorem dX12_take_176 : decode cX12_take 176 = .ok (.aload_n 0, 1) := by decide +kernel
theorem dX12_take_177 : decode cX12_take 177 = .ok (.getfield 17, 3) := by decide +kernel
theorem dX12_take_180 : decode cX12_take 180 = .ok (.iload_n 2, 1) := by decide +kernel
theorem dX12_take_181 : decode cX12_take 181 = .ok (.iconst 1, 1) := by decide +kernel
theorem dX12_take_182 : decode cX12_take 182 = .ok (.bastore, 1) := by decide +kernel
theorem dX12_take_183 : decode cX12_take 183 = .ok (.goto 10, 3) := by decide +kernel
theorem dX12_take_186 : decode cX12_take 186 = .ok (.aload_n 0, 1) := by decide +kernel
theorem dX12_take_187 : decode cX12_take 187 = .ok (.getfield 20, 3) := by decide +kernel
theorem dX12_take_190 : decode cX12_take 190 = .ok (.iload_n 2, 1) := by decide +kernel
theorem dX12_take_191 : decode cX12_take 191 = .ok (.iconst 1, 1) := by decide +kernel
theorem dX12_take_192 : decode cX12_take 192 = .ok (.bastore, 1) := by decide +kernel
theorem dX12_take_193 : decode cX12_take 193 = .ok (.goto 32, 3) := by decide +kernel
theorem dX12_take_196 : decode cX12_take 196 = .ok (.aload_n 0, 1) := by decide +kernel
theorem dX12_take_197 : decode cX12_take 197 = .ok (.getfield 217, 3) := by decide +kernel
theorem dX12_take_200 : decode cX12_take 200 = .ok (.bipush 16, 2) := by decide +kernel
theorem dX12_take_202 : decode cX12_take 202 = .ok (.if_icmp .ge 23, 3) := by decide +kernel
theorem dX12_take_205 : decode cX12_take 205 = .ok (.aload_n 0, 1) := by decide +kernel
theorem dX12_take_206 : decode cX12_take 206 = .ok (.getfield 23, 3) := by decide +kernel
theorem dX12_take_209 : decode cX12_take 209 = .ok (.aload_n 0, 1) := by decide +kernel
theorem dX12_take_210 : decode cX12_take 210 = .ok (.getfield 217, 3) := by decide +kernel
theorem dX12_take_213 : decode cX12_take 213 = .ok (.iload_n 2, 1) := by decide +kernel
theorem dX12_take_214 : decode cX12_take 214 = .ok (.iastore, 1) := by decide +kernel
theorem dX12_take_215 : decode cX12_take 215 = .ok (.aload_n 0, 1) := by decide +kernel
theorem dX12_take_216 : decode cX12_take 216 = .ok (.dup, 1) := by decide +kernel
theorem dX12_take_217 : decode cX12_take 217 = .ok (.getfield 217, 3) := by decide +kernel
theorem dX12_take_220 : decode cX12_take 220 = .ok (.iconst 1, 1) := by decide +kernel
theorem dX12_take_221 : decode cX12_take 221 = .ok (.iadd, 1) := by decide +kernel
theorem dX12_take_222 : decode cX12_take 222 = .ok (.putfield 217, 3) := by decide +kernel
theorem dX12_take_225 : decode cX12_take 225 = .ok (.return_, 1) := by decide +kernel
set_option maxHeartbeats 4000000 in
set_option maxRecDepth 100000 in
theorem m_X12_take (l : Launch) {Z : pZ} (S : pSh Z) {h : pH} (I : Iv Z h) (what : Int32) (a : Int32) (b : Int32) (hk : what.toInt = 3 → 0 ≤ a.toInt ∧ a.toInt ≤ 5) : pMet l yX12_take cX12_take 5 none 0 0 0 0 Z h [.ref (zB Z + 137), .int what, .int a, .int b] (pQv Z (fun Z1 h1 => Z = Z1 ∧ Iv Z h1 ∧ agr [(137, 3), (137, 4), (137, 9), (137, 13), (137, 14), (137, 7), (137, 8), (137, 15), (137, 16), (139, 1000), (140, 1000), (141, 1000), (142, 1000)] h h1)) := by
  refine pOfW (lv := [(0, .ref (zB Z + 137)), (1, .int what), (2, .int a), (3, .int b)]) (by decide) (Nat.le_of_ble_eq_true rfl) rfl ?_
  intro p e s m below meth c ls M hr hlk hnm V hl
  have hx := M.1.1
  have hb := M.1.2.1
  have A : agr [] h h := agr.rf
  have J_225 : ∀ (hJ : pH) (H : Heap) (locs : List Loc) (ls : Array Slot), pV Z hJ s.heap H locs → Iv Z hJ → agr [(137, 3), (137, 4), (137, 7), (137, 8), (137, 9), (137, 13), (137, 14), (137, 15), (137, 16), (139, 1000), (140, 1000), (141, 1000), (142, 1000)] h hJ → lv_has ls 5 [(0, .ref (zB Z + 137)), (1, .int what), (2, .int a), (3, .int b)] → W p l e (pRm 0 0 0 0) s m ([.ref (zB Z + 137), .int what, .int a, .int b] : List Value).toArray below meth c H locs 0 0 (MQ below (pQv Z (fun Z1 h1 => Z = Z1 ∧ Iv Z h1 ∧ agr [(137, 3), (137, 4), (137, 9), (137, 13), (137, 14), (137, 7), (137, 8), (137, 15), (137, 16), (139, 1000), (140, 1000), (141, 1000), (142, 1000)] h h1)) ([.ref (zB Z + 137), .int what, .int a, .int b] : List Value).toArray s 0 0 (pA (zB Z))) (F0 m 225 ls []) := by
    intro hJ H locs ls V I A hl
    exact pe_v M V rfl rfl hr hlk ⟨rfl, I, A.wk (by decide)⟩ ⟨Nat.le_refl _, Nat.le_refl _⟩ dX12_take_225
  have J_193 : ∀ (x193_4 : Int32) (hJ : pH) (H : Heap) (locs : List Loc) (ls : Array Slot), pV Z hJ s.heap H locs → Iv Z hJ → agr [(139, 1000), (140, 1000), (141, 1000)] h hJ → lv_has ls 5 [(0, .ref (zB Z + 137)), (1, .int what), (2, .int a), (3, .int b), (4, .int x193_4)] → (3 ≤ what.toInt ∧ what.toInt ≤ 3) → (0 ≤ x193_4.toInt ∧ x193_4.toInt ≤ 1) → W p l e (pRm 0 0 0 0) s m ([.ref (zB Z + 137), .int what, .int a, .int b] : List Value).toArray below meth c H locs 0 0 (MQ below (pQv Z (fun Z1 h1 => Z = Z1 ∧ Iv Z h1 ∧ agr [(137, 3), (137, 4), (137, 9), (137, 13), (137, 14), (137, 7), (137, 8), (137, 15), (137, 16), (139, 1000), (140, 1000), (141, 1000), (142, 1000)] h h1)) ([.ref (zB Z + 137), .int what, .int a, .int b] : List Value).toArray s 0 0 (pA (zB Z))) (F0 m 193 ls []) := by
    intro x193_4 hJ H locs ls V I A hl g_193_1 g_193_4
    refine lv_goto (tgt := 225) hx hb dX12_take_193 (by decide) ?_
    exact J_225 _ _ _ _ V I (A.wk (by decide)) (lv_sub hl [0, 1, 2, 3] rfl) 
  have J_113 : ∀ (x113_4 : Int32) (hJ : pH) (H : Heap) (locs : List Loc) (ls : Array Slot), pV Z hJ s.heap H locs → Iv Z hJ → agr [(137, 7), (137, 8), (137, 9), (137, 13), (137, 14)] h hJ → lv_has ls 5 [(0, .ref (zB Z + 137)), (1, .int what), (2, .int a), (3, .int b), (4, .int x113_4)] → (1 ≤ what.toInt ∧ what.toInt ≤ 1) → (0 ≤ x113_4.toInt ∧ x113_4.toInt ≤ 1) → W p l e (pRm 0 0 0 0) s m ([.ref (zB Z + 137), .int what, .int a, .int b] : List Value).toArray below meth c H locs 0 0 (MQ below (pQv Z (fun Z1 h1 => Z = Z1 ∧ Iv Z h1 ∧ agr [(137, 3), (137, 4), (137, 9), (137, 13), (137, 14), (137, 7), (137, 8), (137, 15), (137, 16), (139, 1000), (140, 1000), (141, 1000), (142, 1000)] h h1)) ([.ref (zB Z + 137), .int what, .int a, .int b] : List Value).toArray s 0 0 (pA (zB Z))) (F0 m 113 ls []) := by
    intro x113_4 hJ H locs ls V I A hl g_113_1 g_113_4
    refine lv_goto (tgt := 225) hx hb dX12_take_113 (by decide) ?_
    exact J_225 _ _ _ _ V I (A.wk (by decide)) (lv_sub hl [0, 1, 2, 3] rfl) 
  have J_89 : ∀ (x89_4 : Int32) (y89_0 : Int32) (hJ : pH) (H : Heap) (locs : List Loc) (ls : Array Slot), pV Z hJ s.heap H locs → Iv Z hJ → agr [(137, 9), (137, 13)] h hJ → lv_has ls 5 [(0, .ref (zB Z + 137)), (1, .int what), (2, .int a), (3, .int b), (4, .int x89_4)] → (1 ≤ what.toInt ∧ what.toInt ≤ 1) → (0 ≤ x89_4.toInt ∧ x89_4.toInt ≤ 1) → (0 ≤ y89_0.toInt ∧ y89_0.toInt ≤ 1) → W p l e (pRm 0 0 0 0) s m ([.ref (zB Z + 137), .int what, .int a, .int b] : List Value).toArray below meth c H locs 0 0 (MQ below (pQv Z (fun Z1 h1 => Z = Z1 ∧ Iv Z h1 ∧ agr [(137, 3), (137, 4), (137, 9), (137, 13), (137, 14), (137, 7), (137, 8), (137, 15), (137, 16), (139, 1000), (140, 1000), (141, 1000), (142, 1000)] h h1)) ([.ref (zB Z + 137), .int what, .int a, .int b] : List Value).toArray s 0 0 (pA (zB Z))) (F0 m 89 ls [.int y89_0, .ref (zB Z + 137)]) := by
    intro x89_4 y89_0 hJ H locs ls V I A hl g_89_1 g_89_4 gs_89_0
    have z_89 : y89_0 = 0 ∨ y89_0 = 1 := pi_z (by omega)
    refine pp_i M V 12 14 (sm_this S) pC12 fk12_14 rfl lkF_X12_205 ⟨(pn_z z_89).1, (pn_z z_89).2.1⟩ dX12_take_89 (fun H locs V => ?_)
    have A := A.wk (l3 := [(137, 9), (137, 13), (137, 14)]) (by decide)
    have A := A.up (o := 137) (k := 14) (v := y89_0) (by decide)
    have I := I.up (k := 14) (v := y89_0) (sm_this S) (show (0 : Int) ≤ y89_0.toInt ∧ y89_0.toInt ≤ (1 : Int) by omega)
    refine lv_iload hx hb dX12_take_92 (lv_at hl 4 rfl) ?_
    refine lv_if_eq (tgt := 113) hx hb dX12_take_94 (by decide) (fun c_94 => ?_) (fun c_94 => ?_)
    · skip
      have k_0 : (0 : Int32).toInt = 0 := rfl
      have c_94 := pi_eq.mp c_94
      exact J_113 x89_4 _ _ _ _ V I (A.wk (by decide)) (lv_sub hl [0, 1, 2, 3, 4] rfl) (by omega) (by omega) 
    · skip
      have k_0 : (0 : Int32).toInt = 0 := rfl
      have c_94 := pi_ne c_94
      refine lv_aload_n hx hb dX12_take_97 rfl (lv_at hl 0 rfl) ?_
      refine lv_aload_n hx hb dX12_take_98 rfl (lv_at hl 0 rfl) ?_
      refine pg_i M V 12 3 (sm_this S) pC12 fk12_3 lkF_X12_192 dX12_take_99 ?_
      refine lv_topi (fun v1 ev1 => ?_)
      refine pp_i M V 12 7 (sm_this S) pC12 fk12_7 rfl lkF_X12_208 ⟨rfl, rfl⟩ dX12_take_102 (fun H locs V => ?_)
      have A := A.wk (l3 := [(137, 9), (137, 13), (137, 14), (137, 7)]) (by decide)
      have A := A.up (o := 137) (k := 7) (v := v1) (by decide)
      have I := I.up (k := 7) (v := v1) (sm_this S) (pi_full _)
      refine lv_aload_n hx hb dX12_take_105 rfl (lv_at hl 0 rfl) ?_
      refine lv_aload_n hx hb dX12_take_106 rfl (lv_at hl 0 rfl) ?_
      refine pg_i M V 12 4 (sm_this S) pC12 fk12_4 lkF_X12_195 dX12_take_107 ?_
      refine lv_topi (fun v2 ev2 => ?_)
      refine pp_i M V 12 8 (sm_this S) pC12 fk12_8 rfl lkF_X12_211 ⟨rfl, rfl⟩ dX12_take_110 (fun H locs V => ?_)
      have A := A.wk (l3 := [(137, 9), (137, 13), (137, 14), (137, 7), (137, 8)]) (by decide)
      have A := A.up (o := 137) (k := 8) (v := v2) (by decide)
      have I := I.up (k := 8) (v := v2) (sm_this S) (pi_full _)
      exact J_113 x89_4 _ _ _ _ V I (A.wk (by decide)) (lv_sub hl [0, 1, 2, 3, 4] rfl) (by omega) (by omega) 
  have J_84 : ∀ (x84_4 : Int32) (hJ : pH) (H : Heap) (locs : List Loc) (ls : Array Slot), pV Z hJ s.heap H locs → Iv Z hJ → agr [(137, 9), (137, 13)] h hJ → lv_has ls 5 [(0, .ref (zB Z + 137)), (1, .int what), (2, .int a), (3, .int b), (4, .int x84_4)] → (1 ≤ what.toInt ∧ what.toInt ≤ 1) → (0 ≤ x84_4.toInt ∧ x84_4.toInt ≤ 1) → W p l e (pRm 0 0 0 0) s m ([.ref (zB Z + 137), .int what, .int a, .int b] : List Value).toArray below meth c H locs 0 0 (MQ below (pQv Z (fun Z1 h1 => Z = Z1 ∧ Iv Z h1 ∧ agr [(137, 3), (137, 4), (137, 9), (137, 13), (137, 14), (137, 7), (137, 8), (137, 15), (137, 16), (139, 1000), (140, 1000), (141, 1000), (142, 1000)] h h1)) ([.ref (zB Z + 137), .int what, .int a, .int b] : List Value).toArray s 0 0 (pA (zB Z))) (F0 m 84 ls [.ref (zB Z + 137)]) := by
    intro x84_4 hJ H locs ls V I A hl g_84_1 g_84_4
    refine lv_iconst (v := 1) hx hb dX12_take_84 (by decide) ?_
    refine lv_goto (tgt := 89) hx hb dX12_take_85 (by decide) ?_
    have k_1 : (1 : Int32).toInt = 1 := rfl
    exact J_89 x84_4 (1 : Int32) _ _ _ _ V I (A.wk (by decide)) (lv_sub hl [0, 1, 2, 3, 4] rfl) (by omega) (by omega) (by omega) 
  have J_68 : ∀ (x68_4 : Int32) (y68_0 : Int32) (hJ : pH) (H : Heap) (locs : List Loc) (ls : Array Slot), pV Z hJ s.heap H locs → Iv Z hJ → agr [(137, 9)] h hJ → lv_has ls 5 [(0, .ref (zB Z + 137)), (1, .int what), (2, .int a), (3, .int b), (4, .int x68_4)] → (1 ≤ what.toInt ∧ what.toInt ≤ 1) → (0 ≤ x68_4.toInt ∧ x68_4.toInt ≤ 1) → (0 ≤ y68_0.toInt ∧ y68_0.toInt ≤ 1) → W p l e (pRm 0 0 0 0) s m ([.ref (zB Z + 137), .int what, .int a, .int b] : List Value).toArray below meth c H locs 0 0 (MQ below (pQv Z (fun Z1 h1 => Z = Z1 ∧ Iv Z h1 ∧ agr [(137, 3), (137, 4), (137, 9), (137, 13), (137, 14), (137, 7), (137, 8), (137, 15), (137, 16), (139, 1000), (140, 1000), (141, 1000), (142, 1000)] h h1)) ([.ref (zB Z + 137), .int what, .int a, .int b] : List Value).toArray s 0 0 (pA (zB Z))) (F0 m 68 ls [.int y68_0, .ref (zB Z + 137)]) := by
    intro x68_4 y68_0 hJ H locs ls V I A hl g_68_1 g_68_4 gs_68_0
    have z_68 : y68_0 = 0 ∨ y68_0 = 1 := pi_z (by omega)
    refine pp_i M V 12 13 (sm_this S) pC12 fk12_13 rfl lkF_X12_202 ⟨(pn_z z_68).1, (pn_z z_68).2.1⟩ dX12_take_68 (fun H locs V => ?_)
    have A := A.wk (l3 := [(137, 9), (137, 13)]) (by decide)
    have A := A.up (o := 137) (k := 13) (v := y68_0) (by decide)
    have I := I.up (k := 13) (v := y68_0) (sm_this S) (show (0 : Int) ≤ y68_0.toInt ∧ y68_0.toInt ≤ (1 : Int) by omega)
    refine lv_aload_n hx hb dX12_take_71 rfl (lv_at hl 0 rfl) ?_
    refine lv_aload_n hx hb dX12_take_72 rfl (lv_at hl 0 rfl) ?_
    refine pg_i M V 12 14 (sm_this S) pC12 fk12_14 lkF_X12_205 dX12_take_73 ?_
    refine lv_topi (fun v3 ev3 => ?_)
    have tv3 : 0 ≤ v3.toInt ∧ v3.toInt ≤ 1 := by rw [ev3]; exact I.get (sm_this S) 14
    refine lv_if_ne (tgt := 84) hx hb dX12_take_76 (by decide) (fun c_76 => ?_) (fun c_76 => ?_)
    · skip
      have k_0 : (0 : Int32).toInt = 0 := rfl
      have c_76 := pi_ne c_76
      exact J_84 x68_4 _ _ _ _ V I (A.wk (by decide)) (lv_sub hl [0, 1, 2, 3, 4] rfl) (by omega) (by omega) 
    · skip
      have k_0 : (0 : Int32).toInt = 0 := rfl
      have c_76 := pi_eq.mp c_76
      refine lv_iload hx hb dX12_take_79 (lv_at hl 4 rfl) ?_
      refine lv_if_ne (tgt := 88) hx hb dX12_take_81 (by decide) (fun c_81 => ?_) (fun c_81 => ?_)
      · skip
        have c_81 := pi_ne c_81
        refine lv_iconst (v := 0) hx hb dX12_take_88 (by decide) ?_
        exact J_89 x68_4 (0 : Int32) _ _ _ _ V I (A.wk (by decide)) (lv_sub hl [0, 1, 2, 3, 4] rfl) (by omega) (by omega) (by omega) 
      · skip
        have c_81 := pi_eq.mp c_81
        exact J_84 x68_4 _ _ _ _ V I (A.wk (by decide)) (lv_sub hl [0, 1, 2, 3, 4] rfl) (by omega) (by omega) 
  have J_63 : ∀ (x63_4 : Int32) (hJ : pH) (H : Heap) (locs : List Loc) (ls : Array Slot), pV Z hJ s.heap H locs → Iv Z hJ → agr [(137, 9)] h hJ → lv_has ls 5 [(0, .ref (zB Z + 137)), (1, .int what), (2, .int a), (3, .int b), (4, .int x63_4)] → (1 ≤ what.toInt ∧ what.toInt ≤ 1) → (0 ≤ x63_4.toInt ∧ x63_4.toInt ≤ 1) → W p l e (pRm 0 0 0 0) s m ([.ref (zB Z + 137), .int what, .int a, .int b] : List Value).toArray below meth c H locs 0 0 (MQ below (pQv Z (fun Z1 h1 => Z = Z1 ∧ Iv Z h1 ∧ agr [(137, 3), (137, 4), (137, 9), (137, 13), (137, 14), (137, 7), (137, 8), (137, 15), (137, 16), (139, 1000), (140, 1000), (141, 1000), (142, 1000)] h h1)) ([.ref (zB Z + 137), .int what, .int a, .int b] : List Value).toArray s 0 0 (pA (zB Z))) (F0 m 63 ls [.ref (zB Z + 137)]) := by
    intro x63_4 hJ H locs ls V I A hl g_63_1 g_63_4
    refine lv_iconst (v := 1) hx hb dX12_take_63 (by decide) ?_
    refine lv_goto (tgt := 68) hx hb dX12_take_64 (by decide) ?_
    have k_1 : (1 : Int32).toInt = 1 := rfl
    exact J_68 x63_4 (1 : Int32) _ _ _ _ V I (A.wk (by decide)) (lv_sub hl [0, 1, 2, 3, 4] rfl) (by omega) (by omega) (by omega) 
  have J_32 : ∀ (y32_0 : Int32) (hJ : pH) (H : Heap) (locs : List Loc) (ls : Array Slot), pV Z hJ s.heap H locs → Iv Z hJ → agr [] h hJ → lv_has ls 5 [(0, .ref (zB Z + 137)), (1, .int what), (2, .int a), (3, .int b)] → (1 ≤ what.toInt ∧ what.toInt ≤ 1) → (0 ≤ y32_0.toInt ∧ y32_0.toInt ≤ 1) → W p l e (pRm 0 0 0 0) s m ([.ref (zB Z + 137), .int what, .int a, .int b] : List Value).toArray below meth c H locs 0 0 (MQ below (pQv Z (fun Z1 h1 => Z = Z1 ∧ Iv Z h1 ∧ agr [(137, 3), (137, 4), (137, 9), (137, 13), (137, 14), (137, 7), (137, 8), (137, 15), (137, 16), (139, 1000), (140, 1000), (141, 1000), (142, 1000)] h h1)) ([.ref (zB Z + 137), .int what, .int a, .int b] : List Value).toArray s 0 0 (pA (zB Z))) (F0 m 32 ls [.int y32_0]) := by
    intro y32_0 hJ H locs ls V I A hl g_32_1 gs_32_0
    refine lv_istore (lv' := [(4, .int y32_0), (0, .ref (zB Z + 137)), (1, .int what), (2, .int a), (3, .int b)]) hx hb dX12_take_32 hl (by decide) rfl (fun ls hl => ?_)
    refine lv_iload hx hb dX12_take_34 (lv_at hl 0 rfl) ?_
    refine lv_aload_n hx hb dX12_take_36 rfl (lv_at hl 1 rfl) ?_
    refine pg_i M V 12 9 (sm_this S) pC12 fk12_9 lkF_X12_198 dX12_take_37 ?_
    refine lv_topi (fun v4 ev4 => ?_)
    have tv4 : 0 ≤ v4.toInt ∧ v4.toInt ≤ 1 := by rw [ev4]; exact I.get (sm_this S) 9
    refine lv_icmp_ne (tgt := 44) hx hb dX12_take_40 (by decide) (fun c_40 => ?_) (fun c_40 => ?_)
    · skip
      have c_40 := pi_ne c_40
      refine lv_aload_n hx hb dX12_take_44 rfl (lv_at hl 1 rfl) ?_
      refine lv_iload hx hb dX12_take_45 (lv_at hl 0 rfl) ?_
      have z_47 : y32_0 = 0 ∨ y32_0 = 1 := pi_z (by omega)
      refine pp_i M V 12 9 (sm_this S) pC12 fk12_9 rfl lkF_X12_198 ⟨(pn_z z_47).1, (pn_z z_47).2.1⟩ dX12_take_47 (fun H locs V => ?_)
      have A := A.wk (l3 := [(137, 9)]) (by decide)
      have A := A.up (o := 137) (k := 9) (v := y32_0) (by decide)
      have I := I.up (k := 9) (v := y32_0) (sm_this S) (show (0 : Int) ≤ y32_0.toInt ∧ y32_0.toInt ≤ (1 : Int) by omega)
      refine lv_aload_n hx hb dX12_take_50 rfl (lv_at hl 1 rfl) ?_
      refine lv_aload_n hx hb dX12_take_51 rfl (lv_at hl 1 rfl) ?_
      refine pg_i M V 12 13 (sm_this S) pC12 fk12_13 lkF_X12_202 dX12_take_52 ?_
      refine lv_topi (fun v5 ev5 => ?_)
      have tv5 : 0 ≤ v5.toInt ∧ v5.toInt ≤ 1 := by rw [ev5]; exact I.get (sm_this S) 13
      refine lv_if_ne (tgt := 63) hx hb dX12_take_55 (by decide) (fun c_55 => ?_) (fun c_55 => ?_)
      · skip
        have k_0 : (0 : Int32).toInt = 0 := rfl
        have c_55 := pi_ne c_55
        exact J_63 y32_0 _ _ _ _ V I (A.wk (by decide)) (lv_sub hl [1, 2, 3, 4, 0] rfl) (by omega) (by omega) 
      · skip
        have k_0 : (0 : Int32).toInt = 0 := rfl
        have c_55 := pi_eq.mp c_55
        refine lv_iload hx hb dX12_take_58 (lv_at hl 0 rfl) ?_
        refine lv_if_eq (tgt := 67) hx hb dX12_take_60 (by decide) (fun c_60 => ?_) (fun c_60 => ?_)
        · skip
          have c_60 := pi_eq.mp c_60
          refine lv_iconst (v := 0) hx hb dX12_take_67 (by decide) ?_
          exact J_68 y32_0 (0 : Int32) _ _ _ _ V I (A.wk (by decide)) (lv_sub hl [1, 2, 3, 4, 0] rfl) (by omega) (by omega) (by omega) 
        · skip
          have c_60 := pi_ne c_60
          exact J_63 y32_0 _ _ _ _ V I (A.wk (by decide)) (lv_sub hl [1, 2, 3, 4, 0] rfl) (by omega) (by omega) 
    · skip
      have c_40 := pi_eq.mp c_40
      exact pe_v M V rfl rfl hr hlk ⟨rfl, I, A.wk (by decide)⟩ ⟨Nat.le_refl _, Nat.le_refl _⟩ dX12_take_43
  refine lv_iload_n hx hb dX12_take_0 rfl (lv_at hl 1 rfl) ?_
  refine lv_if_ne (tgt := 17) hx hb dX12_take_1 (by decide) (fun c_1 => ?_) (fun c_1 => ?_)
  · skip
    have k_0 : (0 : Int32).toInt = 0 := rfl
    have c_1 := pi_ne c_1
    refine lv_iload_n hx hb dX12_take_17 rfl (lv_at hl 1 rfl) ?_
    refine lv_iconst (v := 1) hx hb dX12_take_18 (by decide) ?_
    refine lv_icmp_ne (tgt := 116) hx hb dX12_take_19 (by decide) (fun c_19 => ?_) (fun c_19 => ?_)
    · skip
      have k_1 : (1 : Int32).toInt = 1 := rfl
      have c_19 := pi_ne c_19
      refine lv_iload_n hx hb dX12_take_116 rfl (lv_at hl 1 rfl) ?_
      refine lv_iconst (v := 2) hx hb dX12_take_117 (by decide) ?_
      refine lv_icmp_ne (tgt := 134) hx hb dX12_take_118 (by decide) (fun c_118 => ?_) (fun c_118 => ?_)
      · skip
        have k_2 : (2 : Int32).toInt = 2 := rfl
        have c_118 := pi_ne c_118
        refine lv_iload_n hx hb dX12_take_134 rfl (lv_at hl 1 rfl) ?_
        refine lv_iconst (v := 3) hx hb dX12_take_135 (by decide) ?_
        refine lv_icmp_ne (tgt := 196) hx hb dX12_take_136 (by decide) (fun c_136 => ?_) (fun c_136 => ?_)
        · skip
          have k_3 : (3 : Int32).toInt = 3 := rfl
          have c_136 := pi_ne c_136
          refine lv_aload_n hx hb dX12_take_196 rfl (lv_at hl 0 rfl) ?_
          refine pg_i M V 12 16 (sm_this S) pC12 fk12_16 lkF_X12_217 dX12_take_197 ?_
          refine lv_topi (fun v6 ev6 => ?_)
          have tv6 : 0 ≤ v6.toInt ∧ v6.toInt ≤ 16 := by rw [ev6]; exact I.get (sm_this S) 16
          refine lv_bipush (v := 16) hx hb dX12_take_200 (by decide) ?_
          refine lv_icmp_ge (tgt := 225) hx hb dX12_take_202 (by decide) (fun c_202 => ?_) (fun c_202 => ?_)
          · skip
            have k_16 : (16 : Int32).toInt = 16 := rfl
            have c_202 := pi_le.mp c_202
            exact J_225 _ _ _ _ V I (A.wk (by decide)) (lv_sub hl [0, 1, 2, 3] rfl) 
          · skip
            have k_16 : (16 : Int32).toInt = 16 := rfl
            have c_202 := pi_le' c_202
            refine lv_aload_n hx hb dX12_take_205 rfl (lv_at hl 0 rfl) ?_
            refine pg_r M V 12 17 (sm_this S) pC12 fk12_17 (sm_letter S).2.2 lkF_X12_23 dX12_take_206 ?_
            refine lv_aload_n hx hb dX12_take_209 rfl (lv_at hl 0 rfl) ?_
            refine pg_iv M V 12 16 (v := v6) (sm_this S) pC12 fk12_16 ev6.symm lkF_X12_217 dX12_take_210 ?_
            refine lv_iload_n hx hb dX12_take_213 rfl (lv_at hl 2 rfl) ?_
            refine ps_i M V (sm_letter S).1 (by rw [(sm_letter S).2.1]; exact pi_in (by omega)) dX12_take_214 (fun H locs V => ?_)
            have A := A.wk (l3 := [(142, 1000)]) (by decide)
            have A := A.upA (o := 142) (k := v6.toNatClampNeg) (v := a) (by decide)
            have I := I.up (k := v6.toNatClampNeg) (v := a) (sm_letter S).1 (pi_full _)
            refine lv_aload_n hx hb dX12_take_215 rfl (lv_at hl 0 rfl) ?_
            refine lv_dup hx hb dX12_take_216 rfl ?_
            refine pg_iv M V 12 16 (v := v6) (sm_this S) pC12 fk12_16 ev6.symm lkF_X12_217 dX12_take_217 ?_
            refine lv_iconst (v := 1) hx hb dX12_take_220 (by decide) ?_
            refine lv_iadd hx hb dX12_take_221 ?_
            refine lv_topi (fun v7 ev7 => ?_)
            refine pp_i M V 12 16 (sm_this S) pC12 fk12_16 rfl lkF_X12_217 ⟨rfl, rfl⟩ dX12_take_222 (fun H locs V => ?_)
            have A := A.wk (l3 := [(142, 1000), (137, 16)]) (by decide)
            have A := A.up (o := 137) (k := 16) (v := v7) (by decide)
            have tv7 : v7.toInt = v6.toInt + 1 := by rw [ev7]; have z9 := pi_add (x := v6) (y := (1 : Int32)); rw [k_1] at z9; exact z9 (by omega)
            have I := I.up (k := 16) (v := v7) (sm_this S) (show (0 : Int) ≤ v7.toInt ∧ v7.toInt ≤ (16 : Int) by omega)
            exact J_225 _ _ _ _ V I (A.wk (by decide)) (lv_sub hl [0, 1, 2, 3] rfl) 
        · skip
          have k_3 : (3 : Int32).toInt = 3 := rfl
          have c_136 := pi_eq.mp c_136
          refine lv_iload_n hx hb dX12_take_139 rfl (lv_at hl 3 rfl) ?_
          refine lv_iconst (v := 1) hx hb dX12_take_140 (by decide) ?_
          refine lv_icmp_ne (tgt := 148) hx hb dX12_take_141 (by decide) (fun c_141 => ?_) (fun c_141 => ?_)
          · skip
            have c_141 := pi_ne c_141
            refine lv_iconst (v := 0) hx hb dX12_take_148 (by decide) ?_
            refine lv_istore (lv' := [(4, .int (0 : Int32)), (0, .ref (zB Z + 137)), (1, .int what), (2, .int a), (3, .int b)]) hx hb dX12_take_149 hl (by decide) rfl (fun ls hl => ?_)
            refine lv_aload_n hx hb dX12_take_151 rfl (lv_at hl 1 rfl) ?_
            refine pg_r M V 12 10 (sm_this S) pC12 fk12_10 (sm_keys S).2.2 lkF_X12_13 dX12_take_152 ?_
            refine lv_iload_n hx hb dX12_take_155 rfl (lv_at hl 3 rfl) ?_
            refine pa_z M V (sm_keys S).1 (by rw [(sm_keys S).2.1]; exact pi_in (by omega)) dX12_take_156 ?_
            refine lv_topi (fun v8 ev8 => ?_)
            have tv8 : 0 ≤ v8.toInt ∧ v8.toInt ≤ 1 := by rw [ev8]; exact I.get (sm_keys S).1 _
            refine lv_iload hx hb dX12_take_157 (lv_at hl 0 rfl) ?_
            refine lv_icmp_ne (tgt := 163) hx hb dX12_take_159 (by decide) (fun c_159 => ?_) (fun c_159 => ?_)
            · skip
              have c_159 := pi_ne c_159
              refine lv_aload_n hx hb dX12_take_163 rfl (lv_at hl 1 rfl) ?_
              refine pg_r M V 12 10 (sm_this S) pC12 fk12_10 (sm_keys S).2.2 lkF_X12_13 dX12_take_164 ?_
              refine lv_iload_n hx hb dX12_take_167 rfl (lv_at hl 3 rfl) ?_
              refine lv_iload hx hb dX12_take_168 (lv_at hl 0 rfl) ?_
              refine ps_z M V (sm_keys S).1 (by rw [(sm_keys S).2.1]; exact pi_in (by omega)) (pi_z (by omega)) dX12_take_170 (fun H locs V => ?_)
              have A := A.wk (l3 := [(139, 1000)]) (by decide)
              have A := A.upA (o := 139) (k := a.toNatClampNeg) (v := (0 : Int32)) (by decide)
              have I := I.up (k := a.toNatClampNeg) (v := (0 : Int32)) (sm_keys S).1 (show (0 : Int) ≤ (0 : Int32).toInt ∧ (0 : Int32).toInt ≤ (1 : Int) by omega)
              refine lv_iload hx hb dX12_take_171 (lv_at hl 0 rfl) ?_
              refine lv_if_eq (tgt := 186) hx hb dX12_take_173 (by decide) (fun c_173 => ?_) (fun c_173 => ?_)
              · skip
                refine lv_aload_n hx hb dX12_take_186 rfl (lv_at hl 1 rfl) ?_
                refine pg_r M V 12 12 (sm_this S) pC12 fk12_12 (sm_upHere S).2.2 lkF_X12_20 dX12_take_187 ?_
                refine lv_iload_n hx hb dX12_take_190 rfl (lv_at hl 3 rfl) ?_
                refine lv_iconst (v := 1) hx hb dX12_take_191 (by decide) ?_
                refine ps_z M V (sm_upHere S).1 (by rw [(sm_upHere S).2.1]; exact pi_in (by omega)) (pi_z (by omega)) dX12_take_192 (fun H locs V => ?_)
                have A := A.wk (l3 := [(139, 1000), (141, 1000)]) (by decide)
                have A := A.upA (o := 141) (k := a.toNatClampNeg) (v := (1 : Int32)) (by decide)
                have I := I.up (k := a.toNatClampNeg) (v := (1 : Int32)) (sm_upHere S).1 (show (0 : Int) ≤ (1 : Int32).toInt ∧ (1 : Int32).toInt ≤ (1 : Int) by omega)
                exact J_193 (0 : Int32) _ _ _ _ V I (A.wk (by decide)) (lv_sub hl [1, 2, 3, 4, 0] rfl) (by omega) (by omega) 
              · exact (c_173 (by decide)).elim
            · skip
              have c_159 := pi_eq.mp c_159
              exact pe_v M V rfl rfl hr hlk ⟨rfl, I, A.wk (by decide)⟩ ⟨Nat.le_refl _, Nat.le_refl _⟩ dX12_take_162
          · skip
            have c_141 := pi_eq.mp c_141
            refine lv_iconst (v := 1) hx hb dX12_take_144 (by decide) ?_
            refine lv_goto (tgt := 149) hx hb dX12_take_145 (by decide) ?_
            refine lv_istore (lv' := [(4, .int (1 : Int32)), (0, .ref (zB Z + 137)), (1, .int what), (2, .int a), (3, .int b)]) hx hb dX12_take_149 hl (by decide) rfl (fun ls hl => ?_)
            refine lv_aload_n hx hb dX12_take_151 rfl (lv_at hl 1 rfl) ?_
            refine pg_r M V 12 10 (sm_this S) pC12 fk12_10 (sm_keys S).2.2 lkF_X12_13 dX12_take_152 ?_
            refine lv_iload_n hx hb dX12_take_155 rfl (lv_at hl 3 rfl) ?_
            refine pa_z M V (sm_keys S).1 (by rw [(sm_keys S).2.1]; exact pi_in (by omega)) dX12_take_156 ?_
            refine lv_topi (fun v9 ev9 => ?_)
            have tv9 : 0 ≤ v9.toInt ∧ v9.toInt ≤ 1 := by rw [ev9]; exact I.get (sm_keys S).1 _
            refine lv_iload hx hb dX12_take_157 (lv_at hl 0 rfl) ?_
            refine lv_icmp_ne (tgt := 163) hx hb dX12_take_159 (by decide) (fun c_159 => ?_) (fun c_159 => ?_)
            · skip
              have c_159 := pi_ne c_159
              refine lv_aload_n hx hb dX12_take_163 rfl (lv_at hl 1 rfl) ?_
              refine pg_r M V 12 10 (sm_this S) pC12 fk12_10 (sm_keys S).2.2 lkF_X12_13 dX12_take_164 ?_
              refine lv_iload_n hx hb dX12_take_167 rfl (lv_at hl 3 rfl) ?_
              refine lv_iload hx hb dX12_take_168 (lv_at hl 0 rfl) ?_
              refine ps_z M V (sm_keys S).1 (by rw [(sm_keys S).2.1]; exact pi_in (by omega)) (pi_z (by omega)) dX12_take_170 (fun H locs V => ?_)
              have A := A.wk (l3 := [(139, 1000)]) (by decide)
              have A := A.upA (o := 139) (k := a.toNatClampNeg) (v := (1 : Int32)) (by decide)
              have I := I.up (k := a.toNatClampNeg) (v := (1 : Int32)) (sm_keys S).1 (show (0 : Int) ≤ (1 : Int32).toInt ∧ (1 : Int32).toInt ≤ (1 : Int) by omega)
              refine lv_iload hx hb dX12_take_171 (lv_at hl 0 rfl) ?_
              refine lv_if_eq (tgt := 186) hx hb dX12_take_173 (by decide) (fun c_173 => ?_) (fun c_173 => ?_)
              · exact absurd c_173 (by decide)
              · skip
                refine lv_aload_n hx hb dX12_take_176 rfl (lv_at hl 1 rfl) ?_
                refine pg_r M V 12 11 (sm_this S) pC12 fk12_11 (sm_downHere S).2.2 lkF_X12_17 dX12_take_177 ?_
                refine lv_iload_n hx hb dX12_take_180 rfl (lv_at hl 3 rfl) ?_
                refine lv_iconst (v := 1) hx hb dX12_take_181 (by decide) ?_
                refine ps_z M V (sm_downHere S).1 (by rw [(sm_downHere S).2.1]; exact pi_in (by omega)) (pi_z (by omega)) dX12_take_182 (fun H locs V => ?_)
                have A := A.wk (l3 := [(139, 1000), (140, 1000)]) (by decide)
                have A := A.upA (o := 140) (k := a.toNatClampNeg) (v := (1 : Int32)) (by decide)
                have I := I.up (k := a.toNatClampNeg) (v := (1 : Int32)) (sm_downHere S).1 (show (0 : Int) ≤ (1 : Int32).toInt ∧ (1 : Int32).toInt ≤ (1 : Int) by omega)
                refine lv_goto (tgt := 193) hx hb dX12_take_183 (by decide) ?_
                exact J_193 (1 : Int32) _ _ _ _ V I (A.wk (by decide)) (lv_sub hl [1, 2, 3, 4, 0] rfl) (by omega) (by omega) 
            · skip
              have c_159 := pi_eq.mp c_159
              exact pe_v M V rfl rfl hr hlk ⟨rfl, I, A.wk (by decide)⟩ ⟨Nat.le_refl _, Nat.le_refl _⟩ dX12_take_162
      · skip
        have k_2 : (2 : Int32).toInt = 2 := rfl
        have c_118 := pi_eq.mp c_118
        refine lv_aload_n hx hb dX12_take_121 rfl (lv_at hl 0 rfl) ?_
        refine lv_dup hx hb dX12_take_122 rfl ?_
        refine pg_i M V 12 15 (sm_this S) pC12 fk12_15 lkF_X12_214 dX12_take_123 ?_
        refine lv_topi (fun v10 ev10 => ?_)
        refine lv_iload_n hx hb dX12_take_126 rfl (lv_at hl 2 rfl) ?_
        refine lv_iadd hx hb dX12_take_127 ?_
        refine lv_topi (fun v11 ev11 => ?_)
        refine pp_i M V 12 15 (sm_this S) pC12 fk12_15 rfl lkF_X12_214 ⟨rfl, rfl⟩ dX12_take_128 (fun H locs V => ?_)
        have A := A.wk (l3 := [(137, 15)]) (by decide)
        have A := A.up (o := 137) (k := 15) (v := v11) (by decide)
        have I := I.up (k := 15) (v := v11) (sm_this S) (pi_full _)
        refine lv_goto (tgt := 225) hx hb dX12_take_131 (by decide) ?_
        exact J_225 _ _ _ _ V I (A.wk (by decide)) (lv_sub hl [0, 1, 2, 3] rfl) 
    · skip
      have k_1 : (1 : Int32).toInt = 1 := rfl
      have c_19 := pi_eq.mp c_19
      refine lv_iload_n hx hb dX12_take_22 rfl (lv_at hl 2 rfl) ?_
      refine lv_iconst (v := 1) hx hb dX12_take_23 (by decide) ?_
      refine lv_icmp_ne (tgt := 31) hx hb dX12_take_24 (by decide) (fun c_24 => ?_) (fun c_24 => ?_)
      · skip
        have c_24 := pi_ne c_24
        refine lv_iconst (v := 0) hx hb dX12_take_31 (by decide) ?_
        exact J_32 (0 : Int32) _ _ _ _ V I (A.wk (by decide)) (lv_sub hl [0, 1, 2, 3] rfl) (by omega) (by omega) 
      · skip
        have c_24 := pi_eq.mp c_24
        refine lv_iconst (v := 1) hx hb dX12_take_27 (by decide) ?_
        refine lv_goto (tgt := 32) hx hb dX12_take_28 (by decide) ?_
        exact J_32 (1 : Int32) _ _ _ _ V I (A.wk (by decide)) (lv_sub hl [0, 1, 2, 3] rfl) (by omega) (by omega) 
  · skip
    have k_0 : (0 : Int32).toInt = 0 := rfl
    have c_1 := pi_eq.mp c_1
    refine lv_aload_n hx hb dX12_take_4 rfl (lv_at hl 0 rfl) ?_
    refine lv_iload_n hx hb dX12_take_5 rfl (lv_at hl 2 rfl) ?_
    refine pp_i M V 12 3 (sm_this S) pC12 fk12_3 rfl lkF_X12_192 ⟨rfl, rfl⟩ dX12_take_6 (fun H locs V => ?_)
    have A := A.wk (l3 := [(137, 3)]) (by decide)
    have A := A.up (o := 137) (k := 3) (v := a) (by decide)
    have I := I.up (k := 3) (v := a) (sm_this S) (pi_full _)
    refine lv_aload_n hx hb dX12_take_9 rfl (lv_at hl 0 rfl) ?_
    refine lv_iload_n hx hb dX12_take_10 rfl (lv_at hl 3 rfl) ?_
    refine pp_i M V 12 4 (sm_this S) pC12 fk12_4 rfl lkF_X12_195 ⟨rfl, rfl⟩ dX12_take_11 (fun H locs V => ?_)
    have A := A.wk (l3 := [(137, 3), (137, 4)]) (by decide)
    have A := A.up (o := 137) (k := 4) (v := b) (by decide)
    have I := I.up (k := 4) (v := b) (sm_this S) (pi_full _)
    refine lv_goto (tgt := 225) hx hb dX12_take_14 (by decide) ?_
    exact J_225 _ _ _ _ V I (A.wk (by decide)) (lv_sub hl [0, 1, 2, 3] rfl) 
theorem dX12_findWindow_0 : decode cX12_findWindow 0 = .ok (.aload_n 0, 1) := by decide +kernel
theorem dX12_findWindow_1 : decode cX12_findWindow 1 = .ok (.iconst (-1), 1) := by decide +kernel
theorem dX12_findWindow_2 : decode cX12_findWindow 2 = .ok (.putfield 26, 3) := by decide +kernel
theorem dX12_findWindow_5 : decode cX12_findWindow 5 = .ok (.aload_n 0, 1) := by decide +kernel
theorem dX12_findWindow_6 : decode cX12_findWindow 6 = .ok (.getfield 69, 3) := by decide +kernel
theorem dX12_findWindow_9 : decode cX12_findWindow 9 = .ok (.iconst (-1), 1) := by decide +kernel
theorem dX12_findWindow_10 : decode cX12_findWindow 10 = .ok (.if_icmp .eq 44, 3) := by decide +kernel
theorem dX12_findWindow_13 : decode cX12_findWindow 13 = .ok (.aload_n 0, 1) := by decide +kernel
theorem dX12_findWindow_14 : decode cX12_findWindow 14 = .ok (.getfield 63, 3) := by decide +kernel
theorem dX12_findWindow_17 : decode cX12_findWindow 17 = .ok (.bipush 8, 2) := by decide +kernel
theorem dX12_findWindow_19 : decode cX12_findWindow 19 = .ok (.baload, 1) := by decide +kernel
theorem dX12_findWindow_20 : decode cX12_findWindow 20 = .ok (.ifCond .eq 34, 3) := by decide +kernel
theorem dX12_findWindow_23 : decode cX12_findWindow 23 = .ok (.aload_n 0, 1) := by decide +kernel
theorem dX12_findWindow_24 : decode cX12_findWindow 24 = .ok (.bipush 8, 2) := by decide +kernel
theorem dX12_findWindow_26 : decode cX12_findWindow 26 = .ok (.invokevirtual 232, 3) := by decide +kernel
theorem dX12_findWindow_29 : decode cX12_findWindow 29 = .ok (.ifCond .eq 12, 3) := by decide +kernel
theorem dX12_findWindow_32 : decode cX12_findWindow 32 = .ok (.aload_n 0, 1) := by decide +kernel
theorem dX12_findWindow_33 : decode cX12_findWindow 33 = .ok (.bipush 8, 2) := by decide +kernel
theorem dX12_findWindow_35 : decode cX12_findWindow 35 = .ok (.putfield 26, 3) := by decide +kernel
theorem dX12_findWindow_38 : decode cX12_findWindow 38 = .ok (.goto 15, 3) := by decide +kernel
theorem dX12_findWindow_41 : decode cX12_findWindow 41 = .ok (.aload_n 0, 1) := by decide +kernel
theorem dX12_findWindow_42 : decode cX12_findWindow 42 = .ok (.getfield 202, 3) := by decide +kernel
theorem dX12_findWindow_45 : decode cX12_findWindow 45 = .ok (.ifCond .eq 8, 3) := by decide +kernel
theorem dX12_findWindow_48 : decode cX12_findWindow 48 = .ok (.aload_n 0, 1) := by decide +kernel
theorem dX12_findWindow_49 : decode cX12_findWindow 49 = .ok (.iconst (-1), 1) := by decide +kernel
theorem dX12_findWindow_50 : decode cX12_findWindow 50 = .ok (.putfield 69, 3) := by decide +kernel
theorem dX12_findWindow_53 : decode cX12_findWindow 53 = .ok (.return_, 1) := by decide +kernel
theorem dX12_findWindow_54 : decode cX12_findWindow 54 = .ok (.iconst 0, 1) := by decide +kernel
theorem dX12_findWindow_55 : decode cX12_findWindow 55 = .ok (.istore_n 1, 1) := by decide +kernel
theorem dX12_findWindow_56 : decode cX12_findWindow 56 = .ok (.iload_n 1, 1) := by decide +kernel
theorem dX12_findWindow_57 : decode cX12_findWindow 57 = .ok (.bipush 8, 2) := by decide +kernel
theorem dX12_findWindow_59 : decode cX12_findWindow 59 = .ok (.if_icmp .ge 57, 3) := by decide +kernel
theorem dX12_findWindow_62 : decode cX12_findWindow 62 = .ok (.aload_n 0, 1) := by decide +kernel
theorem dX12_findWindow_63 : decode cX12_findWindow 63 = .ok (.getfield 63, 3) := by decide +kernel
theorem dX12_findWindow_66 : decode cX12_findWindow 66 = .ok (.iload_n 1, 1) := by decide +kernel
theorem dX12_findWindow_67 : decode cX12_findWindow 67 = .ok (.baload, 1) := by decide +kernel
theorem dX12_findWindow_68 : decode cX12_findWindow 68 = .ok (.ifCond .eq 42, 3) := by decide +kernel
theorem dX12_findWindow_71 : decode cX12_findWindow 71 = .ok (.aload_n 0, 1) := by decide +kernel
theorem dX12_findWindow_72 : decode cX12_findWindow 72 = .ok (.iload_n 1, 1) := by decide +kernel
theorem dX12_findWindow_73 : decode cX12_findWindow 73 = .ok (.invokevirtual 232, 3) := by decide +kernel
theorem dX12_findWindow_76 : decode cX12_findWindow 76 = .ok (.ifCond .eq 34, 3) := by decide +kernel
theorem dX12_findWindow_79 : decode cX12_findWindow 79 = .ok (.aload_n 0, 1) := by decide +kernel
theorem dX12_findWindow_80 : decode cX12_findWindow 80 = .ok (.getfield 26, 3) := by decide +kernel
theorem dX12_findWindow_83 : decode cX12_findWindow 83 = .ok (.iconst (-1), 1) := by decide +kernel
theorem dX12_findWindow_84 : decode cX12_findWindow 84 = .ok (.if_icmp .eq 21, 3) := by decide +kernel
theorem dX12_findWindow_87 : decode cX12_findWindow 87 = .ok (.aload_n 0, 1) := by decide +kernel
theorem dX12_findWindow_88 : decode cX12_findWindow 88 = .ok (.getfield 54, 3) := by decide +kernel
theorem dX12_findWindow_91 : decode cX12_findWindow 91 = .ok (.iload_n 1, 1) := by decide +kernel
theorem dX12_findWindow_92 : decode cX12_findWindow 92 = .ok (.iaload, 1) := by decide +kernel
theorem dX12_findWindow_93 : decode cX12_findWindow 93 = .ok (.aload_n 0, 1) := by decide +kernel
theorem dX12_findWindow_94 : decode cX12_findWindow 94 = .ok (.getfield 54, 3) := by decide +kernel
theorem dX12_findWindow_97 : decode cX12_findWindow 97 = .ok (.aload_n 0, 1) := by decide +kernel
theorem dX12_findWindow_98 : decode cX12_findWindow 98 = .ok (.getfield 26, 3) := by decide +kernel
theorem dX12_findWindow_101 : decode cX12_findWindow 101 = .ok (.iaload, 1) := by decide +kernel
theorem dX12_findWindow_102 : decode cX12_findWindow 102 = .ok (.if_icmp .le 8, 3) := by decide +kernel
theorem dX12_findWindow_105 : decode cX12_findWindow 105 = .ok (.aload_n 0, 1) := by decide +kernel
theorem dX12_findWindow_106 : decode cX12_findWindow 106 = .ok (.iload_n 1, 1) := by decide +kernel
theorem dX12_findWindow_107 : decode cX12_findWindow 107 = .ok (.putfield 26, 3) := by decide +kernel
theorem dX12_findWindow_110 : decode cX12_findWindow 110 = .ok (.iinc 1 1, 3) := by decide +kernel
theorem dX12_findWindow_113 : decode cX12_findWindow 113 = .ok (.goto (-57), 3) := by decide +kernel
theorem dX12_findWindow_116 : decode cX12_findWindow 116 = .ok (.aload_n 0, 1) := by decide +kernel
theorem dX12_findWindow_117 : decode cX12_findWindow 117 = .ok (.getfield 26, 3) := by decide +kernel
theorem dX12_findWindow_120 : decode cX12_findWindow 120 = .ok (.iconst (-1), 1) := by decide +kernel
theorem dX12_findWindow_121 : decode cX12_findWindow 121 = .ok (.if_icmp .eq 10, 3) := by decide +kernel
theorem dX12_findWindow_124 : decode cX12_findWindow 124 = .ok (.aload_n 0, 1) := by decide +kernel
theorem dX12_findWindow_125 : decode cX12_findWindow 125 = .ok (.getfield 202, 3) := by decide +kernel
theorem dX12_findWindow_128 : decode cX12_findWindow 128 = .ok (.ifCond .ne 4, 3) := by decide +kernel
theorem dX12_findWindow_131 : decode cX12_findWindow 131 = .ok (.return_, 1) := by decide +kernel
theorem dX12_findWindow_132 : decode cX12_findWindow 132 = .ok (.iconst 0, 1) := by decide +kernel
theorem dX12_findWindow_133 : decode cX12_findWindow 133 = .ok (.istore_n 1, 1) := by decide +kernel
theorem dX12_findWindow_134 : decode cX12_findWindow 134 = .ok (.iload_n 1, 1) := by decide +kernel
theorem dX12_findWindow_135 : decode cX12_findWindow 135 = .ok (.bipush 8, 2) := by decide +kernel
theorem dX12_findWindow_137 : decode cX12_findWindow 137 = .ok (.if_icmp .ge 37, 3) := by decide +kernel
theorem dX12_findWindow_140 : decode cX12_findWindow 140 = .ok (.aload_n 0, 1) := by decide +kernel
theorem dX12_findWindow_141 : decode cX12_findWindow 141 = .ok (.getfield 54, 3) := by decide +kernel
theorem dX12_findWindow_144 : decode cX12_findWindow 144 = .ok (.iload_n 1, 1) := by decide +kernel
theorem dX12_findWindow_145 : decode cX12_findWindow 145 = .ok (.iaload, 1) := by decide +kernel
theorem dX12_findWindow_146 : decode cX12_findWindow 146 = .ok (.aload_n 0, 1) := by decide +kernel
theorem dX12_findWindow_147 : decode cX12_findWindow 147 = .ok (.getfield 54, 3) := by decide +kernel
theorem dX12_findWindow_150 : decode cX12_findWindow 150 = .ok (.aload_n 0, 1) := by decide +kernel
theorem dX12_findWindow_151 : decode cX12_findWindow 151 = .ok (.getfield 26, 3) := by decide +kernel
theorem dX12_findWindow_154 : decode cX12_findWindow 154 = .ok (.iaload, 1) := by decide +kernel
theorem dX12_findWindow_155 : decode cX12_findWindow 155 = .ok (.if_icmp .le 13, 3) := by decide +kernel
theorem dX12_findWindow_158 : decode cX12_findWindow 158 = .ok (.aload_n 0, 1) := by decide +kernel
theorem dX12_findWindow_159 : decode cX12_findWindow 159 = .ok (.getfield 54, 3) := by decide +kernel
theorem dX12_findWindow_162 : decode cX12_findWindow 162 = .ok (.iload_n 1, 1) := by decide +kernel
theorem dX12_findWindow_163 : decode cX12_findWindow 163 = .ok (.dup2, 1) := by decide +kernel
theorem dX12_findWindow_164 : decode cX12_findWindow 164 = .ok (.iaload, 1) := by decide +kernel
theorem dX12_findWindow_165 : decode cX12_findWindow 165 = .ok (.iconst 1, 1) := by decide +kernel
theorem dX12_findWindow_166 : decode cX12_findWindow 166 = .ok (.isub, 1) := by decide +kernel
theorem dX12_findWindow_167 : decode cX12_findWindow 167 = .ok (.iastore, 1) := by decide +kernel
theorem dX12_findWindow_168 : decode cX12_findWindow 168 = .ok (.iinc 1 1, 3) := by decide +kernel
theorem dX12_findWindow_171 : decode cX12_findWindow 171 = .ok (.goto (-37), 3) := by decide +kernel
theorem dX12_findWindow_174 : decode cX12_findWindow 174 = .ok (.aload_n 0, 1) := by decide +kernel
theorem dX12_findWindow_175 : decode cX12_findWindow 175 = .ok (.getfield 54, 3) := by decide +kernel
theorem dX12_findWindow_178 : decode cX12_findWindow 178 = .ok (.aload_n 0, 1) := by decide +kernel
theorem dX12_findWindow_179 : decode cX12_findWindow 179 = .ok (.getfield 26, 3) := by decide +kernel
theorem dX12_findWindow_182 : decode cX12_findWindow 182 = .ok (.bipush 7, 2) := by decide +kernel
theorem dX12_findWindow_184 : decode cX12_findWindow 184 = .ok (.iastore, 1) := by decide +kernel
theorem dX12_findWindow_185 : decode cX12_findWindow 185 = .ok (.return_, 1) := by decide +kernel
set_option maxHeartbeats 4000000 in
set_option maxRecDepth 100000 in
theorem m_X12_findWindow (l : Launch) {Z : pZ} (S : pSh Z) {h : pH} (I : Iv Z h)  : pMet l yX12_findWindow cX12_findWindow 2 none 2 0 0 47 Z h [.ref (zB Z + 137)] (pQv Z (fun Z1 h1 => Z = Z1 ∧ Iv Z h1 ∧ agr [(137, 23), (137, 40), (151, 1000)] h h1)) := by
  refine pOfW (lv := [(0, .ref (zB Z + 137))]) (by decide) (Nat.le_of_ble_eq_true rfl) rfl ?_
  intro p e s m below meth c ls M hr hlk hnm V hl
  have hx := M.1.1
  have hb := M.1.2.1
  have A : agr [] h h := agr.rf
  have i_23 : -1 ≤ (h 137 23).toInt ∧ (h 137 23).toInt ≤ 8 := I.get (sm_this S) 23
  have J_134 : ∀ (n9 : Nat) (x134_1 : Int32) (hJ : pH) (H : Heap) (locs : List Loc) (ls : Array Slot), pV Z hJ s.heap H locs → Iv Z hJ → agr [(137, 23), (151, 1000)] h hJ → lv_has ls 2 [(0, .ref (zB Z + 137)), (1, .int x134_1)] → (0 ≤ x134_1.toInt ∧ x134_1.toInt ≤ 8) → (0 ≤ (hJ 137 23).toInt ∧ (hJ 137 23).toInt ≤ 8) → (8 - x134_1.toInt).toNat < n9 → W p l e (pRm 2 0 0 47) s m ([.ref (zB Z + 137)] : List Value).toArray below meth c H locs 0 0 (MQ below (pQv Z (fun Z1 h1 => Z = Z1 ∧ Iv Z h1 ∧ agr [(137, 23), (137, 40), (151, 1000)] h h1)) ([.ref (zB Z + 137)] : List Value).toArray s 0 0 (pA (zB Z))) (F0 m 134 ls []) := by
    intro n9
    induction n9 with
    | zero => intro x134_1 hJ H locs ls V I A hl g_134_1 gd_134_23 hm9; exact absurd hm9 (Nat.not_lt_zero _)
    | succ n9 ih_134 =>
      intro x134_1 hJ H locs ls V I A hl g_134_1 gd_134_23 hm9
      have J_168 : ∀ (hJ : pH) (H : Heap) (locs : List Loc) (ls : Array Slot), pV Z hJ s.heap H locs → Iv Z hJ → agr [(137, 23), (151, 1000)] h hJ → lv_has ls 2 [(0, .ref (zB Z + 137)), (1, .int x134_1)] → (0 ≤ x134_1.toInt ∧ x134_1.toInt ≤ 7) → (0 ≤ (hJ 137 23).toInt ∧ (hJ 137 23).toInt ≤ 8) → W p l e (pRm 2 0 0 47) s m ([.ref (zB Z + 137)] : List Value).toArray below meth c H locs 0 0 (MQ below (pQv Z (fun Z1 h1 => Z = Z1 ∧ Iv Z h1 ∧ agr [(137, 23), (137, 40), (151, 1000)] h h1)) ([.ref (zB Z + 137)] : List Value).toArray s 0 0 (pA (zB Z))) (F0 m 168 ls []) := by
        intro hJ H locs ls V I A hl g_168_1 gd_168_23
        obtain ⟨v1, ev1⟩ : ∃ y : Int32, y = x134_1 + 1 := ⟨_, rfl⟩
        refine lv_iinc (v := v1) (lv' := [(1, .int v1), (0, .ref (zB Z + 137))]) hx hb dX12_findWindow_168 hl (k := 1) rfl (by rw [ev1]; rfl) (by decide) rfl (fun ls hl => ?_)
        refine lv_goto (tgt := 134) hx hb dX12_findWindow_171 (by decide) ?_
        have k_1 : (1 : Int32).toInt = 1 := rfl
        have tv1 : v1.toInt = x134_1.toInt + 1 := by rw [ev1]; have z9 := pi_add (x := x134_1) (y := (1 : Int32)); rw [k_1] at z9; exact z9 (by omega)
        exact ih_134 v1 _ _ _ _ V I (A.wk (by decide)) (lv_sub hl [1, 0] rfl) (by omega) (show 0 ≤ (hJ 137 23).toInt ∧ (hJ 137 23).toInt ≤ 8 by omega) (by omega) 
      refine lv_iload_n hx hb dX12_findWindow_134 rfl (lv_at hl 1 rfl) ?_
      refine lv_bipush (v := 8) hx hb dX12_findWindow_135 (by decide) ?_
      refine lv_icmp_ge (tgt := 174) hx hb dX12_findWindow_137 (by decide) (fun c_137 => ?_) (fun c_137 => ?_)
      · skip
        have k_8 : (8 : Int32).toInt = 8 := rfl
        have c_137 := pi_le.mp c_137
        refine lv_aload_n hx hb dX12_findWindow_174 rfl (lv_at hl 0 rfl) ?_
        refine pg_r M V 12 35 (sm_this S) pC12 fk12_35 (sm_rank S).2.2 lkF_X12_54 dX12_findWindow_175 ?_
        refine lv_aload_n hx hb dX12_findWindow_178 rfl (lv_at hl 0 rfl) ?_
        refine pg_i M V 12 23 (sm_this S) pC12 fk12_23 lkF_X12_26 dX12_findWindow_179 ?_
        refine lv_topi (fun v2 ev2 => ?_)
        have tv2 : -1 ≤ v2.toInt ∧ v2.toInt ≤ 8 := by rw [ev2]; exact I.get (sm_this S) 23
        have uv2 : v2.toInt = (hJ 137 23).toInt := congrArg Int32.toInt ev2
        refine lv_bipush (v := 7) hx hb dX12_findWindow_182 (by decide) ?_
        refine ps_i M V (sm_rank S).1 (by rw [(sm_rank S).2.1]; exact pi_in (by omega)) dX12_findWindow_184 (fun H locs V => ?_)
        have A := A.upA (o := 151) (k := v2.toNatClampNeg) (v := (7 : Int32)) (by decide)
        have I := I.up (k := v2.toNatClampNeg) (v := (7 : Int32)) (sm_rank S).1 (pi_full _)
        exact pe_v M V rfl rfl hr hlk ⟨rfl, I, A.wk (by decide)⟩ ⟨Nat.le_refl _, Nat.le_refl _⟩ dX12_findWindow_185
      · skip
        have k_8 : (8 : Int32).toInt = 8 := rfl
        have c_137 := pi_le' c_137
        refine lv_aload_n hx hb dX12_findWindow_140 rfl (lv_at hl 0 rfl) ?_
        refine pg_r M V 12 35 (sm_this S) pC12 fk12_35 (sm_rank S).2.2 lkF_X12_54 dX12_findWindow_141 ?_
        refine lv_iload_n hx hb dX12_findWindow_144 rfl (lv_at hl 1 rfl) ?_
        refine pa_i M V (sm_rank S).1 (by rw [(sm_rank S).2.1]; exact pi_in (by omega)) dX12_findWindow_145 ?_
        refine lv_topi (fun v3 ev3 => ?_)
        refine lv_aload_n hx hb dX12_findWindow_146 rfl (lv_at hl 0 rfl) ?_
        refine pg_r M V 12 35 (sm_this S) pC12 fk12_35 (sm_rank S).2.2 lkF_X12_54 dX12_findWindow_147 ?_
        refine lv_aload_n hx hb dX12_findWindow_150 rfl (lv_at hl 0 rfl) ?_
        refine pg_i M V 12 23 (sm_this S) pC12 fk12_23 lkF_X12_26 dX12_findWindow_151 ?_
        refine lv_topi (fun v4 ev4 => ?_)
        have tv4 : -1 ≤ v4.toInt ∧ v4.toInt ≤ 8 := by rw [ev4]; exact I.get (sm_this S) 23
        have uv4 : v4.toInt = (hJ 137 23).toInt := congrArg Int32.toInt ev4
        refine pa_i M V (sm_rank S).1 (by rw [(sm_rank S).2.1]; exact pi_in (by omega)) dX12_findWindow_154 ?_
        refine lv_topi (fun v5 ev5 => ?_)
        refine lv_icmp_le (tgt := 168) hx hb dX12_findWindow_155 (by decide) (fun c_155 => ?_) (fun c_155 => ?_)
        · skip
          have c_155 := pi_le.mp c_155
          exact J_168 _ _ _ _ V I (A.wk (by decide)) (lv_sub hl [0, 1] rfl) (by omega) (show 0 ≤ (hJ 137 23).toInt ∧ (hJ 137 23).toInt ≤ 8 by omega) 
        · skip
          have c_155 := pi_le' c_155
          refine lv_aload_n hx hb dX12_findWindow_158 rfl (lv_at hl 0 rfl) ?_
          refine pg_r M V 12 35 (sm_this S) pC12 fk12_35 (sm_rank S).2.2 lkF_X12_54 dX12_findWindow_159 ?_
          refine lv_iload_n hx hb dX12_findWindow_162 rfl (lv_at hl 1 rfl) ?_
          refine lv_dup2_11 hx hb dX12_findWindow_163 rfl rfl ?_
          refine pa_iv M V (v := v3) (sm_rank S).1 (by rw [(sm_rank S).2.1]; exact pi_in (by omega)) ev3.symm dX12_findWindow_164 ?_
          refine lv_iconst (v := 1) hx hb dX12_findWindow_165 (by decide) ?_
          refine lv_isub hx hb dX12_findWindow_166 ?_
          refine lv_topi (fun v6 ev6 => ?_)
          refine ps_i M V (sm_rank S).1 (by rw [(sm_rank S).2.1]; exact pi_in (by omega)) dX12_findWindow_167 (fun H locs V => ?_)
          have A := A.upA (o := 151) (k := x134_1.toNatClampNeg) (v := v6) (by decide)
          have I := I.up (k := x134_1.toNatClampNeg) (v := v6) (sm_rank S).1 (pi_full _)
          exact J_168 _ _ _ _ V I (A.wk (by decide)) (lv_sub hl [0, 1] rfl) (by omega) (show 0 ≤ (hJ 137 23).toInt ∧ (hJ 137 23).toInt ≤ 8 by omega) 
  have J_131 : ∀ (x131_1 : Int32) (hJ : pH) (H : Heap) (locs : List Loc) (ls : Array Slot), pV Z hJ s.heap H locs → Iv Z hJ → agr [(137, 23)] h hJ → lv_has ls 2 [(0, .ref (zB Z + 137)), (1, .int x131_1)] → (8 ≤ x131_1.toInt ∧ x131_1.toInt ≤ 8) → (-1 ≤ (hJ 137 23).toInt ∧ (hJ 137 23).toInt ≤ 8) → W p l e (pRm 2 0 0 47) s m ([.ref (zB Z + 137)] : List Value).toArray below meth c H locs 0 0 (MQ below (pQv Z (fun Z1 h1 => Z = Z1 ∧ Iv Z h1 ∧ agr [(137, 23), (137, 40), (151, 1000)] h h1)) ([.ref (zB Z + 137)] : List Value).toArray s 0 0 (pA (zB Z))) (F0 m 131 ls []) := by
    intro x131_1 hJ H locs ls V I A hl g_131_1 gd_131_23
    exact pe_v M V rfl rfl hr hlk ⟨rfl, I, A.wk (by decide)⟩ ⟨Nat.le_refl _, Nat.le_refl _⟩ dX12_findWindow_131
  have J_56 : ∀ (n9 : Nat) (x56_1 : Int32) (hJ : pH) (H : Heap) (locs : List Loc) (ls : Array Slot), pV Z hJ s.heap H locs → Iv Z hJ → agr [(137, 23)] h hJ → lv_has ls 2 [(0, .ref (zB Z + 137)), (1, .int x56_1)] → (0 ≤ x56_1.toInt ∧ x56_1.toInt ≤ 8) → (-1 ≤ (hJ 137 23).toInt ∧ (hJ 137 23).toInt ≤ 8) → (8 - x56_1.toInt).toNat < n9 → W p l e (pRm 2 0 0 47) s m ([.ref (zB Z + 137)] : List Value).toArray below meth c H locs 0 0 (MQ below (pQv Z (fun Z1 h1 => Z = Z1 ∧ Iv Z h1 ∧ agr [(137, 23), (137, 40), (151, 1000)] h h1)) ([.ref (zB Z + 137)] : List Value).toArray s 0 0 (pA (zB Z))) (F0 m 56 ls []) := by
    intro n9
    induction n9 with
    | zero => intro x56_1 hJ H locs ls V I A hl g_56_1 gd_56_23 hm9; exact absurd hm9 (Nat.not_lt_zero _)
    | succ n9 ih_56 =>
      intro x56_1 hJ H locs ls V I A hl g_56_1 gd_56_23 hm9
      have J_110 : ∀ (hJ : pH) (H : Heap) (locs : List Loc) (ls : Array Slot), pV Z hJ s.heap H locs → Iv Z hJ → agr [(137, 23)] h hJ → lv_has ls 2 [(0, .ref (zB Z + 137)), (1, .int x56_1)] → (0 ≤ x56_1.toInt ∧ x56_1.toInt ≤ 7) → (-1 ≤ (hJ 137 23).toInt ∧ (hJ 137 23).toInt ≤ 8) → W p l e (pRm 2 0 0 47) s m ([.ref (zB Z + 137)] : List Value).toArray below meth c H locs 0 0 (MQ below (pQv Z (fun Z1 h1 => Z = Z1 ∧ Iv Z h1 ∧ agr [(137, 23), (137, 40), (151, 1000)] h h1)) ([.ref (zB Z + 137)] : List Value).toArray s 0 0 (pA (zB Z))) (F0 m 110 ls []) := by
        intro hJ H locs ls V I A hl g_110_1 gd_110_23
        obtain ⟨v7, ev7⟩ : ∃ y : Int32, y = x56_1 + 1 := ⟨_, rfl⟩
        refine lv_iinc (v := v7) (lv' := [(1, .int v7), (0, .ref (zB Z + 137))]) hx hb dX12_findWindow_110 hl (k := 1) rfl (by rw [ev7]; rfl) (by decide) rfl (fun ls hl => ?_)
        refine lv_goto (tgt := 56) hx hb dX12_findWindow_113 (by decide) ?_
        have k_1 : (1 : Int32).toInt = 1 := rfl
        have tv7 : v7.toInt = x56_1.toInt + 1 := by rw [ev7]; have z9 := pi_add (x := x56_1) (y := (1 : Int32)); rw [k_1] at z9; exact z9 (by omega)
        exact ih_56 v7 _ _ _ _ V I (A.wk (by decide)) (lv_sub hl [1, 0] rfl) (by omega) (show -1 ≤ (hJ 137 23).toInt ∧ (hJ 137 23).toInt ≤ 8 by omega) (by omega) 
      have J_105 : ∀ (hJ : pH) (H : Heap) (locs : List Loc) (ls : Array Slot), pV Z hJ s.heap H locs → Iv Z hJ → agr [(137, 23)] h hJ → lv_has ls 2 [(0, .ref (zB Z + 137)), (1, .int x56_1)] → (0 ≤ x56_1.toInt ∧ x56_1.toInt ≤ 7) → (-1 ≤ (hJ 137 23).toInt ∧ (hJ 137 23).toInt ≤ 8) → W p l e (pRm 2 0 0 47) s m ([.ref (zB Z + 137)] : List Value).toArray below meth c H locs 0 0 (MQ below (pQv Z (fun Z1 h1 => Z = Z1 ∧ Iv Z h1 ∧ agr [(137, 23), (137, 40), (151, 1000)] h h1)) ([.ref (zB Z + 137)] : List Value).toArray s 0 0 (pA (zB Z))) (F0 m 105 ls []) := by
        intro hJ H locs ls V I A hl g_105_1 gd_105_23
        refine lv_aload_n hx hb dX12_findWindow_105 rfl (lv_at hl 0 rfl) ?_
        refine lv_iload_n hx hb dX12_findWindow_106 rfl (lv_at hl 1 rfl) ?_
        refine pp_i M V 12 23 (sm_this S) pC12 fk12_23 rfl lkF_X12_26 ⟨rfl, rfl⟩ dX12_findWindow_107 (fun H locs V => ?_)
        have A := A.up (o := 137) (k := 23) (v := x56_1) (by decide)
        have I := I.up (k := 23) (v := x56_1) (sm_this S) (show (-1 : Int) ≤ x56_1.toInt ∧ x56_1.toInt ≤ (8 : Int) by omega)
        exact J_110 _ _ _ _ V I (A.wk (by decide)) (lv_sub hl [0, 1] rfl) (by omega) (show -1 ≤ x56_1.toInt ∧ x56_1.toInt ≤ 8 by omega) 
      refine lv_iload_n hx hb dX12_findWindow_56 rfl (lv_at hl 1 rfl) ?_
      refine lv_bipush (v := 8) hx hb dX12_findWindow_57 (by decide) ?_
      refine lv_icmp_ge (tgt := 116) hx hb dX12_findWindow_59 (by decide) (fun c_59 => ?_) (fun c_59 => ?_)
      · skip
        have k_8 : (8 : Int32).toInt = 8 := rfl
        have c_59 := pi_le.mp c_59
        refine lv_aload_n hx hb dX12_findWindow_116 rfl (lv_at hl 0 rfl) ?_
        refine pg_i M V 12 23 (sm_this S) pC12 fk12_23 lkF_X12_26 dX12_findWindow_117 ?_
        refine lv_topi (fun v8 ev8 => ?_)
        have tv8 : -1 ≤ v8.toInt ∧ v8.toInt ≤ 8 := by rw [ev8]; exact I.get (sm_this S) 23
        have uv8 : v8.toInt = (hJ 137 23).toInt := congrArg Int32.toInt ev8
        refine lv_iconst (v := (-1)) hx hb dX12_findWindow_120 (by decide) ?_
        refine lv_icmp_eq (tgt := 131) hx hb dX12_findWindow_121 (by decide) (fun c_121 => ?_) (fun c_121 => ?_)
        · skip
          have k_m1 : (-1 : Int32).toInt = -1 := rfl
          have c_121 := pi_eq.mp c_121
          exact J_131 x56_1 _ _ _ _ V I (A.wk (by decide)) (lv_sub hl [0, 1] rfl) (by omega) (show -1 ≤ (hJ 137 23).toInt ∧ (hJ 137 23).toInt ≤ 8 by omega) 
        · skip
          have k_m1 : (-1 : Int32).toInt = -1 := rfl
          have c_121 := pi_ne c_121
          refine lv_aload_n hx hb dX12_findWindow_124 rfl (lv_at hl 0 rfl) ?_
          refine pg_i M V 12 13 (sm_this S) pC12 fk12_13 lkF_X12_202 dX12_findWindow_125 ?_
          refine lv_topi (fun v9 ev9 => ?_)
          have tv9 : 0 ≤ v9.toInt ∧ v9.toInt ≤ 1 := by rw [ev9]; exact I.get (sm_this S) 13
          refine lv_if_ne (tgt := 132) hx hb dX12_findWindow_128 (by decide) (fun c_128 => ?_) (fun c_128 => ?_)
          · skip
            have k_0 : (0 : Int32).toInt = 0 := rfl
            have c_128 := pi_ne c_128
            refine lv_iconst (v := 0) hx hb dX12_findWindow_132 (by decide) ?_
            refine lv_istore_n (lv' := [(1, .int (0 : Int32)), (0, .ref (zB Z + 137))]) hx hb dX12_findWindow_133 rfl hl (by decide) rfl (fun ls hl => ?_)
            exact J_134 _ (0 : Int32) _ _ _ _ V I (A.wk (by decide)) (lv_sub hl [1, 0] rfl) (by omega) (show 0 ≤ (hJ 137 23).toInt ∧ (hJ 137 23).toInt ≤ 8 by omega) (Nat.lt_succ_self _) 
          · skip
            have k_0 : (0 : Int32).toInt = 0 := rfl
            have c_128 := pi_eq.mp c_128
            exact J_131 x56_1 _ _ _ _ V I (A.wk (by decide)) (lv_sub hl [0, 1] rfl) (by omega) (show -1 ≤ (hJ 137 23).toInt ∧ (hJ 137 23).toInt ≤ 8 by omega) 
      · skip
        have k_8 : (8 : Int32).toInt = 8 := rfl
        have c_59 := pi_le' c_59
        refine lv_aload_n hx hb dX12_findWindow_62 rfl (lv_at hl 0 rfl) ?_
        refine pg_r M V 12 38 (sm_this S) pC12 fk12_38 (sm_before S).2.2 lkF_X12_63 dX12_findWindow_63 ?_
        refine lv_iload_n hx hb dX12_findWindow_66 rfl (lv_at hl 1 rfl) ?_
        refine pa_z M V (sm_before S).1 (by rw [(sm_before S).2.1]; exact pi_in (by omega)) dX12_findWindow_67 ?_
        refine lv_topi (fun v10 ev10 => ?_)
        have tv10 : 0 ≤ v10.toInt ∧ v10.toInt ≤ 1 := by rw [ev10]; exact I.get (sm_before S).1 _
        refine lv_if_eq (tgt := 110) hx hb dX12_findWindow_68 (by decide) (fun c_68 => ?_) (fun c_68 => ?_)
        · skip
          have k_0 : (0 : Int32).toInt = 0 := rfl
          have c_68 := pi_eq.mp c_68
          exact J_110 _ _ _ _ V I (A.wk (by decide)) (lv_sub hl [0, 1] rfl) (by omega) (show -1 ≤ (hJ 137 23).toInt ∧ (hJ 137 23).toInt ≤ 8 by omega) 
        · skip
          have k_0 : (0 : Int32).toInt = 0 := rfl
          have c_68 := pi_ne c_68
          refine lv_aload_n hx hb dX12_findWindow_71 rfl (lv_at hl 0 rfl) ?_
          refine lv_iload_n hx hb dX12_findWindow_72 rfl (lv_at hl 1 rfl) ?_
          refine pk_i (pr_V M V (m_X12_hasMouse l S I x56_1 (by omega)) km_X12_hasMouse (sm_this S) pC12 lkM_X12_232 rfl hl.1 rfl (Nat.le_of_ble_eq_true rfl) ⟨Nat.le_of_ble_eq_true rfl, Nat.le_of_ble_eq_true rfl⟩ ⟨Nat.le_of_ble_eq_true rfl, Nat.le_of_ble_eq_true rfl⟩ dX12_findWindow_73) V (fun r11 Zr11 hr11 H locs pr11 _ _ V => ?_)
          obtain ⟨rfl, rfl, fr11_0⟩ := pr11
          refine lv_if_eq (tgt := 110) hx hb dX12_findWindow_76 (by decide) (fun c_76 => ?_) (fun c_76 => ?_)
          · skip
            have c_76 := pi_eq.mp c_76
            exact J_110 _ _ _ _ V I (A.wk (by decide)) (lv_sub hl [0, 1] rfl) (by omega) (show -1 ≤ (hJ 137 23).toInt ∧ (hJ 137 23).toInt ≤ 8 by omega) 
          · skip
            have c_76 := pi_ne c_76
            refine lv_aload_n hx hb dX12_findWindow_79 rfl (lv_at hl 0 rfl) ?_
            refine pg_i M V 12 23 (sm_this S) pC12 fk12_23 lkF_X12_26 dX12_findWindow_80 ?_
            refine lv_topi (fun v12 ev12 => ?_)
            have tv12 : -1 ≤ v12.toInt ∧ v12.toInt ≤ 8 := by rw [ev12]; exact I.get (sm_this S) 23
            have uv12 : v12.toInt = (hJ 137 23).toInt := congrArg Int32.toInt ev12
            refine lv_iconst (v := (-1)) hx hb dX12_findWindow_83 (by decide) ?_
            refine lv_icmp_eq (tgt := 105) hx hb dX12_findWindow_84 (by decide) (fun c_84 => ?_) (fun c_84 => ?_)
            · skip
              have k_m1 : (-1 : Int32).toInt = -1 := rfl
              have c_84 := pi_eq.mp c_84
              exact J_105 _ _ _ _ V I (A.wk (by decide)) (lv_sub hl [0, 1] rfl) (by omega) (show -1 ≤ (hJ 137 23).toInt ∧ (hJ 137 23).toInt ≤ 8 by omega) 
            · skip
              have k_m1 : (-1 : Int32).toInt = -1 := rfl
              have c_84 := pi_ne c_84
              refine lv_aload_n hx hb dX12_findWindow_87 rfl (lv_at hl 0 rfl) ?_
              refine pg_r M V 12 35 (sm_this S) pC12 fk12_35 (sm_rank S).2.2 lkF_X12_54 dX12_findWindow_88 ?_
              refine lv_iload_n hx hb dX12_findWindow_91 rfl (lv_at hl 1 rfl) ?_
              refine pa_i M V (sm_rank S).1 (by rw [(sm_rank S).2.1]; exact pi_in (by omega)) dX12_findWindow_92 ?_
              refine lv_topi (fun v13 ev13 => ?_)
              refine lv_aload_n hx hb dX12_findWindow_93 rfl (lv_at hl 0 rfl) ?_
              refine pg_r M V 12 35 (sm_this S) pC12 fk12_35 (sm_rank S).2.2 lkF_X12_54 dX12_findWindow_94 ?_
              refine lv_aload_n hx hb dX12_findWindow_97 rfl (lv_at hl 0 rfl) ?_
              refine pg_iv M V 12 23 (v := v12) (sm_this S) pC12 fk12_23 ev12.symm lkF_X12_26 dX12_findWindow_98 ?_
              refine pa_i M V (sm_rank S).1 (by rw [(sm_rank S).2.1]; exact pi_in (by omega)) dX12_findWindow_101 ?_
              refine lv_topi (fun v14 ev14 => ?_)
              refine lv_icmp_le (tgt := 110) hx hb dX12_findWindow_102 (by decide) (fun c_102 => ?_) (fun c_102 => ?_)
              · skip
                have c_102 := pi_le.mp c_102
                exact J_110 _ _ _ _ V I (A.wk (by decide)) (lv_sub hl [0, 1] rfl) (by omega) (show -1 ≤ (hJ 137 23).toInt ∧ (hJ 137 23).toInt ≤ 8 by omega) 
              · skip
                have c_102 := pi_le' c_102
                exact J_105 _ _ _ _ V I (A.wk (by decide)) (lv_sub hl [0, 1] rfl) (by omega) (show -1 ≤ (hJ 137 23).toInt ∧ (hJ 137 23).toInt ≤ 8 by omega) 
  have J_54 : ∀ (hJ : pH) (H : Heap) (locs : List Loc) (ls : Array Slot), pV Z hJ s.heap H locs → Iv Z hJ → agr [(137, 23)] h hJ → lv_has ls 2 [(0, .ref (zB Z + 137))] → (-1 ≤ (hJ 137 23).toInt ∧ (hJ 137 23).toInt ≤ -1) → W p l e (pRm 2 0 0 47) s m ([.ref (zB Z + 137)] : List Value).toArray below meth c H locs 0 0 (MQ below (pQv Z (fun Z1 h1 => Z = Z1 ∧ Iv Z h1 ∧ agr [(137, 23), (137, 40), (151, 1000)] h h1)) ([.ref (zB Z + 137)] : List Value).toArray s 0 0 (pA (zB Z))) (F0 m 54 ls []) := by
    intro hJ H locs ls V I A hl gd_54_23
    refine lv_iconst (v := 0) hx hb dX12_findWindow_54 (by decide) ?_
    refine lv_istore_n (lv' := [(1, .int (0 : Int32)), (0, .ref (zB Z + 137))]) hx hb dX12_findWindow_55 rfl hl (by decide) rfl (fun ls hl => ?_)
    have k_0 : (0 : Int32).toInt = 0 := rfl
    exact J_56 _ (0 : Int32) _ _ _ _ V I (A.wk (by decide)) (lv_sub hl [1, 0] rfl) (by omega) (show -1 ≤ (hJ 137 23).toInt ∧ (hJ 137 23).toInt ≤ 8 by omega) (Nat.lt_succ_self _) 
  have J_53 : ∀ (hJ : pH) (H : Heap) (locs : List Loc) (ls : Array Slot), pV Z hJ s.heap H locs → Iv Z hJ → agr [(137, 23), (137, 40)] h hJ → lv_has ls 2 [(0, .ref (zB Z + 137))] → (-1 ≤ (hJ 137 23).toInt ∧ (hJ 137 23).toInt ≤ 8) → W p l e (pRm 2 0 0 47) s m ([.ref (zB Z + 137)] : List Value).toArray below meth c H locs 0 0 (MQ below (pQv Z (fun Z1 h1 => Z = Z1 ∧ Iv Z h1 ∧ agr [(137, 23), (137, 40), (151, 1000)] h h1)) ([.ref (zB Z + 137)] : List Value).toArray s 0 0 (pA (zB Z))) (F0 m 53 ls []) := by
    intro hJ H locs ls V I A hl gd_53_23
    exact pe_v M V rfl rfl hr hlk ⟨rfl, I, A.wk (by decide)⟩ ⟨Nat.le_refl _, Nat.le_refl _⟩ dX12_findWindow_53
  refine lv_aload_n hx hb dX12_findWindow_0 rfl (lv_at hl 0 rfl) ?_
  refine lv_iconst (v := (-1)) hx hb dX12_findWindow_1 (by decide) ?_
  refine pp_i M V 12 23 (sm_this S) pC12 fk12_23 rfl lkF_X12_26 ⟨rfl, rfl⟩ dX12_findWindow_2 (fun H locs V => ?_)
  have A := A.wk (l3 := [(137, 23)]) (by decide)
  have A := A.up (o := 137) (k := 23) (v := (-1 : Int32)) (by decide)
  have k_m1 : (-1 : Int32).toInt = -1 := rfl
  have I := I.up (k := 23) (v := (-1 : Int32)) (sm_this S) (show (-1 : Int) ≤ (-1 : Int32).toInt ∧ (-1 : Int32).toInt ≤ (8 : Int) by omega)
  refine lv_aload_n hx hb dX12_findWindow_5 rfl (lv_at hl 0 rfl) ?_
  refine pg_i M V 12 40 (sm_this S) pC12 fk12_40 lkF_X12_69 dX12_findWindow_6 ?_
  refine lv_topi (fun v15 ev15 => ?_)
  refine lv_iconst (v := (-1)) hx hb dX12_findWindow_9 (by decide) ?_
  refine lv_icmp_eq (tgt := 54) hx hb dX12_findWindow_10 (by decide) (fun c_10 => ?_) (fun c_10 => ?_)
  · skip
    have c_10 := pi_eq.mp c_10
    exact J_54 _ _ _ _ V I (A.wk (by decide)) (lv_sub hl [0] rfl) (show -1 ≤ (-1 : Int32).toInt ∧ (-1 : Int32).toInt ≤ -1 by omega) 
  · skip
    have c_10 := pi_ne c_10
    refine lv_aload_n hx hb dX12_findWindow_13 rfl (lv_at hl 0 rfl) ?_
    refine pg_r M V 12 38 (sm_this S) pC12 fk12_38 (sm_before S).2.2 lkF_X12_63 dX12_findWindow_14 ?_
    refine lv_bipush (v := 8) hx hb dX12_findWindow_17 (by decide) ?_
    have k_8 : (8 : Int32).toInt = 8 := rfl
    refine pa_z M V (sm_before S).1 (by rw [(sm_before S).2.1]; exact pi_in (by omega)) dX12_findWindow_19 ?_
    refine lv_topi (fun v16 ev16 => ?_)
    have tv16 : 0 ≤ v16.toInt ∧ v16.toInt ≤ 1 := by rw [ev16]; exact I.get (sm_before S).1 _
    refine lv_if_eq (tgt := 54) hx hb dX12_findWindow_20 (by decide) (fun c_20 => ?_) (fun c_20 => ?_)
    · skip
      have k_0 : (0 : Int32).toInt = 0 := rfl
      have c_20 := pi_eq.mp c_20
      exact J_54 _ _ _ _ V I (A.wk (by decide)) (lv_sub hl [0] rfl) (show -1 ≤ (-1 : Int32).toInt ∧ (-1 : Int32).toInt ≤ -1 by omega) 
    · skip
      have k_0 : (0 : Int32).toInt = 0 := rfl
      have c_20 := pi_ne c_20
      refine lv_aload_n hx hb dX12_findWindow_23 rfl (lv_at hl 0 rfl) ?_
      refine lv_bipush (v := 8) hx hb dX12_findWindow_24 (by decide) ?_
      refine pk_i (pr_V M V (m_X12_hasMouse l S I (8 : Int32) (by omega)) km_X12_hasMouse (sm_this S) pC12 lkM_X12_232 rfl hl.1 rfl (Nat.le_of_ble_eq_true rfl) ⟨Nat.le_of_ble_eq_true rfl, Nat.le_of_ble_eq_true rfl⟩ ⟨Nat.le_of_ble_eq_true rfl, Nat.le_of_ble_eq_true rfl⟩ dX12_findWindow_26) V (fun r17 Zr17 hr17 H locs pr17 _ _ V => ?_)
      obtain ⟨rfl, rfl, fr17_0⟩ := pr17
      refine lv_if_eq (tgt := 41) hx hb dX12_findWindow_29 (by decide) (fun c_29 => ?_) (fun c_29 => ?_)
      · skip
        have c_29 := pi_eq.mp c_29
        refine lv_aload_n hx hb dX12_findWindow_41 rfl (lv_at hl 0 rfl) ?_
        refine pg_i M V 12 13 (sm_this S) pC12 fk12_13 lkF_X12_202 dX12_findWindow_42 ?_
        refine lv_topi (fun v18 ev18 => ?_)
        have tv18 : 0 ≤ v18.toInt ∧ v18.toInt ≤ 1 := by rw [ev18]; exact I.get (sm_this S) 13
        refine lv_if_eq (tgt := 53) hx hb dX12_findWindow_45 (by decide) (fun c_45 => ?_) (fun c_45 => ?_)
        · skip
          have c_45 := pi_eq.mp c_45
          exact J_53 _ _ _ _ V I (A.wk (by decide)) (lv_sub hl [0] rfl) (show -1 ≤ (-1 : Int32).toInt ∧ (-1 : Int32).toInt ≤ 8 by omega) 
        · skip
          have c_45 := pi_ne c_45
          refine lv_aload_n hx hb dX12_findWindow_48 rfl (lv_at hl 0 rfl) ?_
          refine lv_iconst (v := (-1)) hx hb dX12_findWindow_49 (by decide) ?_
          refine pp_i M V 12 40 (sm_this S) pC12 fk12_40 rfl lkF_X12_69 ⟨rfl, rfl⟩ dX12_findWindow_50 (fun H locs V => ?_)
          have A := A.wk (l3 := [(137, 23), (137, 40)]) (by decide)
          have A := A.up (o := 137) (k := 40) (v := (-1 : Int32)) (by decide)
          have I := I.up (k := 40) (v := (-1 : Int32)) (sm_this S) (pi_full _)
          exact J_53 _ _ _ _ V I (A.wk (by decide)) (lv_sub hl [0] rfl) (show -1 ≤ (-1 : Int32).toInt ∧ (-1 : Int32).toInt ≤ 8 by omega) 
      · skip
        have c_29 := pi_ne c_29
        refine lv_aload_n hx hb dX12_findWindow_32 rfl (lv_at hl 0 rfl) ?_
        refine lv_bipush (v := 8) hx hb dX12_findWindow_33 (by decide) ?_
        refine pp_i M V 12 23 (sm_this S) pC12 fk12_23 rfl lkF_X12_26 ⟨rfl, rfl⟩ dX12_findWindow_35 (fun H locs V => ?_)
        have A := A.up (o := 137) (k := 23) (v := (8 : Int32)) (by decide)
        have I := I.up (k := 23) (v := (8 : Int32)) (sm_this S) (show (-1 : Int) ≤ (8 : Int32).toInt ∧ (8 : Int32).toInt ≤ (8 : Int) by omega)
        refine lv_goto (tgt := 53) hx hb dX12_findWindow_38 (by decide) ?_
        exact J_53 _ _ _ _ V I (A.wk (by decide)) (lv_sub hl [0] rfl) (show -1 ≤ (8 : Int32).toInt ∧ (8 : Int32).toInt ≤ 8 by omega) 
theorem dX12_walk_0 : decode cX12_walk 0 = .ok (.aload_n 0, 1) := by decide +kernel
theorem dX12_walk_1 : decode cX12_walk 1 = .ok (.iconst 0, 1) := by decide +kernel
theorem dX12_walk_2 : decode cX12_walk 2 = .ok (.putfield 397, 3) := by decide +kernel
theorem dX12_walk_5 : decode cX12_walk 5 = .ok (.aload_n 0, 1) := by decide +kernel
theorem dX12_walk_6 : decode cX12_walk 6 = .ok (.iconst (-1), 1) := by decide +kernel
theorem dX12_walk_7 : decode cX12_walk 7 = .ok (.putfield 400, 3) := by decide +kernel
theorem dX12_walk_10 : decode cX12_walk 10 = .ok (.aload_n 0, 1) := by decide +kernel
theorem dX12_walk_11 : decode cX12_walk 11 = .ok (.iconst 0, 1) := by decide +kernel
theorem dX12_walk_12 : decode cX12_walk 12 = .ok (.putfield 403, 3) := by decide +kernel
theorem dX12_walk_15 : decode cX12_walk 15 = .ok (.aload_n 0, 1) := by decide +kernel
theorem dX12_walk_16 : decode cX12_walk 16 = .ok (.iconst 0, 1) := by decide +kernel
theorem dX12_walk_17 : decode cX12_walk 17 = .ok (.putfield 406, 3) := by decide +kernel
theorem dX12_walk_20 : decode cX12_walk 20 = .ok (.iconst 0, 1) := by decide +kernel
theorem dX12_walk_21 : decode cX12_walk 21 = .ok (.istore_n 2, 1) := by decide +kernel
theorem dX12_walk_22 : decode cX12_walk 22 = .ok (.iload_n 2, 1) := by decide +kernel
theorem dX12_walk_23 : decode cX12_walk 23 = .ok (.iload_n 1, 1) := by decide +kernel
theorem dX12_walk_24 : decode cX12_walk 24 = .ok (.if_icmp .gt 202, 3) := by decide +kernel
theorem dX12_walk_27 : decode cX12_walk 27 = .ok (.iload_n 2, 1) := by decide +kernel
theorem dX12_walk_28 : decode cX12_walk 28 = .ok (.ifCond .eq 27, 3) := by decide +kernel
theorem dX12_walk_31 : decode cX12_walk 31 = .ok (.aload_n 0, 1) := by decide +kernel
theorem dX12_walk_32 : decode cX12_walk 32 = .ok (.getfield 172, 3) := by decide +kernel
theorem dX12_walk_35 : decode cX12_walk 35 = .ok (.bipush 11, 2) := by decide +kernel
theorem dX12_walk_37 : decode cX12_walk 37 = .ok (.iload_n 2, 1) := by decide +kernel
theorem dX12_walk_38 : decode cX12_walk 38 = .ok (.imul, 1) := by decide +kernel
theorem dX12_walk_39 : decode cX12_walk 39 = .ok (.iaload, 1) := by decide +kernel
theorem dX12_walk_40 : decode cX12_walk 40 = .ok (.aload_n 0, 1) := by decide +kernel
theorem dX12_walk_41 : decode cX12_walk 41 = .ok (.getfield 172, 3) := by decide +kernel
theorem dX12_walk_44 : decode cX12_walk 44 = .ok (.bipush 11, 2) := by decide +kernel
theorem dX12_walk_46 : decode cX12_walk 46 = .ok (.iload_n 2, 1) := by decide +kernel
theorem dX12_walk_47 : decode cX12_walk 47 = .ok (.imul, 1) := by decide +kernel
theorem dX12_walk_48 : decode cX12_walk 48 = .ok (.bipush 11, 2) := by decide +kernel
theorem dX12_walk_50 : decode cX12_walk 50 = .ok (.isub, 1) := by decide +kernel
theorem dX12_walk_51 : decode cX12_walk 51 = .ok (.iaload, 1) := by decide +kernel
theorem dX12_walk_52 : decode cX12_walk 52 = .ok (.if_icmp .eq 7, 3) := by decide +kernel
theorem dX12_walk_55 : decode cX12_walk 55 = .ok (.iconst 1, 1) := by decide +kernel
theorem dX12_walk_56 : decode cX12_walk 56 = .ok (.goto 4, 3) := by decide +kernel
theorem dX12_walk_59 : decode cX12_walk 59 = .ok (.iconst 0, 1) := by decide +kernel
theorem dX12_walk_60 : decode cX12_walk 60 = .ok (.istore_n 3, 1) := by decide +kernel
theorem dX12_walk_61 : decode cX12_walk 61 = .ok (.iload_n 3, 1) := by decide +kernel
theorem dX12_walk_62 : decode cX12_walk 62 = .ok (.ifCond .eq 10, 3) := by decide +kernel
theorem dX12_walk_65 : decode cX12_walk 65 = .ok (.aload_n 0, 1) := by decide +kernel
theorem dX12_walk_66 : decode cX12_walk 66 = .ok (.iconst 4, 1) := by decide +kernel
theorem dX12_walk_67 : decode cX12_walk 67 = .ok (.iload_n 2, 1) := by decide +kernel
theorem dX12_walk_68 : decode cX12_walk 68 = .ok (.imul, 1) := by decide +kernel
theorem dX12_walk_69 : decode cX12_walk 69 = .ok (.putfield 397, 3) := by decide +kernel
theorem dX12_walk_72 : decode cX12_walk 72 = .ok (.iconst 4, 1) := by decide +kernel
theorem dX12_walk_73 : decode cX12_walk 73 = .ok (.iload_n 2, 1) := by decide +kernel
theorem dX12_walk_74 : decode cX12_walk 74 = .ok (.imul, 1) := by decide +kernel
theorem dX12_walk_75 : decode cX12_walk 75 = .ok (.aload_n 0, 1) := by decide +kernel
theorem dX12_walk_76 : decode cX12_walk 76 = .ok (.getfield 397, 3) := by decide +kernel
theorem dX12_walk_79 : decode cX12_walk 79 = .ok (.isub, 1) := by decide +kernel
theorem dX12_walk_80 : decode cX12_walk 80 = .ok (.istore 4, 2) := by decide +kernel
theorem dX12_walk_82 : decode cX12_walk 82 = .ok (.iload_n 3, 1) := by decide +kernel
theorem dX12_walk_83 : decode cX12_walk 83 = .ok (.ifCond .ne 19, 3) := by decide +kernel
theorem dX12_walk_86 : decode cX12_walk 86 = .ok (.iload 4, 2) := by decide +kernel
theorem dX12_walk_88 : decode cX12_walk 88 = .ok (.aload_n 0, 1) := by decide +kernel
theorem dX12_walk_89 : decode cX12_walk 89 = .ok (.getfield 403, 3) := by decide +kernel
theorem dX12_walk_92 : decode cX12_walk 92 = .ok (.isub, 1) := by decide +kernel
theorem dX12_walk_93 : decode cX12_walk 93 = .ok (.bipush 64, 2) := by decide +kernel
theorem dX12_walk_95 : decode cX12_walk 95 = .ok (.if_icmp .ge 7, 3) := by decide +kernel
theorem dX12_walk_98 : decode cX12_walk 98 = .ok (.iconst 1, 1) := by decide +kernel
theorem dX12_walk_99 : decode cX12_walk 99 = .ok (.goto 4, 3) := by decide +kernel
theorem dX12_walk_102 : decode cX12_walk 102 = .ok (.iconst 0, 1) := by decide +kernel
theorem dX12_walk_103 : decode cX12_walk 103 = .ok (.istore 5, 2) := by decide +kernel
theorem dX12_walk_105 : decode cX12_walk 105 = .ok (.bipush 6, 2) := by decide +kernel
theorem dX12_walk_107 : decode cX12_walk 107 = .ok (.istore 6, 2) := by decide +kernel
theorem dX12_walk_109 : decode cX12_walk 109 = .ok (.iload 6, 2) := by decide +kernel
theorem dX12_walk_111 : decode cX12_walk 111 = .ok (.bipush 11, 2) := by decide +kernel
theorem dX12_walk_113 : decode cX12_walk 113 = .ok (.if_icmp .ge 51, 3) := by decide +kernel
theorem dX12_walk_116 : decode cX12_walk 116 = .ok (.iload 5, 2) := by decide +kernel
theorem dX12_walk_118 : decode cX12_walk 118 = .ok (.ifCond .eq 46, 3) := by decide +kernel
theorem dX12_walk_121 : decode cX12_walk 121 = .ok (.aload_n 0, 1) := by decide +kernel
theorem dX12_walk_122 : decode cX12_walk 122 = .ok (.getfield 172, 3) := by decide +kernel
theorem dX12_walk_125 : decode cX12_walk 125 = .ok (.bipush 11, 2) := by decide +kernel
theorem dX12_walk_127 : decode cX12_walk 127 = .ok (.iload_n 2, 1) := by decide +kernel
theorem dX12_walk_128 : decode cX12_walk 128 = .ok (.imul, 1) := by decide +kernel
theorem dX12_walk_129 : decode cX12_walk 129 = .ok (.iload 6, 2) := by decide +kernel
theorem dX12_walk_131 : decode cX12_walk 131 = .ok (.iadd, 1) := by decide +kernel
theorem dX12_walk_132 : decode cX12_walk 132 = .ok (.iaload, 1) := by decide +kernel
theorem dX12_walk_133 : decode cX12_walk 133 = .ok (.aload_n 0, 1) := by decide +kernel
theorem dX12_walk_134 : decode cX12_walk 134 = .ok (.getfield 172, 3) := by decide +kernel
theorem dX12_walk_137 : decode cX12_walk 137 = .ok (.bipush 11, 2) := by decide +kernel
theorem dX12_walk_139 : decode cX12_walk 139 = .ok (.iload_n 2, 1) := by decide +kernel
theorem dX12_walk_140 : decode cX12_walk 140 = .ok (.imul, 1) := by decide +kernel
theorem dX12_walk_141 : decode cX12_walk 141 = .ok (.bipush 11, 2) := by decide +kernel
theorem dX12_walk_143 : decode cX12_walk 143 = .ok (.isub, 1) := by decide +kernel
theorem dX12_walk_144 : decode cX12_walk 144 = .ok (.iload 6, 2) := by decide +kernel
theorem dX12_walk_146 : decode cX12_walk 146 = .ok (.iadd, 1) := by decide +kernel
theorem dX12_walk_147 : decode cX12_walk 147 = .ok (.iaload, 1) := by decide +kernel
theorem dX12_walk_148 : decode cX12_walk 148 = .ok (.if_icmp .ne 7, 3) := by decide +kernel
theorem dX12_walk_151 : decode cX12_walk 151 = .ok (.iconst 1, 1) := by decide +kernel
theorem dX12_walk_152 : decode cX12_walk 152 = .ok (.goto 4, 3) := by decide +kernel
theorem dX12_walk_155 : decode cX12_walk 155 = .ok (.iconst 0, 1) := by decide +kernel
theorem dX12_walk_156 : decode cX12_walk 156 = .ok (.istore 5, 2) := by decide +kernel
theorem dX12_walk_158 : decode cX12_walk 158 = .ok (.iinc 6 1, 3) := by decide +kernel
theorem dX12_walk_161 : decode cX12_walk 161 = .ok (.goto (-52), 3) := by decide +kernel
theorem dX12_walk_164 : decode cX12_walk 164 = .ok (.iload 5, 2) := by decide +kernel
theorem dX12_walk_166 : decode cX12_walk 166 = .ok (.ifCond .eq 6, 3) := by decide +kernel
theorem dX12_walk_169 : decode cX12_walk 169 = .ok (.goto 51, 3) := by decide +kernel
theorem dX12_walk_172 : decode cX12_walk 172 = .ok (.iload_n 3, 1) := by decide +kernel
theorem dX12_walk_173 : decode cX12_walk 173 = .ok (.ifCond .eq 11, 3) := by decide +kernel
theorem dX12_walk_176 : decode cX12_walk 176 = .ok (.aload_n 0, 1) := by decide +kernel
theorem dX12_walk_177 : decode cX12_walk 177 = .ok (.iconst 0, 1) := by decide +kernel
theorem dX12_walk_178 : decode cX12_walk 178 = .ok (.putfield 403, 3) := by decide +kernel
theorem dX12_walk_181 : decode cX12_walk 181 = .ok (.goto 21, 3) := by decide +kernel
theorem dX12_walk_184 : decode cX12_walk 184 = .ok (.iload 4, 2) := by decide +kernel
theorem dX12_walk_186 : decode cX12_walk 186 = .ok (.aload_n 0, 1) := by decide +kernel
theorem dX12_walk_187 : decode cX12_walk 187 = .ok (.getfield 403, 3) := by decide +kernel
theorem dX12_walk_190 : decode cX12_walk 190 = .ok (.isub, 1) := by decide +kernel
theorem dX12_walk_191 : decode cX12_walk 191 = .ok (.bipush 64, 2) := by decide +kernel
theorem dX12_walk_193 : decode cX12_walk 193 = .ok (.if_icmp .lt 9, 3) := by decide +kernel
theorem dX12_walk_196 : decode cX12_walk 196 = .ok (.aload_n 0, 1) := by decide +kernel
theorem dX12_walk_197 : decode cX12_walk 197 = .ok (.iload 4, 2) := by decide +kernel
theorem dX12_walk_199 : decode cX12_walk 199 = .ok (.putfield 403, 3) := by decide +kernel
theorem dX12_walk_202 : decode cX12_walk 202 = .ok (.aload_n 0, 1) := by decide +kernel
theorem dX12_walk_203 : decode cX12_walk 203 = .ok (.dup, 1) := by decide +kernel
theorem dX12_walk_204 : decode cX12_walk 204 = .ok (.getfield 400, 3) := by decide +kernel
theorem dX12_walk_207 : decode cX12_walk 207 = .ok (.iconst 1, 1) := by decide +kernel
theorem dX12_walk_208 : decode cX12_walk 208 = .ok (.iadd, 1) := by decide +kernel
theorem dX12_walk_209 : decode cX12_walk 209 = .ok (.putfield 400, 3) := by decide +kernel
theorem dX12_walk_212 : decode cX12_walk 212 = .ok (.aload_n 0, 1) := by decide +kernel
theorem dX12_walk_213 : decode cX12_walk 213 = .ok (.bipush 6, 2) := by decide +kernel
theorem dX12_walk_215 : decode cX12_walk 215 = .ok (.iload_n 2, 1) := by decide +kernel
theorem dX12_walk_216 : decode cX12_walk 216 = .ok (.imul, 1) := by decide +kernel
theorem dX12_walk_217 : decode cX12_walk 217 = .ok (.putfield 406, 3) := by decide +kernel
theorem dX12_walk_220 : decode cX12_walk 220 = .ok (.iinc 2 1, 3) := by decide +kernel
theorem dX12_walk_223 : decode cX12_walk 223 = .ok (.goto (-201), 3) := by decide +kernel
theorem dX12_walk_226 : decode cX12_walk 226 = .ok (.return_, 1) := by decide +kernel
set_option maxHeartbeats 4000000 in
set_option maxRecDepth 100000 in
theorem m_X12_walk (l : Launch) {Z : pZ} (S : pSh Z) {h : pH} (I : Iv Z h) (to : Int32) (ht : to.toInt < (h 137 83).toInt) (hd : (h 137 83).toInt ≤ 7000) : pMet l yX12_walk cX12_walk 7 none 0 0 0 0 Z h [.ref (zB Z + 137), .int to] (pQv Z (fun Z1 h1 => Z = Z1 ∧ Iv Z h1 ∧ agr [(137, 84), (137, 85), (137, 86), (137, 87)] h h1)) := by
  refine pOfW (lv := [(0, .ref (zB Z + 137)), (1, .int to)]) (by decide) (Nat.le_of_ble_eq_true rfl) rfl ?_
  intro p e s m below meth c ls M hr hlk hnm V hl
  have hx := M.1.1
  have hb := M.1.2.1
  have A : agr [] h h := agr.rf
  have J_22 : ∀ (n9 : Nat) (x22_2 : Int32) (hJ : pH) (H : Heap) (locs : List Loc) (ls : Array Slot), pV Z hJ s.heap H locs → Iv Z hJ → agr [(137, 84), (137, 85), (137, 86), (137, 87)] h hJ → lv_has ls 7 [(0, .ref (zB Z + 137)), (1, .int to), (2, .int x22_2)] → (to.toInt ≤ 6999) → (0 ≤ x22_2.toInt ∧ x22_2.toInt ≤ 7000) → (7000 - x22_2.toInt).toNat < n9 → W p l e (pRm 0 0 0 0) s m ([.ref (zB Z + 137), .int to] : List Value).toArray below meth c H locs 0 0 (MQ below (pQv Z (fun Z1 h1 => Z = Z1 ∧ Iv Z h1 ∧ agr [(137, 84), (137, 85), (137, 86), (137, 87)] h h1)) ([.ref (zB Z + 137), .int to] : List Value).toArray s 0 0 (pA (zB Z))) (F0 m 22 ls []) := by
    intro n9
    induction n9 with
    | zero => intro x22_2 hJ H locs ls V I A hl g_22_1 g_22_2 hm9; exact absurd hm9 (Nat.not_lt_zero _)
    | succ n9 ih_22 =>
      intro x22_2 hJ H locs ls V I A hl g_22_1 g_22_2 hm9
      have J_220 : ∀ (x220_3 : Int32) (x220_4 : Int32) (x220_5 : Int32) (x220_6 : Int32) (hJ : pH) (H : Heap) (locs : List Loc) (ls : Array Slot), pV Z hJ s.heap H locs → Iv Z hJ → agr [(137, 84), (137, 85), (137, 86), (137, 87)] h hJ → lv_has ls 7 [(0, .ref (zB Z + 137)), (1, .int to), (2, .int x22_2), (3, .int x220_3), (4, .int x220_4), (5, .int x220_5), (6, .int x220_6)] → (0 ≤ to.toInt ∧ to.toInt ≤ 6999) → (0 ≤ x22_2.toInt ∧ x22_2.toInt ≤ 6999) → (0 ≤ x220_3.toInt ∧ x220_3.toInt ≤ 1) → (0 ≤ x220_5.toInt ∧ x220_5.toInt ≤ 1) → (6 ≤ x220_6.toInt ∧ x220_6.toInt ≤ 11) → W p l e (pRm 0 0 0 0) s m ([.ref (zB Z + 137), .int to] : List Value).toArray below meth c H locs 0 0 (MQ below (pQv Z (fun Z1 h1 => Z = Z1 ∧ Iv Z h1 ∧ agr [(137, 84), (137, 85), (137, 86), (137, 87)] h h1)) ([.ref (zB Z + 137), .int to] : List Value).toArray s 0 0 (pA (zB Z))) (F0 m 220 ls []) := by
        intro x220_3 x220_4 x220_5 x220_6 hJ H locs ls V I A hl g_220_1 g_220_2 g_220_3 g_220_5 g_220_6
        obtain ⟨v1, ev1⟩ : ∃ y : Int32, y = x22_2 + 1 := ⟨_, rfl⟩
        refine lv_iinc (v := v1) (lv' := [(2, .int v1), (0, .ref (zB Z + 137)), (1, .int to), (3, .int x220_3), (4, .int x220_4), (5, .int x220_5), (6, .int x220_6)]) hx hb dX12_walk_220 hl (k := 2) rfl (by rw [ev1]; rfl) (by decide) rfl (fun ls hl => ?_)
        refine lv_goto (tgt := 22) hx hb dX12_walk_223 (by decide) ?_
        have k_1 : (1 : Int32).toInt = 1 := rfl
        have tv1 : v1.toInt = x22_2.toInt + 1 := by rw [ev1]; have z9 := pi_add (x := x22_2) (y := (1 : Int32)); rw [k_1] at z9; exact z9 (by omega)
        exact ih_22 v1 _ _ _ _ V I (A.wk (by decide)) (lv_sub hl [1, 2, 0] rfl) (by omega) (by omega) (by omega) 
      have J_202 : ∀ (x202_3 : Int32) (x202_4 : Int32) (x202_5 : Int32) (x202_6 : Int32) (hJ : pH) (H : Heap) (locs : List Loc) (ls : Array Slot), pV Z hJ s.heap H locs → Iv Z hJ → agr [(137, 84), (137, 85), (137, 86), (137, 87)] h hJ → lv_has ls 7 [(0, .ref (zB Z + 137)), (1, .int to), (2, .int x22_2), (3, .int x202_3), (4, .int x202_4), (5, .int x202_5), (6, .int x202_6)] → (0 ≤ to.toInt ∧ to.toInt ≤ 6999) → (0 ≤ x22_2.toInt ∧ x22_2.toInt ≤ 6999) → (0 ≤ x202_3.toInt ∧ x202_3.toInt ≤ 1) → (0 ≤ x202_5.toInt ∧ x202_5.toInt ≤ 0) → (6 ≤ x202_6.toInt ∧ x202_6.toInt ≤ 11) → W p l e (pRm 0 0 0 0) s m ([.ref (zB Z + 137), .int to] : List Value).toArray below meth c H locs 0 0 (MQ below (pQv Z (fun Z1 h1 => Z = Z1 ∧ Iv Z h1 ∧ agr [(137, 84), (137, 85), (137, 86), (137, 87)] h h1)) ([.ref (zB Z + 137), .int to] : List Value).toArray s 0 0 (pA (zB Z))) (F0 m 202 ls []) := by
        intro x202_3 x202_4 x202_5 x202_6 hJ H locs ls V I A hl g_202_1 g_202_2 g_202_3 g_202_5 g_202_6
        refine lv_aload_n hx hb dX12_walk_202 rfl (lv_at hl 0 rfl) ?_
        refine lv_dup hx hb dX12_walk_203 rfl ?_
        refine pg_i M V 12 85 (sm_this S) pC12 fk12_85 lkF_X12_400 dX12_walk_204 ?_
        refine lv_topi (fun v2 ev2 => ?_)
        refine lv_iconst (v := 1) hx hb dX12_walk_207 (by decide) ?_
        refine lv_iadd hx hb dX12_walk_208 ?_
        refine lv_topi (fun v3 ev3 => ?_)
        refine pp_i M V 12 85 (sm_this S) pC12 fk12_85 rfl lkF_X12_400 ⟨rfl, rfl⟩ dX12_walk_209 (fun H locs V => ?_)
        have A := A.up (o := 137) (k := 85) (v := v3) (by decide)
        have I := I.up (k := 85) (v := v3) (sm_this S) (pi_full _)
        refine lv_aload_n hx hb dX12_walk_212 rfl (lv_at hl 0 rfl) ?_
        refine lv_bipush (v := 6) hx hb dX12_walk_213 (by decide) ?_
        refine lv_iload_n hx hb dX12_walk_215 rfl (lv_at hl 2 rfl) ?_
        refine lv_imul hx hb dX12_walk_216 ?_
        refine lv_topi (fun v4 ev4 => ?_)
        refine pp_i M V 12 87 (sm_this S) pC12 fk12_87 rfl lkF_X12_406 ⟨rfl, rfl⟩ dX12_walk_217 (fun H locs V => ?_)
        have A := A.up (o := 137) (k := 87) (v := v4) (by decide)
        have I := I.up (k := 87) (v := v4) (sm_this S) (pi_full _)
        exact J_220 x202_3 x202_4 x202_5 x202_6 _ _ _ _ V I (A.wk (by decide)) (lv_sub hl [0, 1, 2, 3, 4, 5, 6] rfl) (by omega) (by omega) (by omega) (by omega) (by omega) 
      have J_164 : ∀ (x164_3 : Int32) (x164_4 : Int32) (x164_5 : Int32) (x164_6 : Int32) (hJ : pH) (H : Heap) (locs : List Loc) (ls : Array Slot), pV Z hJ s.heap H locs → Iv Z hJ → agr [(137, 84), (137, 85), (137, 86), (137, 87)] h hJ → lv_has ls 7 [(0, .ref (zB Z + 137)), (1, .int to), (2, .int x22_2), (3, .int x164_3), (4, .int x164_4), (5, .int x164_5), (6, .int x164_6)] → (0 ≤ to.toInt ∧ to.toInt ≤ 6999) → (0 ≤ x22_2.toInt ∧ x22_2.toInt ≤ 6999) → (0 ≤ x164_3.toInt ∧ x164_3.toInt ≤ 1) → (0 ≤ x164_5.toInt ∧ x164_5.toInt ≤ 1) → (6 ≤ x164_6.toInt ∧ x164_6.toInt ≤ 11) → W p l e (pRm 0 0 0 0) s m ([.ref (zB Z + 137), .int to] : List Value).toArray below meth c H locs 0 0 (MQ below (pQv Z (fun Z1 h1 => Z = Z1 ∧ Iv Z h1 ∧ agr [(137, 84), (137, 85), (137, 86), (137, 87)] h h1)) ([.ref (zB Z + 137), .int to] : List Value).toArray s 0 0 (pA (zB Z))) (F0 m 164 ls []) := by
        intro x164_3 x164_4 x164_5 x164_6 hJ H locs ls V I A hl g_164_1 g_164_2 g_164_3 g_164_5 g_164_6
        refine lv_iload hx hb dX12_walk_164 (lv_at hl 5 rfl) ?_
        refine lv_if_eq (tgt := 172) hx hb dX12_walk_166 (by decide) (fun c_166 => ?_) (fun c_166 => ?_)
        · skip
          have k_0 : (0 : Int32).toInt = 0 := rfl
          have c_166 := pi_eq.mp c_166
          refine lv_iload_n hx hb dX12_walk_172 rfl (lv_at hl 3 rfl) ?_
          refine lv_if_eq (tgt := 184) hx hb dX12_walk_173 (by decide) (fun c_173 => ?_) (fun c_173 => ?_)
          · skip
            have c_173 := pi_eq.mp c_173
            refine lv_iload hx hb dX12_walk_184 (lv_at hl 4 rfl) ?_
            refine lv_aload_n hx hb dX12_walk_186 rfl (lv_at hl 0 rfl) ?_
            refine pg_i M V 12 86 (sm_this S) pC12 fk12_86 lkF_X12_403 dX12_walk_187 ?_
            refine lv_topi (fun v5 ev5 => ?_)
            refine lv_isub hx hb dX12_walk_190 ?_
            refine lv_topi (fun v6 ev6 => ?_)
            refine lv_bipush (v := 64) hx hb dX12_walk_191 (by decide) ?_
            refine lv_icmp_lt (tgt := 202) hx hb dX12_walk_193 (by decide) (fun c_193 => ?_) (fun c_193 => ?_)
            · skip
              have k_64 : (64 : Int32).toInt = 64 := rfl
              have c_193 := pi_lt.mp c_193
              exact J_202 x164_3 x164_4 x164_5 x164_6 _ _ _ _ V I (A.wk (by decide)) (lv_sub hl [0, 1, 2, 3, 4, 5, 6] rfl) (by omega) (by omega) (by omega) (by omega) (by omega) 
            · skip
              have k_64 : (64 : Int32).toInt = 64 := rfl
              have c_193 := pi_lt' c_193
              refine lv_aload_n hx hb dX12_walk_196 rfl (lv_at hl 0 rfl) ?_
              refine lv_iload hx hb dX12_walk_197 (lv_at hl 4 rfl) ?_
              refine pp_i M V 12 86 (sm_this S) pC12 fk12_86 rfl lkF_X12_403 ⟨rfl, rfl⟩ dX12_walk_199 (fun H locs V => ?_)
              have A := A.up (o := 137) (k := 86) (v := x164_4) (by decide)
              have I := I.up (k := 86) (v := x164_4) (sm_this S) (pi_full _)
              exact J_202 x164_3 x164_4 x164_5 x164_6 _ _ _ _ V I (A.wk (by decide)) (lv_sub hl [0, 1, 2, 3, 4, 5, 6] rfl) (by omega) (by omega) (by omega) (by omega) (by omega) 
          · skip
            have c_173 := pi_ne c_173
            refine lv_aload_n hx hb dX12_walk_176 rfl (lv_at hl 0 rfl) ?_
            refine lv_iconst (v := 0) hx hb dX12_walk_177 (by decide) ?_
            refine pp_i M V 12 86 (sm_this S) pC12 fk12_86 rfl lkF_X12_403 ⟨rfl, rfl⟩ dX12_walk_178 (fun H locs V => ?_)
            have A := A.up (o := 137) (k := 86) (v := (0 : Int32)) (by decide)
            have I := I.up (k := 86) (v := (0 : Int32)) (sm_this S) (pi_full _)
            refine lv_goto (tgt := 202) hx hb dX12_walk_181 (by decide) ?_
            exact J_202 x164_3 x164_4 x164_5 x164_6 _ _ _ _ V I (A.wk (by decide)) (lv_sub hl [0, 1, 2, 3, 4, 5, 6] rfl) (by omega) (by omega) (by omega) (by omega) (by omega) 
        · skip
          have k_0 : (0 : Int32).toInt = 0 := rfl
          have c_166 := pi_ne c_166
          refine lv_goto (tgt := 220) hx hb dX12_walk_169 (by decide) ?_
          exact J_220 x164_3 x164_4 x164_5 x164_6 _ _ _ _ V I (A.wk (by decide)) (lv_sub hl [0, 1, 2, 3, 4, 5, 6] rfl) (by omega) (by omega) (by omega) (by omega) (by omega) 
      have J_109 : ∀ (n9 : Nat) (x109_3 : Int32) (x109_4 : Int32) (x109_5 : Int32) (x109_6 : Int32) (hJ : pH) (H : Heap) (locs : List Loc) (ls : Array Slot), pV Z hJ s.heap H locs → Iv Z hJ → agr [(137, 84), (137, 85), (137, 86), (137, 87)] h hJ → lv_has ls 7 [(0, .ref (zB Z + 137)), (1, .int to), (2, .int x22_2), (3, .int x109_3), (4, .int x109_4), (5, .int x109_5), (6, .int x109_6)] → (0 ≤ to.toInt ∧ to.toInt ≤ 6999) → (0 ≤ x22_2.toInt ∧ x22_2.toInt ≤ 6999) → (0 ≤ x109_3.toInt ∧ x109_3.toInt ≤ 1) → (0 ≤ x109_5.toInt ∧ x109_5.toInt ≤ 1) → (6 ≤ x109_6.toInt ∧ x109_6.toInt ≤ 11) → (x109_5.toInt = 1 → 1 ≤ x22_2.toInt) → (11 - x109_6.toInt).toNat < n9 → W p l e (pRm 0 0 0 0) s m ([.ref (zB Z + 137), .int to] : List Value).toArray below meth c H locs 0 0 (MQ below (pQv Z (fun Z1 h1 => Z = Z1 ∧ Iv Z h1 ∧ agr [(137, 84), (137, 85), (137, 86), (137, 87)] h h1)) ([.ref (zB Z + 137), .int to] : List Value).toArray s 0 0 (pA (zB Z))) (F0 m 109 ls []) := by
        intro n9
        induction n9 with
        | zero => intro x109_3 x109_4 x109_5 x109_6 hJ H locs ls V I A hl g_109_1 g_109_2 g_109_3 g_109_5 g_109_6 e109 hm9; exact absurd hm9 (Nat.not_lt_zero _)
        | succ n9 ih_109 =>
          intro x109_3 x109_4 x109_5 x109_6 hJ H locs ls V I A hl g_109_1 g_109_2 g_109_3 g_109_5 g_109_6 e109 hm9
          have J_156 : ∀ (y156_0 : Int32) (hJ : pH) (H : Heap) (locs : List Loc) (ls : Array Slot), pV Z hJ s.heap H locs → Iv Z hJ → agr [(137, 84), (137, 85), (137, 86), (137, 87)] h hJ → lv_has ls 7 [(0, .ref (zB Z + 137)), (1, .int to), (2, .int x22_2), (3, .int x109_3), (4, .int x109_4), (5, .int x109_5), (6, .int x109_6)] → (0 ≤ to.toInt ∧ to.toInt ≤ 6999) → (0 ≤ x22_2.toInt ∧ x22_2.toInt ≤ 6999) → (0 ≤ x109_3.toInt ∧ x109_3.toInt ≤ 1) → (1 ≤ x109_5.toInt ∧ x109_5.toInt ≤ 1) → (6 ≤ x109_6.toInt ∧ x109_6.toInt ≤ 10) → (0 ≤ y156_0.toInt ∧ y156_0.toInt ≤ 1) → (y156_0.toInt = 1 → 1 ≤ x22_2.toInt) → W p l e (pRm 0 0 0 0) s m ([.ref (zB Z + 137), .int to] : List Value).toArray below meth c H locs 0 0 (MQ below (pQv Z (fun Z1 h1 => Z = Z1 ∧ Iv Z h1 ∧ agr [(137, 84), (137, 85), (137, 86), (137, 87)] h h1)) ([.ref (zB Z + 137), .int to] : List Value).toArray s 0 0 (pA (zB Z))) (F0 m 156 ls [.int y156_0]) := by
            intro y156_0 hJ H locs ls V I A hl g_156_1 g_156_2 g_156_3 g_156_5 g_156_6 gs_156_0 e156
            refine lv_istore (lv' := [(5, .int y156_0), (0, .ref (zB Z + 137)), (1, .int to), (2, .int x22_2), (3, .int x109_3), (4, .int x109_4), (6, .int x109_6)]) hx hb dX12_walk_156 hl (by decide) rfl (fun ls hl => ?_)
            obtain ⟨v7, ev7⟩ : ∃ y : Int32, y = x109_6 + 1 := ⟨_, rfl⟩
            refine lv_iinc (v := v7) (lv' := [(6, .int v7), (5, .int y156_0), (0, .ref (zB Z + 137)), (1, .int to), (2, .int x22_2), (3, .int x109_3), (4, .int x109_4)]) hx hb dX12_walk_158 hl (k := 6) rfl (by rw [ev7]; rfl) (by decide) rfl (fun ls hl => ?_)
            refine lv_goto (tgt := 109) hx hb dX12_walk_161 (by decide) ?_
            have k_1 : (1 : Int32).toInt = 1 := rfl
            have tv7 : v7.toInt = x109_6.toInt + 1 := by rw [ev7]; have z9 := pi_add (x := x109_6) (y := (1 : Int32)); rw [k_1] at z9; exact z9 (by omega)
            exact ih_109 x109_3 x109_4 y156_0 v7 _ _ _ _ V I (A.wk (by decide)) (lv_sub hl [2, 3, 4, 5, 6, 1, 0] rfl) (by omega) (by omega) (by omega) (by omega) (by omega) (by omega) (by omega) 
          refine lv_iload hx hb dX12_walk_109 (lv_at hl 6 rfl) ?_
          refine lv_bipush (v := 11) hx hb dX12_walk_111 (by decide) ?_
          refine lv_icmp_ge (tgt := 164) hx hb dX12_walk_113 (by decide) (fun c_113 => ?_) (fun c_113 => ?_)
          · skip
            have k_11 : (11 : Int32).toInt = 11 := rfl
            have c_113 := pi_le.mp c_113
            exact J_164 x109_3 x109_4 x109_5 x109_6 _ _ _ _ V I (A.wk (by decide)) (lv_sub hl [0, 1, 2, 3, 4, 5, 6] rfl) (by omega) (by omega) (by omega) (by omega) (by omega) 
          · skip
            have k_11 : (11 : Int32).toInt = 11 := rfl
            have c_113 := pi_le' c_113
            refine lv_iload hx hb dX12_walk_116 (lv_at hl 5 rfl) ?_
            refine lv_if_eq (tgt := 164) hx hb dX12_walk_118 (by decide) (fun c_118 => ?_) (fun c_118 => ?_)
            · skip
              have k_0 : (0 : Int32).toInt = 0 := rfl
              have c_118 := pi_eq.mp c_118
              exact J_164 x109_3 x109_4 x109_5 x109_6 _ _ _ _ V I (A.wk (by decide)) (lv_sub hl [0, 1, 2, 3, 4, 5, 6] rfl) (by omega) (by omega) (by omega) (by omega) (by omega) 
            · skip
              have k_0 : (0 : Int32).toInt = 0 := rfl
              have c_118 := pi_ne c_118
              refine lv_aload_n hx hb dX12_walk_121 rfl (lv_at hl 0 rfl) ?_
              refine pg_r M V 12 81 (sm_this S) pC12 fk12_81 (sm_drawing S).2.2 lkF_X12_172 dX12_walk_122 ?_
              refine lv_bipush (v := 11) hx hb dX12_walk_125 (by decide) ?_
              refine lv_iload_n hx hb dX12_walk_127 rfl (lv_at hl 2 rfl) ?_
              refine lv_imul hx hb dX12_walk_128 ?_
              refine lv_topi (fun v8 ev8 => ?_)
              refine lv_iload hx hb dX12_walk_129 (lv_at hl 6 rfl) ?_
              refine lv_iadd hx hb dX12_walk_131 ?_
              refine lv_topi (fun v9 ev9 => ?_)
              have tv8 : v8.toInt = 11 * x22_2.toInt := by rw [ev8]; have z9 := pi_mul (x := (11 : Int32)) (y := x22_2); rw [k_11] at z9; exact z9 (by omega)
              have tv9 : v9.toInt = v8.toInt + x109_6.toInt := by rw [ev9]; exact pi_add (by omega)
              refine pa_i M V (sm_drawing S).1 (by rw [(sm_drawing S).2.1]; exact pi_in (by omega)) dX12_walk_132 ?_
              refine lv_topi (fun v10 ev10 => ?_)
              refine lv_aload_n hx hb dX12_walk_133 rfl (lv_at hl 0 rfl) ?_
              refine pg_r M V 12 81 (sm_this S) pC12 fk12_81 (sm_drawing S).2.2 lkF_X12_172 dX12_walk_134 ?_
              refine lv_bipush (v := 11) hx hb dX12_walk_137 (by decide) ?_
              refine lv_iload_n hx hb dX12_walk_139 rfl (lv_at hl 2 rfl) ?_
              refine lv_imul hx hb dX12_walk_140 ?_
              refine lv_topi (fun v11 ev11 => ?_)
              refine lv_bipush (v := 11) hx hb dX12_walk_141 (by decide) ?_
              refine lv_isub hx hb dX12_walk_143 ?_
              refine lv_topi (fun v12 ev12 => ?_)
              refine lv_iload hx hb dX12_walk_144 (lv_at hl 6 rfl) ?_
              refine lv_iadd hx hb dX12_walk_146 ?_
              refine lv_topi (fun v13 ev13 => ?_)
              have tv11 : v11.toInt = 11 * x22_2.toInt := by rw [ev11]; have z9 := pi_mul (x := (11 : Int32)) (y := x22_2); rw [k_11] at z9; exact z9 (by omega)
              have tv12 : v12.toInt = v11.toInt - 11 := by rw [ev12]; have z9 := pi_sub (x := v11) (y := (11 : Int32)); rw [k_11] at z9; exact z9 (by omega)
              have tv13 : v13.toInt = v12.toInt + x109_6.toInt := by rw [ev13]; exact pi_add (by omega)
              refine pa_i M V (sm_drawing S).1 (by rw [(sm_drawing S).2.1]; exact pi_in (by omega)) dX12_walk_147 ?_
              refine lv_topi (fun v14 ev14 => ?_)
              refine lv_icmp_ne (tgt := 155) hx hb dX12_walk_148 (by decide) (fun c_148 => ?_) (fun c_148 => ?_)
              · skip
                have c_148 := pi_ne c_148
                refine lv_iconst (v := 0) hx hb dX12_walk_155 (by decide) ?_
                exact J_156 (0 : Int32) _ _ _ _ V I (A.wk (by decide)) (lv_sub hl [0, 1, 2, 3, 4, 5, 6] rfl) (by omega) (by omega) (by omega) (by omega) (by omega) (by omega) (by omega) 
              · skip
                have c_148 := pi_eq.mp c_148
                refine lv_iconst (v := 1) hx hb dX12_walk_151 (by decide) ?_
                refine lv_goto (tgt := 156) hx hb dX12_walk_152 (by decide) ?_
                have k_1 : (1 : Int32).toInt = 1 := rfl
                exact J_156 (1 : Int32) _ _ _ _ V I (A.wk (by decide)) (lv_sub hl [0, 1, 2, 3, 4, 5, 6] rfl) (by omega) (by omega) (by omega) (by omega) (by omega) (by omega) (by omega) 
      have J_103 : ∀ (x103_3 : Int32) (x103_4 : Int32) (y103_0 : Int32) (hJ : pH) (H : Heap) (locs : List Loc) (ls : Array Slot), pV Z hJ s.heap H locs → Iv Z hJ → agr [(137, 84), (137, 85), (137, 86), (137, 87)] h hJ → lv_has ls 7 [(0, .ref (zB Z + 137)), (1, .int to), (2, .int x22_2), (3, .int x103_3), (4, .int x103_4)] → (0 ≤ to.toInt ∧ to.toInt ≤ 6999) → (0 ≤ x22_2.toInt ∧ x22_2.toInt ≤ 6999) → (0 ≤ x103_3.toInt ∧ x103_3.toInt ≤ 1) → (0 ≤ y103_0.toInt ∧ y103_0.toInt ≤ 1) → (y103_0.toInt = 1 → 1 ≤ x22_2.toInt) → W p l e (pRm 0 0 0 0) s m ([.ref (zB Z + 137), .int to] : List Value).toArray below meth c H locs 0 0 (MQ below (pQv Z (fun Z1 h1 => Z = Z1 ∧ Iv Z h1 ∧ agr [(137, 84), (137, 85), (137, 86), (137, 87)] h h1)) ([.ref (zB Z + 137), .int to] : List Value).toArray s 0 0 (pA (zB Z))) (F0 m 103 ls [.int y103_0]) := by
        intro x103_3 x103_4 y103_0 hJ H locs ls V I A hl g_103_1 g_103_2 g_103_3 gs_103_0 e103
        refine lv_istore (lv' := [(5, .int y103_0), (0, .ref (zB Z + 137)), (1, .int to), (2, .int x22_2), (3, .int x103_3), (4, .int x103_4)]) hx hb dX12_walk_103 hl (by decide) rfl (fun ls hl => ?_)
        refine lv_bipush (v := 6) hx hb dX12_walk_105 (by decide) ?_
        refine lv_istore (lv' := [(6, .int (6 : Int32)), (5, .int y103_0), (0, .ref (zB Z + 137)), (1, .int to), (2, .int x22_2), (3, .int x103_3), (4, .int x103_4)]) hx hb dX12_walk_107 hl (by decide) rfl (fun ls hl => ?_)
        have k_6 : (6 : Int32).toInt = 6 := rfl
        exact J_109 _ x103_3 x103_4 y103_0 (6 : Int32) _ _ _ _ V I (A.wk (by decide)) (lv_sub hl [2, 3, 4, 5, 6, 1, 0] rfl) (by omega) (by omega) (by omega) (by omega) (by omega) (by omega) (Nat.lt_succ_self _) 
      have J_102 : ∀ (x102_3 : Int32) (x102_4 : Int32) (hJ : pH) (H : Heap) (locs : List Loc) (ls : Array Slot), pV Z hJ s.heap H locs → Iv Z hJ → agr [(137, 84), (137, 85), (137, 86), (137, 87)] h hJ → lv_has ls 7 [(0, .ref (zB Z + 137)), (1, .int to), (2, .int x22_2), (3, .int x102_3), (4, .int x102_4)] → (0 ≤ to.toInt ∧ to.toInt ≤ 6999) → (0 ≤ x22_2.toInt ∧ x22_2.toInt ≤ 6999) → (0 ≤ x102_3.toInt ∧ x102_3.toInt ≤ 1) → W p l e (pRm 0 0 0 0) s m ([.ref (zB Z + 137), .int to] : List Value).toArray below meth c H locs 0 0 (MQ below (pQv Z (fun Z1 h1 => Z = Z1 ∧ Iv Z h1 ∧ agr [(137, 84), (137, 85), (137, 86), (137, 87)] h h1)) ([.ref (zB Z + 137), .int to] : List Value).toArray s 0 0 (pA (zB Z))) (F0 m 102 ls []) := by
        intro x102_3 x102_4 hJ H locs ls V I A hl g_102_1 g_102_2 g_102_3
        refine lv_iconst (v := 0) hx hb dX12_walk_102 (by decide) ?_
        have k_0 : (0 : Int32).toInt = 0 := rfl
        exact J_103 x102_3 x102_4 (0 : Int32) _ _ _ _ V I (A.wk (by decide)) (lv_sub hl [0, 1, 2, 3, 4] rfl) (by omega) (by omega) (by omega) (by omega) (by omega) 
      have J_72 : ∀ (x72_3 : Int32) (hJ : pH) (H : Heap) (locs : List Loc) (ls : Array Slot), pV Z hJ s.heap H locs → Iv Z hJ → agr [(137, 84), (137, 85), (137, 86), (137, 87)] h hJ → lv_has ls 7 [(0, .ref (zB Z + 137)), (1, .int to), (2, .int x22_2), (3, .int x72_3)] → (0 ≤ to.toInt ∧ to.toInt ≤ 6999) → (0 ≤ x22_2.toInt ∧ x22_2.toInt ≤ 6999) → (0 ≤ x72_3.toInt ∧ x72_3.toInt ≤ 1) → (x72_3.toInt = 0 → 1 ≤ x22_2.toInt) → W p l e (pRm 0 0 0 0) s m ([.ref (zB Z + 137), .int to] : List Value).toArray below meth c H locs 0 0 (MQ below (pQv Z (fun Z1 h1 => Z = Z1 ∧ Iv Z h1 ∧ agr [(137, 84), (137, 85), (137, 86), (137, 87)] h h1)) ([.ref (zB Z + 137), .int to] : List Value).toArray s 0 0 (pA (zB Z))) (F0 m 72 ls []) := by
        intro x72_3 hJ H locs ls V I A hl g_72_1 g_72_2 g_72_3 e72
        refine lv_iconst (v := 4) hx hb dX12_walk_72 (by decide) ?_
        refine lv_iload_n hx hb dX12_walk_73 rfl (lv_at hl 2 rfl) ?_
        refine lv_imul hx hb dX12_walk_74 ?_
        refine lv_topi (fun v15 ev15 => ?_)
        refine lv_aload_n hx hb dX12_walk_75 rfl (lv_at hl 0 rfl) ?_
        refine pg_i M V 12 84 (sm_this S) pC12 fk12_84 lkF_X12_397 dX12_walk_76 ?_
        refine lv_topi (fun v16 ev16 => ?_)
        refine lv_isub hx hb dX12_walk_79 ?_
        refine lv_topi (fun v17 ev17 => ?_)
        refine lv_istore (lv' := [(4, .int v17), (0, .ref (zB Z + 137)), (1, .int to), (2, .int x22_2), (3, .int x72_3)]) hx hb dX12_walk_80 hl (by decide) rfl (fun ls hl => ?_)
        refine lv_iload_n hx hb dX12_walk_82 rfl (lv_at hl 4 rfl) ?_
        refine lv_if_ne (tgt := 102) hx hb dX12_walk_83 (by decide) (fun c_83 => ?_) (fun c_83 => ?_)
        · skip
          have k_0 : (0 : Int32).toInt = 0 := rfl
          have c_83 := pi_ne c_83
          exact J_102 x72_3 v17 _ _ _ _ V I (A.wk (by decide)) (lv_sub hl [1, 2, 3, 4, 0] rfl) (by omega) (by omega) (by omega) 
        · skip
          have k_0 : (0 : Int32).toInt = 0 := rfl
          have c_83 := pi_eq.mp c_83
          refine lv_iload hx hb dX12_walk_86 (lv_at hl 0 rfl) ?_
          refine lv_aload_n hx hb dX12_walk_88 rfl (lv_at hl 1 rfl) ?_
          refine pg_i M V 12 86 (sm_this S) pC12 fk12_86 lkF_X12_403 dX12_walk_89 ?_
          refine lv_topi (fun v18 ev18 => ?_)
          refine lv_isub hx hb dX12_walk_92 ?_
          refine lv_topi (fun v19 ev19 => ?_)
          refine lv_bipush (v := 64) hx hb dX12_walk_93 (by decide) ?_
          refine lv_icmp_ge (tgt := 102) hx hb dX12_walk_95 (by decide) (fun c_95 => ?_) (fun c_95 => ?_)
          · skip
            have k_64 : (64 : Int32).toInt = 64 := rfl
            have c_95 := pi_le.mp c_95
            exact J_102 x72_3 v17 _ _ _ _ V I (A.wk (by decide)) (lv_sub hl [1, 2, 3, 4, 0] rfl) (by omega) (by omega) (by omega) 
          · skip
            have k_64 : (64 : Int32).toInt = 64 := rfl
            have c_95 := pi_le' c_95
            refine lv_iconst (v := 1) hx hb dX12_walk_98 (by decide) ?_
            refine lv_goto (tgt := 103) hx hb dX12_walk_99 (by decide) ?_
            have k_1 : (1 : Int32).toInt = 1 := rfl
            exact J_103 x72_3 v17 (1 : Int32) _ _ _ _ V I (A.wk (by decide)) (lv_sub hl [1, 2, 3, 4, 0] rfl) (by omega) (by omega) (by omega) (by omega) (by omega) 
      have J_60 : ∀ (y60_0 : Int32) (hJ : pH) (H : Heap) (locs : List Loc) (ls : Array Slot), pV Z hJ s.heap H locs → Iv Z hJ → agr [(137, 84), (137, 85), (137, 86), (137, 87)] h hJ → lv_has ls 7 [(0, .ref (zB Z + 137)), (1, .int to), (2, .int x22_2)] → (0 ≤ to.toInt ∧ to.toInt ≤ 6999) → (0 ≤ x22_2.toInt ∧ x22_2.toInt ≤ 6999) → (0 ≤ y60_0.toInt ∧ y60_0.toInt ≤ 1) → (y60_0.toInt = 0 → 1 ≤ x22_2.toInt) → W p l e (pRm 0 0 0 0) s m ([.ref (zB Z + 137), .int to] : List Value).toArray below meth c H locs 0 0 (MQ below (pQv Z (fun Z1 h1 => Z = Z1 ∧ Iv Z h1 ∧ agr [(137, 84), (137, 85), (137, 86), (137, 87)] h h1)) ([.ref (zB Z + 137), .int to] : List Value).toArray s 0 0 (pA (zB Z))) (F0 m 60 ls [.int y60_0]) := by
        intro y60_0 hJ H locs ls V I A hl g_60_1 g_60_2 gs_60_0 e60
        refine lv_istore_n (lv' := [(3, .int y60_0), (0, .ref (zB Z + 137)), (1, .int to), (2, .int x22_2)]) hx hb dX12_walk_60 rfl hl (by decide) rfl (fun ls hl => ?_)
        refine lv_iload_n hx hb dX12_walk_61 rfl (lv_at hl 0 rfl) ?_
        refine lv_if_eq (tgt := 72) hx hb dX12_walk_62 (by decide) (fun c_62 => ?_) (fun c_62 => ?_)
        · skip
          have k_0 : (0 : Int32).toInt = 0 := rfl
          have c_62 := pi_eq.mp c_62
          exact J_72 y60_0 _ _ _ _ V I (A.wk (by decide)) (lv_sub hl [1, 2, 3, 0] rfl) (by omega) (by omega) (by omega) (by omega) 
        · skip
          have k_0 : (0 : Int32).toInt = 0 := rfl
          have c_62 := pi_ne c_62
          refine lv_aload_n hx hb dX12_walk_65 rfl (lv_at hl 1 rfl) ?_
          refine lv_iconst (v := 4) hx hb dX12_walk_66 (by decide) ?_
          refine lv_iload_n hx hb dX12_walk_67 rfl (lv_at hl 3 rfl) ?_
          refine lv_imul hx hb dX12_walk_68 ?_
          refine lv_topi (fun v20 ev20 => ?_)
          refine pp_i M V 12 84 (sm_this S) pC12 fk12_84 rfl lkF_X12_397 ⟨rfl, rfl⟩ dX12_walk_69 (fun H locs V => ?_)
          have A := A.up (o := 137) (k := 84) (v := v20) (by decide)
          have I := I.up (k := 84) (v := v20) (sm_this S) (pi_full _)
          exact J_72 y60_0 _ _ _ _ V I (A.wk (by decide)) (lv_sub hl [1, 2, 3, 0] rfl) (by omega) (by omega) (by omega) (by omega) 
      have J_55 : ∀ (hJ : pH) (H : Heap) (locs : List Loc) (ls : Array Slot), pV Z hJ s.heap H locs → Iv Z hJ → agr [(137, 84), (137, 85), (137, 86), (137, 87)] h hJ → lv_has ls 7 [(0, .ref (zB Z + 137)), (1, .int to), (2, .int x22_2)] → (0 ≤ to.toInt ∧ to.toInt ≤ 6999) → (0 ≤ x22_2.toInt ∧ x22_2.toInt ≤ 6999) → W p l e (pRm 0 0 0 0) s m ([.ref (zB Z + 137), .int to] : List Value).toArray below meth c H locs 0 0 (MQ below (pQv Z (fun Z1 h1 => Z = Z1 ∧ Iv Z h1 ∧ agr [(137, 84), (137, 85), (137, 86), (137, 87)] h h1)) ([.ref (zB Z + 137), .int to] : List Value).toArray s 0 0 (pA (zB Z))) (F0 m 55 ls []) := by
        intro hJ H locs ls V I A hl g_55_1 g_55_2
        refine lv_iconst (v := 1) hx hb dX12_walk_55 (by decide) ?_
        refine lv_goto (tgt := 60) hx hb dX12_walk_56 (by decide) ?_
        have k_1 : (1 : Int32).toInt = 1 := rfl
        exact J_60 (1 : Int32) _ _ _ _ V I (A.wk (by decide)) (lv_sub hl [0, 1, 2] rfl) (by omega) (by omega) (by omega) (by omega) 
      refine lv_iload_n hx hb dX12_walk_22 rfl (lv_at hl 2 rfl) ?_
      refine lv_iload_n hx hb dX12_walk_23 rfl (lv_at hl 1 rfl) ?_
      refine lv_icmp_gt (tgt := 226) hx hb dX12_walk_24 (by decide) (fun c_24 => ?_) (fun c_24 => ?_)
      · skip
        have c_24 := pi_lt.mp c_24
        exact pe_v M V rfl rfl hr hlk ⟨rfl, I, A.wk (by decide)⟩ ⟨Nat.le_refl _, Nat.le_refl _⟩ dX12_walk_226
      · skip
        have c_24 := pi_lt' c_24
        refine lv_iload_n hx hb dX12_walk_27 rfl (lv_at hl 2 rfl) ?_
        refine lv_if_eq (tgt := 55) hx hb dX12_walk_28 (by decide) (fun c_28 => ?_) (fun c_28 => ?_)
        · skip
          have k_0 : (0 : Int32).toInt = 0 := rfl
          have c_28 := pi_eq.mp c_28
          exact J_55 _ _ _ _ V I (A.wk (by decide)) (lv_sub hl [0, 1, 2] rfl) (by omega) (by omega) 
        · skip
          have k_0 : (0 : Int32).toInt = 0 := rfl
          have c_28 := pi_ne c_28
          refine lv_aload_n hx hb dX12_walk_31 rfl (lv_at hl 0 rfl) ?_
          refine pg_r M V 12 81 (sm_this S) pC12 fk12_81 (sm_drawing S).2.2 lkF_X12_172 dX12_walk_32 ?_
          refine lv_bipush (v := 11) hx hb dX12_walk_35 (by decide) ?_
          refine lv_iload_n hx hb dX12_walk_37 rfl (lv_at hl 2 rfl) ?_
          refine lv_imul hx hb dX12_walk_38 ?_
          refine lv_topi (fun v21 ev21 => ?_)
          have k_11 : (11 : Int32).toInt = 11 := rfl
          have tv21 : v21.toInt = 11 * x22_2.toInt := by rw [ev21]; have z9 := pi_mul (x := (11 : Int32)) (y := x22_2); rw [k_11] at z9; exact z9 (by omega)
          refine pa_i M V (sm_drawing S).1 (by rw [(sm_drawing S).2.1]; exact pi_in (by omega)) dX12_walk_39 ?_
          refine lv_topi (fun v22 ev22 => ?_)
          refine lv_aload_n hx hb dX12_walk_40 rfl (lv_at hl 0 rfl) ?_
          refine pg_r M V 12 81 (sm_this S) pC12 fk12_81 (sm_drawing S).2.2 lkF_X12_172 dX12_walk_41 ?_
          refine lv_bipush (v := 11) hx hb dX12_walk_44 (by decide) ?_
          refine lv_iload_n hx hb dX12_walk_46 rfl (lv_at hl 2 rfl) ?_
          refine lv_imul hx hb dX12_walk_47 ?_
          refine lv_topi (fun v23 ev23 => ?_)
          refine lv_bipush (v := 11) hx hb dX12_walk_48 (by decide) ?_
          refine lv_isub hx hb dX12_walk_50 ?_
          refine lv_topi (fun v24 ev24 => ?_)
          have tv23 : v23.toInt = 11 * x22_2.toInt := by rw [ev23]; have z9 := pi_mul (x := (11 : Int32)) (y := x22_2); rw [k_11] at z9; exact z9 (by omega)
          have tv24 : v24.toInt = v23.toInt - 11 := by rw [ev24]; have z9 := pi_sub (x := v23) (y := (11 : Int32)); rw [k_11] at z9; exact z9 (by omega)
          refine pa_i M V (sm_drawing S).1 (by rw [(sm_drawing S).2.1]; exact pi_in (by omega)) dX12_walk_51 ?_
          refine lv_topi (fun v25 ev25 => ?_)
          refine lv_icmp_eq (tgt := 59) hx hb dX12_walk_52 (by decide) (fun c_52 => ?_) (fun c_52 => ?_)
          · skip
            have c_52 := pi_eq.mp c_52
            refine lv_iconst (v := 0) hx hb dX12_walk_59 (by decide) ?_
            exact J_60 (0 : Int32) _ _ _ _ V I (A.wk (by decide)) (lv_sub hl [0, 1, 2] rfl) (by omega) (by omega) (by omega) (by omega) 
          · skip
            have c_52 := pi_ne c_52
            exact J_55 _ _ _ _ V I (A.wk (by decide)) (lv_sub hl [0, 1, 2] rfl) (by omega) (by omega) 
  refine lv_aload_n hx hb dX12_walk_0 rfl (lv_at hl 0 rfl) ?_
  refine lv_iconst (v := 0) hx hb dX12_walk_1 (by decide) ?_
  refine pp_i M V 12 84 (sm_this S) pC12 fk12_84 rfl lkF_X12_397 ⟨rfl, rfl⟩ dX12_walk_2 (fun H locs V => ?_)
  have A := A.wk (l3 := [(137, 84)]) (by decide)
  have A := A.up (o := 137) (k := 84) (v := (0 : Int32)) (by decide)
  have I := I.up (k := 84) (v := (0 : Int32)) (sm_this S) (pi_full _)
  refine lv_aload_n hx hb dX12_walk_5 rfl (lv_at hl 0 rfl) ?_
  refine lv_iconst (v := (-1)) hx hb dX12_walk_6 (by decide) ?_
  refine pp_i M V 12 85 (sm_this S) pC12 fk12_85 rfl lkF_X12_400 ⟨rfl, rfl⟩ dX12_walk_7 (fun H locs V => ?_)
  have A := A.wk (l3 := [(137, 84), (137, 85)]) (by decide)
  have A := A.up (o := 137) (k := 85) (v := (-1 : Int32)) (by decide)
  have I := I.up (k := 85) (v := (-1 : Int32)) (sm_this S) (pi_full _)
  refine lv_aload_n hx hb dX12_walk_10 rfl (lv_at hl 0 rfl) ?_
  refine lv_iconst (v := 0) hx hb dX12_walk_11 (by decide) ?_
  refine pp_i M V 12 86 (sm_this S) pC12 fk12_86 rfl lkF_X12_403 ⟨rfl, rfl⟩ dX12_walk_12 (fun H locs V => ?_)
  have A := A.wk (l3 := [(137, 84), (137, 85), (137, 86)]) (by decide)
  have A := A.up (o := 137) (k := 86) (v := (0 : Int32)) (by decide)
  have I := I.up (k := 86) (v := (0 : Int32)) (sm_this S) (pi_full _)
  refine lv_aload_n hx hb dX12_walk_15 rfl (lv_at hl 0 rfl) ?_
  refine lv_iconst (v := 0) hx hb dX12_walk_16 (by decide) ?_
  refine pp_i M V 12 87 (sm_this S) pC12 fk12_87 rfl lkF_X12_406 ⟨rfl, rfl⟩ dX12_walk_17 (fun H locs V => ?_)
  have A := A.wk (l3 := [(137, 84), (137, 85), (137, 86), (137, 87)]) (by decide)
  have A := A.up (o := 137) (k := 87) (v := (0 : Int32)) (by decide)
  have I := I.up (k := 87) (v := (0 : Int32)) (sm_this S) (pi_full _)
  refine lv_iconst (v := 0) hx hb dX12_walk_20 (by decide) ?_
  refine lv_istore_n (lv' := [(2, .int (0 : Int32)), (0, .ref (zB Z + 137)), (1, .int to)]) hx hb dX12_walk_21 rfl hl (by decide) rfl (fun ls hl => ?_)
  have k_0 : (0 : Int32).toInt = 0 := rfl
  exact J_22 _ (0 : Int32) _ _ _ _ V I (A.wk (by decide)) (lv_sub hl [1, 2, 0] rfl) (by omega) (by omega) (Nat.lt_succ_self _) 
