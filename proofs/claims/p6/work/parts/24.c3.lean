theorem dX10_letterOf_0 : decode cX10_letterOf 0 = .ok (.aload_n 0, 1) := by decide +kernel
theorem dX10_letterOf_1 : decode cX10_letterOf 1 = .ok (.iload_n 1, 1) := by decide +kernel
theorem dX10_letterOf_2 : decode cX10_letterOf 2 = .ok (.invokevirtual 31, 3) := by decide +kernel
theorem dX10_letterOf_5 : decode cX10_letterOf 5 = .ok (.istore_n 3, 1) := by decide +kernel
theorem dX10_letterOf_6 : decode cX10_letterOf 6 = .ok (.iload_n 3, 1) := by decide +kernel
theorem dX10_letterOf_7 : decode cX10_letterOf 7 = .ok (.invokestatic 39, 3) := by decide +kernel
theorem dX10_letterOf_10 : decode cX10_letterOf 10 = .ok (.ifCond .eq 24, 3) := by decide +kernel
theorem dX10_letterOf_13 : decode cX10_letterOf 13 = .ok (.iload_n 2, 1) := by decide +kernel
theorem dX10_letterOf_14 : decode cX10_letterOf 14 = .ok (.iconst 0, 1) := by decide +kernel
theorem dX10_letterOf_15 : decode cX10_letterOf 15 = .ok (.aload_n 0, 1) := by decide +kernel
theorem dX10_letterOf_16 : decode cX10_letterOf 16 = .ok (.getfield 18, 3) := by decide +kernel
theorem dX10_letterOf_19 : decode cX10_letterOf 19 = .ok (.iload_n 3, 1) := by decide +kernel
theorem dX10_letterOf_20 : decode cX10_letterOf 20 = .ok (.iaload, 1) := by decide +kernel
theorem dX10_letterOf_21 : decode cX10_letterOf 21 = .ok (.bipush 12, 2) := by decide +kernel
theorem dX10_letterOf_23 : decode cX10_letterOf 23 = .ok (.invokestatic 53, 3) := by decide +kernel
theorem dX10_letterOf_26 : decode cX10_letterOf 26 = .ok (.iconst 1, 1) := by decide +kernel
theorem dX10_letterOf_27 : decode cX10_letterOf 27 = .ok (.isub, 1) := by decide +kernel
theorem dX10_letterOf_28 : decode cX10_letterOf 28 = .ok (.invokestatic 35, 3) := by decide +kernel
theorem dX10_letterOf_31 : decode cX10_letterOf 31 = .ok (.ifCond .ne 5, 3) := by decide +kernel
theorem dX10_letterOf_34 : decode cX10_letterOf 34 = .ok (.iconst (-1), 1) := by decide +kernel
theorem dX10_letterOf_35 : decode cX10_letterOf 35 = .ok (.ireturn, 1) := by decide +kernel
theorem dX10_letterOf_36 : decode cX10_letterOf 36 = .ok (.aload_n 0, 1) := by decide +kernel
theorem dX10_letterOf_37 : decode cX10_letterOf 37 = .ok (.getfield 24, 3) := by decide +kernel
theorem dX10_letterOf_40 : decode cX10_letterOf 40 = .ok (.iload_n 3, 1) := by decide +kernel
theorem dX10_letterOf_41 : decode cX10_letterOf 41 = .ok (.bipush 12, 2) := by decide +kernel
theorem dX10_letterOf_43 : decode cX10_letterOf 43 = .ok (.imul, 1) := by decide +kernel
theorem dX10_letterOf_44 : decode cX10_letterOf 44 = .ok (.iload_n 2, 1) := by decide +kernel
theorem dX10_letterOf_45 : decode cX10_letterOf 45 = .ok (.iadd, 1) := by decide +kernel
theorem dX10_letterOf_46 : decode cX10_letterOf 46 = .ok (.iaload, 1) := by decide +kernel
theorem dX10_letterOf_47 : decode cX10_letterOf 47 = .ok (.ireturn, 1) := by decide +kernel
set_option maxHeartbeats 4000000 in
set_option maxRecDepth 100000 in
theorem m_X10_letterOf (l : Launch) {Z : pZ} (S : pSh Z) {h : pH} (I : Iv Z h) (id : Int32) (k : Int32)  : pMet l yX10_letterOf cX10_letterOf 4 (some .int) 2 0 0 42 Z h [.ref (zB Z + 123), .int id, .int k] (pQi Z (fun r Z1 h1 => Z = Z1 ∧ Iv Z h1 ∧ agrD [] h h1)) := by
  refine pOfW (lv := [(0, .ref (zB Z + 123)), (1, .int id), (2, .int k)]) (by decide) (Nat.le_of_ble_eq_true rfl) rfl ?_
  intro p e s m below meth c ls M hr hlk hnm V hl
  have hx := M.1.1
  have hb := M.1.2.1
  have A : agrD [] h h := agrD.rf
  have J_34 : ∀ (x34_3 : Int32) (hJ : pH) (H : Heap) (locs : List Loc) (ls : Array Slot), pV Z hJ s.heap H locs → Iv Z hJ → agrD [] h hJ → lv_has ls 4 [(0, .ref (zB Z + 123)), (1, .int id), (2, .int k), (3, .int x34_3)] → (-1 ≤ x34_3.toInt ∧ x34_3.toInt ≤ 39) → W p l e (pRm 2 0 0 42) s m ([.ref (zB Z + 123), .int id, .int k] : List Value).toArray below meth c H locs 0 0 (MQ below (pQi Z (fun r Z1 h1 => Z = Z1 ∧ Iv Z h1 ∧ agrD [] h h1)) ([.ref (zB Z + 123), .int id, .int k] : List Value).toArray s 0 0 (pA (zB Z))) (F0 m 34 ls []) := by
    intro x34_3 hJ H locs ls V I A hl g_34_3
    refine lv_iconst (v := (-1)) hx hb dX10_letterOf_34 (by decide) ?_
    have k_m1 : (-1 : Int32).toInt = -1 := rfl
    exact pe_i M V rfl rfl hr hlk rfl ⟨rfl, I, A.wk (by decide)⟩ ⟨Nat.le_refl _, Nat.le_refl _⟩ dX10_letterOf_35
  refine lv_aload_n hx hb dX10_letterOf_0 rfl (lv_at hl 0 rfl) ?_
  refine lv_iload_n hx hb dX10_letterOf_1 rfl (lv_at hl 1 rfl) ?_
  refine pk_i (pr_V M V (m_X10_find l S I id ) km_X10_find (c_is_123 S) pC10 lkM_X10_31 rfl hl.1 rfl (Nat.le_of_ble_eq_true rfl) ⟨Nat.le_of_ble_eq_true rfl, Nat.le_of_ble_eq_true rfl⟩ ⟨Nat.le_of_ble_eq_true rfl, Nat.le_of_ble_eq_true rfl⟩ dX10_letterOf_2) V (fun r1 Zr1 hr1 H locs pr1 _ _ V => ?_)
  obtain ⟨rfl, I, pA_r1, fr1_0⟩ := pr1
  have A := A.tr pA_r1 (by decide)
  refine lv_istore_n (lv' := [(3, .int r1), (0, .ref (zB Z + 123)), (1, .int id), (2, .int k)]) hx hb dX10_letterOf_5 rfl hl (by decide) rfl (fun ls hl => ?_)
  refine lv_iload_n hx hb dX10_letterOf_6 rfl (lv_at hl 0 rfl) ?_
  refine pk_i (pr_S M V (m_X10_isSlot l (Z := Z) (h := _) r1) km_X10_isSlot lkM_X10_39 rfl hl.1 rfl (Nat.le_of_ble_eq_true rfl) ⟨Nat.le_of_ble_eq_true rfl, Nat.le_of_ble_eq_true rfl⟩ ⟨Nat.le_of_ble_eq_true rfl, Nat.le_of_ble_eq_true rfl⟩ dX10_letterOf_7) V (fun r2 Zr2 hr2 H locs pr2 _ _ V => ?_)
  obtain ⟨rfl, rfl, fr2_0⟩ := pr2
  refine lv_if_eq (tgt := 34) hx hb dX10_letterOf_10 (by decide) (fun c_10 => ?_) (fun c_10 => ?_)
  · skip
    have k_0 : (0 : Int32).toInt = 0 := rfl
    have c_10 := pi_eq.mp c_10
    exact J_34 r1 _ _ _ _ V I (A.wk (by decide)) (lv_sub hl [1, 2, 3, 0] rfl) (by omega) 
  · skip
    have k_0 : (0 : Int32).toInt = 0 := rfl
    have c_10 := pi_ne c_10
    refine lv_iload_n hx hb dX10_letterOf_13 rfl (lv_at hl 3 rfl) ?_
    refine lv_iconst (v := 0) hx hb dX10_letterOf_14 (by decide) ?_
    refine lv_aload_n hx hb dX10_letterOf_15 rfl (lv_at hl 1 rfl) ?_
    refine pg_r M V 10 2 (c_is_123 S) pC10 fk10_2 (c_r_123_2 S) lkF_X10_18 dX10_letterOf_16 ?_
    refine lv_iload_n hx hb dX10_letterOf_19 rfl (lv_at hl 0 rfl) ?_
    refine pa_i M V (c_is_126 S) (by rw [c_n_126 S]; exact pi_in (by omega)) dX10_letterOf_20 ?_
    refine lv_topi (fun v3 ev3 => ?_)
    have tv3 : 0 ≤ v3.toInt ∧ v3.toInt ≤ 12 := by rw [ev3]; exact I.get (c_is_126 S) _
    refine lv_bipush (v := 12) hx hb dX10_letterOf_21 (by decide) ?_
    have k_12 : (12 : Int32).toInt = 12 := rfl
    refine pm_min M hl.1 lkJ_X10_53 ⟨Nat.le_of_ble_eq_true rfl, Nat.le_of_ble_eq_true rfl⟩ ⟨Nat.zero_le _, Nat.zero_le _⟩ dX10_letterOf_23 (fun r4 fr4 => ?_)
    refine lv_iconst (v := 1) hx hb dX10_letterOf_26 (by decide) ?_
    refine lv_isub hx hb dX10_letterOf_27 ?_
    refine lv_topi (fun v5 ev5 => ?_)
    have k_1 : (1 : Int32).toInt = 1 := rfl
    have tv5 : v5.toInt = r4.toInt - 1 := by rw [ev5]; have z9 := pi_sub (x := r4) (y := (1 : Int32)); rw [k_1] at z9; exact z9 (by omega)
    refine pk_i (pr_SN M V (m_X11_isWithin l (Z := Z) (h := _) k (0 : Int32) v5) km_X11_isWithin lkN_X10_35 rfl hl.1 rfl (Nat.le_of_ble_eq_true rfl) ⟨Nat.le_of_ble_eq_true rfl, Nat.le_of_ble_eq_true rfl⟩ ⟨Nat.le_of_ble_eq_true rfl, Nat.le_of_ble_eq_true rfl⟩ dX10_letterOf_28) V (fun r6 Zr6 hr6 H locs pr6 _ _ V => ?_)
    obtain ⟨rfl, rfl, fr6_0⟩ := pr6
    refine lv_if_ne (tgt := 36) hx hb dX10_letterOf_31 (by decide) (fun c_31 => ?_) (fun c_31 => ?_)
    · skip
      have c_31 := pi_ne c_31
      refine lv_aload_n hx hb dX10_letterOf_36 rfl (lv_at hl 1 rfl) ?_
      refine pg_r M V 10 4 (c_is_123 S) pC10 fk10_4 (c_r_123_4 S) lkF_X10_24 dX10_letterOf_37 ?_
      refine lv_iload_n hx hb dX10_letterOf_40 rfl (lv_at hl 0 rfl) ?_
      refine lv_bipush (v := 12) hx hb dX10_letterOf_41 (by decide) ?_
      refine lv_imul hx hb dX10_letterOf_43 ?_
      refine lv_topi (fun v7 ev7 => ?_)
      refine lv_iload_n hx hb dX10_letterOf_44 rfl (lv_at hl 3 rfl) ?_
      refine lv_iadd hx hb dX10_letterOf_45 ?_
      refine lv_topi (fun v8 ev8 => ?_)
      have tv7 : v7.toInt = r1.toInt * 12 := by rw [ev7]; have z9 := pi_mul (x := r1) (y := (12 : Int32)); rw [k_12] at z9; exact z9 (by omega)
      have tv8 : v8.toInt = v7.toInt + k.toInt := by rw [ev8]; exact pi_add (by omega)
      refine pa_i M V (c_is_128 S) (by rw [c_n_128 S]; exact pi_in (by omega)) dX10_letterOf_46 ?_
      refine lv_topi (fun v9 ev9 => ?_)
      exact pe_i M V rfl rfl hr hlk rfl ⟨rfl, I, A.wk (by decide)⟩ ⟨Nat.le_refl _, Nat.le_refl _⟩ dX10_letterOf_47
    · skip
      have c_31 := pi_eq.mp c_31
      exact J_34 r1 _ _ _ _ V I (A.wk (by decide)) (lv_sub hl [1, 2, 3, 0] rfl) (by omega) 
theorem dX10_moveCaret_0 : decode cX10_moveCaret 0 = .ok (.aload_n 2, 1) := by decide +kernel
theorem dX10_moveCaret_1 : decode cX10_moveCaret 1 = .ok (.iconst 5, 1) := by decide +kernel
theorem dX10_moveCaret_2 : decode cX10_moveCaret 2 = .ok (.invokevirtual 68, 3) := by decide +kernel
theorem dX10_moveCaret_5 : decode cX10_moveCaret 5 = .ok (.ifCond .eq 10, 3) := by decide +kernel
theorem dX10_moveCaret_8 : decode cX10_moveCaret 8 = .ok (.aload_n 0, 1) := by decide +kernel
theorem dX10_moveCaret_9 : decode cX10_moveCaret 9 = .ok (.getfield 21, 3) := by decide +kernel
theorem dX10_moveCaret_12 : decode cX10_moveCaret 12 = .ok (.iload_n 1, 1) := by decide +kernel
theorem dX10_moveCaret_13 : decode cX10_moveCaret 13 = .ok (.iconst 0, 1) := by decide +kernel
theorem dX10_moveCaret_14 : decode cX10_moveCaret 14 = .ok (.iastore, 1) := by decide +kernel
theorem dX10_moveCaret_15 : decode cX10_moveCaret 15 = .ok (.aload_n 2, 1) := by decide +kernel
theorem dX10_moveCaret_16 : decode cX10_moveCaret 16 = .ok (.iconst 2, 1) := by decide +kernel
theorem dX10_moveCaret_17 : decode cX10_moveCaret 17 = .ok (.invokevirtual 68, 3) := by decide +kernel
theorem dX10_moveCaret_20 : decode cX10_moveCaret 20 = .ok (.ifCond .eq 22, 3) := by decide +kernel
theorem dX10_moveCaret_23 : decode cX10_moveCaret 23 = .ok (.aload_n 0, 1) := by decide +kernel
theorem dX10_moveCaret_24 : decode cX10_moveCaret 24 = .ok (.getfield 21, 3) := by decide +kernel
theorem dX10_moveCaret_27 : decode cX10_moveCaret 27 = .ok (.iload_n 1, 1) := by decide +kernel
theorem dX10_moveCaret_28 : decode cX10_moveCaret 28 = .ok (.iaload, 1) := by decide +kernel
theorem dX10_moveCaret_29 : decode cX10_moveCaret 29 = .ok (.ifCond .le 13, 3) := by decide +kernel
theorem dX10_moveCaret_32 : decode cX10_moveCaret 32 = .ok (.aload_n 0, 1) := by decide +kernel
theorem dX10_moveCaret_33 : decode cX10_moveCaret 33 = .ok (.getfield 21, 3) := by decide +kernel
theorem dX10_moveCaret_36 : decode cX10_moveCaret 36 = .ok (.iload_n 1, 1) := by decide +kernel
theorem dX10_moveCaret_37 : decode cX10_moveCaret 37 = .ok (.dup2, 1) := by decide +kernel
theorem dX10_moveCaret_38 : decode cX10_moveCaret 38 = .ok (.iaload, 1) := by decide +kernel
theorem dX10_moveCaret_39 : decode cX10_moveCaret 39 = .ok (.iconst 1, 1) := by decide +kernel
theorem dX10_moveCaret_40 : decode cX10_moveCaret 40 = .ok (.isub, 1) := by decide +kernel
theorem dX10_moveCaret_41 : decode cX10_moveCaret 41 = .ok (.iastore, 1) := by decide +kernel
theorem dX10_moveCaret_42 : decode cX10_moveCaret 42 = .ok (.aload_n 2, 1) := by decide +kernel
theorem dX10_moveCaret_43 : decode cX10_moveCaret 43 = .ok (.iconst 3, 1) := by decide +kernel
theorem dX10_moveCaret_44 : decode cX10_moveCaret 44 = .ok (.invokevirtual 68, 3) := by decide +kernel
theorem dX10_moveCaret_47 : decode cX10_moveCaret 47 = .ok (.ifCond .eq 28, 3) := by decide +kernel
theorem dX10_moveCaret_50 : decode cX10_moveCaret 50 = .ok (.aload_n 0, 1) := by decide +kernel
theorem dX10_moveCaret_51 : decode cX10_moveCaret 51 = .ok (.getfield 21, 3) := by decide +kernel
theorem dX10_moveCaret_54 : decode cX10_moveCaret 54 = .ok (.iload_n 1, 1) := by decide +kernel
theorem dX10_moveCaret_55 : decode cX10_moveCaret 55 = .ok (.iaload, 1) := by decide +kernel
theorem dX10_moveCaret_56 : decode cX10_moveCaret 56 = .ok (.aload_n 0, 1) := by decide +kernel
theorem dX10_moveCaret_57 : decode cX10_moveCaret 57 = .ok (.getfield 18, 3) := by decide +kernel
theorem dX10_moveCaret_60 : decode cX10_moveCaret 60 = .ok (.iload_n 1, 1) := by decide +kernel
theorem dX10_moveCaret_61 : decode cX10_moveCaret 61 = .ok (.iaload, 1) := by decide +kernel
theorem dX10_moveCaret_62 : decode cX10_moveCaret 62 = .ok (.if_icmp .ge 13, 3) := by decide +kernel
theorem dX10_moveCaret_65 : decode cX10_moveCaret 65 = .ok (.aload_n 0, 1) := by decide +kernel
theorem dX10_moveCaret_66 : decode cX10_moveCaret 66 = .ok (.getfield 21, 3) := by decide +kernel
theorem dX10_moveCaret_69 : decode cX10_moveCaret 69 = .ok (.iload_n 1, 1) := by decide +kernel
theorem dX10_moveCaret_70 : decode cX10_moveCaret 70 = .ok (.dup2, 1) := by decide +kernel
theorem dX10_moveCaret_71 : decode cX10_moveCaret 71 = .ok (.iaload, 1) := by decide +kernel
theorem dX10_moveCaret_72 : decode cX10_moveCaret 72 = .ok (.iconst 1, 1) := by decide +kernel
theorem dX10_moveCaret_73 : decode cX10_moveCaret 73 = .ok (.iadd, 1) := by decide +kernel
theorem dX10_moveCaret_74 : decode cX10_moveCaret 74 = .ok (.iastore, 1) := by decide +kernel
theorem dX10_moveCaret_75 : decode cX10_moveCaret 75 = .ok (.return_, 1) := by decide +kernel
set_option maxHeartbeats 4000000 in
set_option maxRecDepth 100000 in
theorem m_X10_moveCaret (l : Launch) {Z : pZ} (S : pSh Z) {h : pH} (I : Iv Z h) (slot : Int32) (hsl : 0 ≤ slot.toInt ∧ slot.toInt ≤ 39) : pMet l yX10_moveCaret cX10_moveCaret 3 none 2 0 0 43 Z h [.ref (zB Z + 123), .int slot, .ref (zB Z + 1)] (pQv Z (fun Z1 h1 => Z = Z1 ∧ Iv Z h1 ∧ agrD [(127, 1000)] h h1)) := by
  refine pOfW (lv := [(0, .ref (zB Z + 123)), (1, .int slot), (2, .ref (zB Z + 1))]) (by decide) (Nat.le_of_ble_eq_true rfl) rfl ?_
  intro p e s m below meth c ls M hr hlk hnm V hl
  have hx := M.1.1
  have hb := M.1.2.1
  have A : agrD [] h h := agrD.rf
  have J_75 : ∀ (hJ : pH) (H : Heap) (locs : List Loc) (ls : Array Slot), pV Z hJ s.heap H locs → Iv Z hJ → agrD [(127, 1000)] h hJ → lv_has ls 3 [(0, .ref (zB Z + 123)), (1, .int slot), (2, .ref (zB Z + 1))] → (0 ≤ slot.toInt ∧ slot.toInt ≤ 39) → W p l e (pRm 2 0 0 43) s m ([.ref (zB Z + 123), .int slot, .ref (zB Z + 1)] : List Value).toArray below meth c H locs 0 0 (MQ below (pQv Z (fun Z1 h1 => Z = Z1 ∧ Iv Z h1 ∧ agrD [(127, 1000)] h h1)) ([.ref (zB Z + 123), .int slot, .ref (zB Z + 1)] : List Value).toArray s 0 0 (pA (zB Z))) (F0 m 75 ls []) := by
    intro hJ H locs ls V I A hl g_75_1
    exact pe_v M V rfl rfl hr hlk ⟨rfl, I, A.wk (by decide)⟩ ⟨Nat.le_refl _, Nat.le_refl _⟩ dX10_moveCaret_75
  have J_42 : ∀ (hJ : pH) (H : Heap) (locs : List Loc) (ls : Array Slot), pV Z hJ s.heap H locs → Iv Z hJ → agrD [(127, 1000)] h hJ → lv_has ls 3 [(0, .ref (zB Z + 123)), (1, .int slot), (2, .ref (zB Z + 1))] → (0 ≤ slot.toInt ∧ slot.toInt ≤ 39) → W p l e (pRm 2 0 0 43) s m ([.ref (zB Z + 123), .int slot, .ref (zB Z + 1)] : List Value).toArray below meth c H locs 0 0 (MQ below (pQv Z (fun Z1 h1 => Z = Z1 ∧ Iv Z h1 ∧ agrD [(127, 1000)] h h1)) ([.ref (zB Z + 123), .int slot, .ref (zB Z + 1)] : List Value).toArray s 0 0 (pA (zB Z))) (F0 m 42 ls []) := by
    intro hJ H locs ls V I A hl g_42_1
    refine lv_aload_n hx hb dX10_moveCaret_42 rfl (lv_at hl 2 rfl) ?_
    refine lv_iconst (v := 3) hx hb dX10_moveCaret_43 (by decide) ?_
    refine pk_i (pr_V M V (m_X5_isDownHere l S I (3 : Int32) ) km_X5_isDownHere (c_is_1 S) pC5 lkM_X10_68 rfl hl.1 rfl (Nat.le_of_ble_eq_true rfl) ⟨Nat.le_of_ble_eq_true rfl, Nat.le_of_ble_eq_true rfl⟩ ⟨Nat.le_of_ble_eq_true rfl, Nat.le_of_ble_eq_true rfl⟩ dX10_moveCaret_44) V (fun r1 Zr1 hr1 H locs pr1 _ _ V => ?_)
    obtain ⟨rfl, I, pA_r1, fr1_0⟩ := pr1
    have A := A.tr pA_r1 (by decide)
    refine lv_if_eq (tgt := 75) hx hb dX10_moveCaret_47 (by decide) (fun c_47 => ?_) (fun c_47 => ?_)
    · skip
      have k_0 : (0 : Int32).toInt = 0 := rfl
      have c_47 := pi_eq.mp c_47
      exact J_75 _ _ _ _ V I (A.wk (by decide)) (lv_sub hl [0, 1, 2] rfl) (by omega) 
    · skip
      have k_0 : (0 : Int32).toInt = 0 := rfl
      have c_47 := pi_ne c_47
      refine lv_aload_n hx hb dX10_moveCaret_50 rfl (lv_at hl 0 rfl) ?_
      refine pg_r M V 10 3 (c_is_123 S) pC10 fk10_3 (c_r_123_3 S) lkF_X10_21 dX10_moveCaret_51 ?_
      refine lv_iload_n hx hb dX10_moveCaret_54 rfl (lv_at hl 1 rfl) ?_
      refine pa_i M V (c_is_127 S) (by rw [c_n_127 S]; exact pi_in (by omega)) dX10_moveCaret_55 ?_
      refine lv_topi (fun v2 ev2 => ?_)
      refine lv_aload_n hx hb dX10_moveCaret_56 rfl (lv_at hl 0 rfl) ?_
      refine pg_r M V 10 2 (c_is_123 S) pC10 fk10_2 (c_r_123_2 S) lkF_X10_18 dX10_moveCaret_57 ?_
      refine lv_iload_n hx hb dX10_moveCaret_60 rfl (lv_at hl 1 rfl) ?_
      refine pa_i M V (c_is_126 S) (by rw [c_n_126 S]; exact pi_in (by omega)) dX10_moveCaret_61 ?_
      refine lv_topi (fun v3 ev3 => ?_)
      have tv3 : 0 ≤ v3.toInt ∧ v3.toInt ≤ 12 := by rw [ev3]; exact I.get (c_is_126 S) _
      refine lv_icmp_ge (tgt := 75) hx hb dX10_moveCaret_62 (by decide) (fun c_62 => ?_) (fun c_62 => ?_)
      · skip
        have c_62 := pi_le.mp c_62
        exact J_75 _ _ _ _ V I (A.wk (by decide)) (lv_sub hl [0, 1, 2] rfl) (by omega) 
      · skip
        have c_62 := pi_le' c_62
        refine lv_aload_n hx hb dX10_moveCaret_65 rfl (lv_at hl 0 rfl) ?_
        refine pg_r M V 10 3 (c_is_123 S) pC10 fk10_3 (c_r_123_3 S) lkF_X10_21 dX10_moveCaret_66 ?_
        refine lv_iload_n hx hb dX10_moveCaret_69 rfl (lv_at hl 1 rfl) ?_
        refine lv_dup2_11 hx hb dX10_moveCaret_70 rfl rfl ?_
        refine pa_iv M V (v := v2) (c_is_127 S) (by rw [c_n_127 S]; exact pi_in (by omega)) ev2.symm dX10_moveCaret_71 ?_
        refine lv_iconst (v := 1) hx hb dX10_moveCaret_72 (by decide) ?_
        refine lv_iadd hx hb dX10_moveCaret_73 ?_
        refine lv_topi (fun v4 ev4 => ?_)
        refine ps_i M V (c_is_127 S) (by rw [c_n_127 S]; exact pi_in (by omega)) dX10_moveCaret_74 (fun H locs V => ?_)
        have A := A.upA (o := 127) (k := slot.toNatClampNeg) (v := v4) (by decide)
        have I := I.up (k := slot.toNatClampNeg) (v := v4) (c_is_127 S) (pi_full _)
        exact J_75 _ _ _ _ V I (A.wk (by decide)) (lv_sub hl [0, 1, 2] rfl) (by omega) 
  have J_15 : ∀ (hJ : pH) (H : Heap) (locs : List Loc) (ls : Array Slot), pV Z hJ s.heap H locs → Iv Z hJ → agrD [(127, 1000)] h hJ → lv_has ls 3 [(0, .ref (zB Z + 123)), (1, .int slot), (2, .ref (zB Z + 1))] → (0 ≤ slot.toInt ∧ slot.toInt ≤ 39) → W p l e (pRm 2 0 0 43) s m ([.ref (zB Z + 123), .int slot, .ref (zB Z + 1)] : List Value).toArray below meth c H locs 0 0 (MQ below (pQv Z (fun Z1 h1 => Z = Z1 ∧ Iv Z h1 ∧ agrD [(127, 1000)] h h1)) ([.ref (zB Z + 123), .int slot, .ref (zB Z + 1)] : List Value).toArray s 0 0 (pA (zB Z))) (F0 m 15 ls []) := by
    intro hJ H locs ls V I A hl g_15_1
    refine lv_aload_n hx hb dX10_moveCaret_15 rfl (lv_at hl 2 rfl) ?_
    refine lv_iconst (v := 2) hx hb dX10_moveCaret_16 (by decide) ?_
    refine pk_i (pr_V M V (m_X5_isDownHere l S I (2 : Int32) ) km_X5_isDownHere (c_is_1 S) pC5 lkM_X10_68 rfl hl.1 rfl (Nat.le_of_ble_eq_true rfl) ⟨Nat.le_of_ble_eq_true rfl, Nat.le_of_ble_eq_true rfl⟩ ⟨Nat.le_of_ble_eq_true rfl, Nat.le_of_ble_eq_true rfl⟩ dX10_moveCaret_17) V (fun r5 Zr5 hr5 H locs pr5 _ _ V => ?_)
    obtain ⟨rfl, I, pA_r5, fr5_0⟩ := pr5
    have A := A.tr pA_r5 (by decide)
    refine lv_if_eq (tgt := 42) hx hb dX10_moveCaret_20 (by decide) (fun c_20 => ?_) (fun c_20 => ?_)
    · skip
      have k_0 : (0 : Int32).toInt = 0 := rfl
      have c_20 := pi_eq.mp c_20
      exact J_42 _ _ _ _ V I (A.wk (by decide)) (lv_sub hl [0, 1, 2] rfl) (by omega) 
    · skip
      have k_0 : (0 : Int32).toInt = 0 := rfl
      have c_20 := pi_ne c_20
      refine lv_aload_n hx hb dX10_moveCaret_23 rfl (lv_at hl 0 rfl) ?_
      refine pg_r M V 10 3 (c_is_123 S) pC10 fk10_3 (c_r_123_3 S) lkF_X10_21 dX10_moveCaret_24 ?_
      refine lv_iload_n hx hb dX10_moveCaret_27 rfl (lv_at hl 1 rfl) ?_
      refine pa_i M V (c_is_127 S) (by rw [c_n_127 S]; exact pi_in (by omega)) dX10_moveCaret_28 ?_
      refine lv_topi (fun v6 ev6 => ?_)
      refine lv_if_le (tgt := 42) hx hb dX10_moveCaret_29 (by decide) (fun c_29 => ?_) (fun c_29 => ?_)
      · skip
        have c_29 := pi_le.mp c_29
        exact J_42 _ _ _ _ V I (A.wk (by decide)) (lv_sub hl [0, 1, 2] rfl) (by omega) 
      · skip
        have c_29 := pi_le' c_29
        refine lv_aload_n hx hb dX10_moveCaret_32 rfl (lv_at hl 0 rfl) ?_
        refine pg_r M V 10 3 (c_is_123 S) pC10 fk10_3 (c_r_123_3 S) lkF_X10_21 dX10_moveCaret_33 ?_
        refine lv_iload_n hx hb dX10_moveCaret_36 rfl (lv_at hl 1 rfl) ?_
        refine lv_dup2_11 hx hb dX10_moveCaret_37 rfl rfl ?_
        refine pa_iv M V (v := v6) (c_is_127 S) (by rw [c_n_127 S]; exact pi_in (by omega)) ev6.symm dX10_moveCaret_38 ?_
        refine lv_iconst (v := 1) hx hb dX10_moveCaret_39 (by decide) ?_
        refine lv_isub hx hb dX10_moveCaret_40 ?_
        refine lv_topi (fun v7 ev7 => ?_)
        refine ps_i M V (c_is_127 S) (by rw [c_n_127 S]; exact pi_in (by omega)) dX10_moveCaret_41 (fun H locs V => ?_)
        have A := A.upA (o := 127) (k := slot.toNatClampNeg) (v := v7) (by decide)
        have I := I.up (k := slot.toNatClampNeg) (v := v7) (c_is_127 S) (pi_full _)
        exact J_42 _ _ _ _ V I (A.wk (by decide)) (lv_sub hl [0, 1, 2] rfl) (by omega) 
  refine lv_aload_n hx hb dX10_moveCaret_0 rfl (lv_at hl 2 rfl) ?_
  refine lv_iconst (v := 5) hx hb dX10_moveCaret_1 (by decide) ?_
  refine pk_i (pr_V M V (m_X5_isDownHere l S I (5 : Int32) ) km_X5_isDownHere (c_is_1 S) pC5 lkM_X10_68 rfl hl.1 rfl (Nat.le_of_ble_eq_true rfl) ⟨Nat.le_of_ble_eq_true rfl, Nat.le_of_ble_eq_true rfl⟩ ⟨Nat.le_of_ble_eq_true rfl, Nat.le_of_ble_eq_true rfl⟩ dX10_moveCaret_2) V (fun r8 Zr8 hr8 H locs pr8 _ _ V => ?_)
  obtain ⟨rfl, I, pA_r8, fr8_0⟩ := pr8
  have A := A.tr pA_r8 (by decide)
  refine lv_if_eq (tgt := 15) hx hb dX10_moveCaret_5 (by decide) (fun c_5 => ?_) (fun c_5 => ?_)
  · skip
    have k_0 : (0 : Int32).toInt = 0 := rfl
    have c_5 := pi_eq.mp c_5
    exact J_15 _ _ _ _ V I (A.wk (by decide)) (lv_sub hl [0, 1, 2] rfl) (by omega) 
  · skip
    have k_0 : (0 : Int32).toInt = 0 := rfl
    have c_5 := pi_ne c_5
    refine lv_aload_n hx hb dX10_moveCaret_8 rfl (lv_at hl 0 rfl) ?_
    refine pg_r M V 10 3 (c_is_123 S) pC10 fk10_3 (c_r_123_3 S) lkF_X10_21 dX10_moveCaret_9 ?_
    refine lv_iload_n hx hb dX10_moveCaret_12 rfl (lv_at hl 1 rfl) ?_
    refine lv_iconst (v := 0) hx hb dX10_moveCaret_13 (by decide) ?_
    refine ps_i M V (c_is_127 S) (by rw [c_n_127 S]; exact pi_in (by omega)) dX10_moveCaret_14 (fun H locs V => ?_)
    have A := A.wk (l3 := [(127, 1000)]) (by decide)
    have A := A.upA (o := 127) (k := slot.toNatClampNeg) (v := (0 : Int32)) (by decide)
    have I := I.up (k := slot.toNatClampNeg) (v := (0 : Int32)) (c_is_127 S) (pi_full _)
    exact J_15 _ _ _ _ V I (A.wk (by decide)) (lv_sub hl [0, 1, 2] rfl) (by omega) 
theorem dX0_start_0 : decode cX0_start 0 = .ok (.aload_n 0, 1) := by decide +kernel
theorem dX0_start_1 : decode cX0_start 1 = .ok (.iload_n 1, 1) := by decide +kernel
theorem dX0_start_2 : decode cX0_start 2 = .ok (.putfield 18, 3) := by decide +kernel
theorem dX0_start_5 : decode cX0_start 5 = .ok (.aload_n 0, 1) := by decide +kernel
theorem dX0_start_6 : decode cX0_start 6 = .ok (.iload_n 2, 1) := by decide +kernel
theorem dX0_start_7 : decode cX0_start 7 = .ok (.putfield 22, 3) := by decide +kernel
theorem dX0_start_10 : decode cX0_start 10 = .ok (.aload_n 0, 1) := by decide +kernel
theorem dX0_start_11 : decode cX0_start 11 = .ok (.iconst 0, 1) := by decide +kernel
theorem dX0_start_12 : decode cX0_start 12 = .ok (.putfield 25, 3) := by decide +kernel
theorem dX0_start_15 : decode cX0_start 15 = .ok (.aload_n 0, 1) := by decide +kernel
theorem dX0_start_16 : decode cX0_start 16 = .ok (.iload_n 2, 1) := by decide +kernel
theorem dX0_start_17 : decode cX0_start 17 = .ok (.putfield 28, 3) := by decide +kernel
theorem dX0_start_20 : decode cX0_start 20 = .ok (.aload_n 0, 1) := by decide +kernel
theorem dX0_start_21 : decode cX0_start 21 = .ok (.iload_n 1, 1) := by decide +kernel
theorem dX0_start_22 : decode cX0_start 22 = .ok (.putfield 31, 3) := by decide +kernel
theorem dX0_start_25 : decode cX0_start 25 = .ok (.aload_n 0, 1) := by decide +kernel
theorem dX0_start_26 : decode cX0_start 26 = .ok (.iconst 0, 1) := by decide +kernel
theorem dX0_start_27 : decode cX0_start 27 = .ok (.putfield 34, 3) := by decide +kernel
theorem dX0_start_30 : decode cX0_start 30 = .ok (.aload_n 0, 1) := by decide +kernel
theorem dX0_start_31 : decode cX0_start 31 = .ok (.iload_n 3, 1) := by decide +kernel
theorem dX0_start_32 : decode cX0_start 32 = .ok (.putfield 38, 3) := by decide +kernel
theorem dX0_start_35 : decode cX0_start 35 = .ok (.return_, 1) := by decide +kernel
set_option maxHeartbeats 4000000 in
set_option maxRecDepth 100000 in
theorem m_X0_start (l : Launch) {Z : pZ} (S : pSh Z) {h : pH} (I : Iv Z h) (o : Nat) (ho : pIs Z o 0) (x : Int32) (y : Int32) (kid : Int32)  : pMet l yX0_start cX0_start 4 none 0 0 0 0 Z h [.ref (zB Z + o), .int x, .int y, .int kid] (pQv Z (fun Z1 h1 => Z = Z1 ∧ Iv Z h1 ∧ agrD [] h h1)) := by
  refine pOfW (lv := [(0, .ref (zB Z + o)), (1, .int x), (2, .int y), (3, .int kid)]) (by decide) (Nat.le_of_ble_eq_true rfl) rfl ?_
  intro p e s m below meth c ls M hr hlk hnm V hl
  have hx := M.1.1
  have hb := M.1.2.1
  have A : agrD [] h h := agrD.rf
  refine lv_aload_n hx hb dX0_start_0 rfl (lv_at hl 0 rfl) ?_
  refine lv_iload_n hx hb dX0_start_1 rfl (lv_at hl 1 rfl) ?_
  refine pp_i M V 0 1 ho pC0 fk0_1 rfl lkF_X0_18 ⟨rfl, rfl⟩ dX0_start_2 (fun H locs V => ?_)
  have A := A.upS S (k := 1) (v := x) ho (by decide)
  have I := I.up (k := 1) (v := x) ho (pi_full _)
  refine lv_aload_n hx hb dX0_start_5 rfl (lv_at hl 0 rfl) ?_
  refine lv_iload_n hx hb dX0_start_6 rfl (lv_at hl 2 rfl) ?_
  refine pp_i M V 0 2 ho pC0 fk0_2 rfl lkF_X0_22 ⟨rfl, rfl⟩ dX0_start_7 (fun H locs V => ?_)
  have A := A.upS S (k := 2) (v := y) ho (by decide)
  have I := I.up (k := 2) (v := y) ho (pi_full _)
  refine lv_aload_n hx hb dX0_start_10 rfl (lv_at hl 0 rfl) ?_
  refine lv_iconst (v := 0) hx hb dX0_start_11 (by decide) ?_
  refine pp_i M V 0 3 ho pC0 fk0_3 rfl lkF_X0_25 ⟨rfl, rfl⟩ dX0_start_12 (fun H locs V => ?_)
  have A := A.upS S (k := 3) (v := (0 : Int32)) ho (by decide)
  have I := I.up (k := 3) (v := (0 : Int32)) ho (pi_full _)
  refine lv_aload_n hx hb dX0_start_15 rfl (lv_at hl 0 rfl) ?_
  refine lv_iload_n hx hb dX0_start_16 rfl (lv_at hl 2 rfl) ?_
  refine pp_i M V 0 8 ho pC0 fk0_8 rfl lkF_X0_28 ⟨rfl, rfl⟩ dX0_start_17 (fun H locs V => ?_)
  have A := A.upS S (k := 8) (v := y) ho (by decide)
  have I := I.up (k := 8) (v := y) ho (pi_full _)
  refine lv_aload_n hx hb dX0_start_20 rfl (lv_at hl 0 rfl) ?_
  refine lv_iload_n hx hb dX0_start_21 rfl (lv_at hl 1 rfl) ?_
  refine pp_i M V 0 9 ho pC0 fk0_9 rfl lkF_X0_31 ⟨rfl, rfl⟩ dX0_start_22 (fun H locs V => ?_)
  have A := A.upS S (k := 9) (v := x) ho (by decide)
  have I := I.up (k := 9) (v := x) ho (pi_full _)
  refine lv_aload_n hx hb dX0_start_25 rfl (lv_at hl 0 rfl) ?_
  refine lv_iconst (v := 0) hx hb dX0_start_26 (by decide) ?_
  have k_0 : (0 : Int32).toInt = 0 := rfl
  have z_27 : (0 : Int32) = 0 ∨ (0 : Int32) = 1 := pi_z (by omega)
  refine pp_i M V 0 10 ho pC0 fk0_10 rfl lkF_X0_34 ⟨(pn_z z_27).1, (pn_z z_27).2.1⟩ dX0_start_27 (fun H locs V => ?_)
  have A := A.upS S (k := 10) (v := (0 : Int32)) ho (by decide)
  have I := I.up (k := 10) (v := (0 : Int32)) ho (show (0 : Int) ≤ (0 : Int32).toInt ∧ (0 : Int32).toInt ≤ (1 : Int) by omega)
  refine lv_aload_n hx hb dX0_start_30 rfl (lv_at hl 0 rfl) ?_
  refine lv_iload_n hx hb dX0_start_31 rfl (lv_at hl 3 rfl) ?_
  refine pp_i M V 0 11 ho pC0 fk0_11 rfl lkF_X0_38 ⟨rfl, rfl⟩ dX0_start_32 (fun H locs V => ?_)
  have A := A.upS S (k := 11) (v := kid) ho (by decide)
  have I := I.up (k := 11) (v := kid) ho (pi_full _)
  exact pe_v M V rfl rfl hr hlk ⟨rfl, I, A.wk (by decide)⟩ ⟨Nat.le_refl _, Nat.le_refl _⟩ dX0_start_35
theorem dX0_placeCursor_0 : decode cX0_placeCursor 0 = .ok (.iload_n 1, 1) := by decide +kernel
theorem dX0_placeCursor_1 : decode cX0_placeCursor 1 = .ok (.ifCond .eq 21, 3) := by decide +kernel
theorem dX0_placeCursor_4 : decode cX0_placeCursor 4 = .ok (.aload_n 0, 1) := by decide +kernel
theorem dX0_placeCursor_5 : decode cX0_placeCursor 5 = .ok (.getfield 34, 3) := by decide +kernel
theorem dX0_placeCursor_8 : decode cX0_placeCursor 8 = .ok (.ifCond .eq 14, 3) := by decide +kernel
theorem dX0_placeCursor_11 : decode cX0_placeCursor 11 = .ok (.aload_n 0, 1) := by decide +kernel
theorem dX0_placeCursor_12 : decode cX0_placeCursor 12 = .ok (.aload_n 0, 1) := by decide +kernel
theorem dX0_placeCursor_13 : decode cX0_placeCursor 13 = .ok (.getfield 41, 3) := by decide +kernel
theorem dX0_placeCursor_16 : decode cX0_placeCursor 16 = .ok (.iconst 4, 1) := by decide +kernel
theorem dX0_placeCursor_17 : decode cX0_placeCursor 17 = .ok (.iadd, 1) := by decide +kernel
theorem dX0_placeCursor_18 : decode cX0_placeCursor 18 = .ok (.putfield 44, 3) := by decide +kernel
theorem dX0_placeCursor_21 : decode cX0_placeCursor 21 = .ok (.return_, 1) := by decide +kernel
theorem dX0_placeCursor_22 : decode cX0_placeCursor 22 = .ok (.aload_n 0, 1) := by decide +kernel
theorem dX0_placeCursor_23 : decode cX0_placeCursor 23 = .ok (.aload_n 0, 1) := by decide +kernel
theorem dX0_placeCursor_24 : decode cX0_placeCursor 24 = .ok (.getfield 18, 3) := by decide +kernel
theorem dX0_placeCursor_27 : decode cX0_placeCursor 27 = .ok (.aload_n 0, 1) := by decide +kernel
theorem dX0_placeCursor_28 : decode cX0_placeCursor 28 = .ok (.getfield 25, 3) := by decide +kernel
theorem dX0_placeCursor_31 : decode cX0_placeCursor 31 = .ok (.iadd, 1) := by decide +kernel
theorem dX0_placeCursor_32 : decode cX0_placeCursor 32 = .ok (.putfield 44, 3) := by decide +kernel
theorem dX0_placeCursor_35 : decode cX0_placeCursor 35 = .ok (.aload_n 0, 1) := by decide +kernel
theorem dX0_placeCursor_36 : decode cX0_placeCursor 36 = .ok (.aload_n 0, 1) := by decide +kernel
theorem dX0_placeCursor_37 : decode cX0_placeCursor 37 = .ok (.getfield 34, 3) := by decide +kernel
theorem dX0_placeCursor_40 : decode cX0_placeCursor 40 = .ok (.ifCond .eq 12, 3) := by decide +kernel
theorem dX0_placeCursor_43 : decode cX0_placeCursor 43 = .ok (.aload_n 0, 1) := by decide +kernel
theorem dX0_placeCursor_44 : decode cX0_placeCursor 44 = .ok (.getfield 47, 3) := by decide +kernel
theorem dX0_placeCursor_47 : decode cX0_placeCursor 47 = .ok (.iconst 4, 1) := by decide +kernel
theorem dX0_placeCursor_48 : decode cX0_placeCursor 48 = .ok (.iadd, 1) := by decide +kernel
theorem dX0_placeCursor_49 : decode cX0_placeCursor 49 = .ok (.goto 7, 3) := by decide +kernel
theorem dX0_placeCursor_52 : decode cX0_placeCursor 52 = .ok (.aload_n 0, 1) := by decide +kernel
theorem dX0_placeCursor_53 : decode cX0_placeCursor 53 = .ok (.getfield 22, 3) := by decide +kernel
theorem dX0_placeCursor_56 : decode cX0_placeCursor 56 = .ok (.putfield 50, 3) := by decide +kernel
theorem dX0_placeCursor_59 : decode cX0_placeCursor 59 = .ok (.aload_n 0, 1) := by decide +kernel
theorem dX0_placeCursor_60 : decode cX0_placeCursor 60 = .ok (.aload_n 0, 1) := by decide +kernel
theorem dX0_placeCursor_61 : decode cX0_placeCursor 61 = .ok (.getfield 50, 3) := by decide +kernel
theorem dX0_placeCursor_64 : decode cX0_placeCursor 64 = .ok (.putfield 47, 3) := by decide +kernel
theorem dX0_placeCursor_67 : decode cX0_placeCursor 67 = .ok (.return_, 1) := by decide +kernel
set_option maxHeartbeats 4000000 in
set_option maxRecDepth 100000 in
theorem m_X0_placeCursor (l : Launch) {Z : pZ} (S : pSh Z) {h : pH} (I : Iv Z h) (o : Nat) (ho : pIs Z o 0) (near : Int32) (hb9 : 0 ≤ near.toInt ∧ near.toInt ≤ 1) : pMet l yX0_placeCursor cX0_placeCursor 2 none 0 0 0 0 Z h [.ref (zB Z + o), .int near] (pQv Z (fun Z1 h1 => Z = Z1 ∧ Iv Z h1 ∧ agrD [] h h1)) := by
  refine pOfW (lv := [(0, .ref (zB Z + o)), (1, .int near)]) (by decide) (Nat.le_of_ble_eq_true rfl) rfl ?_
  intro p e s m below meth c ls M hr hlk hnm V hl
  have hx := M.1.1
  have hb := M.1.2.1
  have A : agrD [] h h := agrD.rf
  have J_56 : ∀ (y56_0 : Int32) (hJ : pH) (H : Heap) (locs : List Loc) (ls : Array Slot), pV Z hJ s.heap H locs → Iv Z hJ → agrD [] h hJ → lv_has ls 2 [(0, .ref (zB Z + o)), (1, .int near)] → (0 ≤ near.toInt ∧ near.toInt ≤ 1) → W p l e (pRm 0 0 0 0) s m ([.ref (zB Z + o), .int near] : List Value).toArray below meth c H locs 0 0 (MQ below (pQv Z (fun Z1 h1 => Z = Z1 ∧ Iv Z h1 ∧ agrD [] h h1)) ([.ref (zB Z + o), .int near] : List Value).toArray s 0 0 (pA (zB Z))) (F0 m 56 ls [.int y56_0, .ref (zB Z + o)]) := by
    intro y56_0 hJ H locs ls V I A hl g_56_1
    refine pp_i M V 0 5 ho pC0 fk0_5 rfl lkF_X0_50 ⟨rfl, rfl⟩ dX0_placeCursor_56 (fun H locs V => ?_)
    have A := A.upS S (k := 5) (v := y56_0) ho (by decide)
    have I := I.up (k := 5) (v := y56_0) ho (pi_full _)
    refine lv_aload_n hx hb dX0_placeCursor_59 rfl (lv_at hl 0 rfl) ?_
    refine lv_aload_n hx hb dX0_placeCursor_60 rfl (lv_at hl 0 rfl) ?_
    refine pg_i M V 0 5 ho pC0 fk0_5 lkF_X0_50 dX0_placeCursor_61 ?_
    refine lv_topi (fun v1 ev1 => ?_)
    refine pp_i M V 0 6 ho pC0 fk0_6 rfl lkF_X0_47 ⟨rfl, rfl⟩ dX0_placeCursor_64 (fun H locs V => ?_)
    have A := A.upS S (k := 6) (v := v1) ho (by decide)
    have I := I.up (k := 6) (v := v1) ho (pi_full _)
    exact pe_v M V rfl rfl hr hlk ⟨rfl, I, A.wk (by decide)⟩ ⟨Nat.le_refl _, Nat.le_refl _⟩ dX0_placeCursor_67
  have J_22 : ∀ (hJ : pH) (H : Heap) (locs : List Loc) (ls : Array Slot), pV Z hJ s.heap H locs → Iv Z hJ → agrD [] h hJ → lv_has ls 2 [(0, .ref (zB Z + o)), (1, .int near)] → (0 ≤ near.toInt ∧ near.toInt ≤ 1) → W p l e (pRm 0 0 0 0) s m ([.ref (zB Z + o), .int near] : List Value).toArray below meth c H locs 0 0 (MQ below (pQv Z (fun Z1 h1 => Z = Z1 ∧ Iv Z h1 ∧ agrD [] h h1)) ([.ref (zB Z + o), .int near] : List Value).toArray s 0 0 (pA (zB Z))) (F0 m 22 ls []) := by
    intro hJ H locs ls V I A hl g_22_1
    refine lv_aload_n hx hb dX0_placeCursor_22 rfl (lv_at hl 0 rfl) ?_
    refine lv_aload_n hx hb dX0_placeCursor_23 rfl (lv_at hl 0 rfl) ?_
    refine pg_i M V 0 1 ho pC0 fk0_1 lkF_X0_18 dX0_placeCursor_24 ?_
    refine lv_topi (fun v2 ev2 => ?_)
    refine lv_aload_n hx hb dX0_placeCursor_27 rfl (lv_at hl 0 rfl) ?_
    refine pg_i M V 0 3 ho pC0 fk0_3 lkF_X0_25 dX0_placeCursor_28 ?_
    refine lv_topi (fun v3 ev3 => ?_)
    refine lv_iadd hx hb dX0_placeCursor_31 ?_
    refine lv_topi (fun v4 ev4 => ?_)
    refine pp_i M V 0 4 ho pC0 fk0_4 rfl lkF_X0_44 ⟨rfl, rfl⟩ dX0_placeCursor_32 (fun H locs V => ?_)
    have A := A.upS S (k := 4) (v := v4) ho (by decide)
    have I := I.up (k := 4) (v := v4) ho (pi_full _)
    refine lv_aload_n hx hb dX0_placeCursor_35 rfl (lv_at hl 0 rfl) ?_
    refine lv_aload_n hx hb dX0_placeCursor_36 rfl (lv_at hl 0 rfl) ?_
    refine pg_i M V 0 10 ho pC0 fk0_10 lkF_X0_34 dX0_placeCursor_37 ?_
    refine lv_topi (fun v5 ev5 => ?_)
    have tv5 : 0 ≤ v5.toInt ∧ v5.toInt ≤ 1 := by rw [ev5]; exact I.get ho 10
    refine lv_if_eq (tgt := 52) hx hb dX0_placeCursor_40 (by decide) (fun c_40 => ?_) (fun c_40 => ?_)
    · skip
      have k_0 : (0 : Int32).toInt = 0 := rfl
      have c_40 := pi_eq.mp c_40
      refine lv_aload_n hx hb dX0_placeCursor_52 rfl (lv_at hl 0 rfl) ?_
      refine pg_i M V 0 2 ho pC0 fk0_2 lkF_X0_22 dX0_placeCursor_53 ?_
      refine lv_topi (fun v6 ev6 => ?_)
      exact J_56 v6 _ _ _ _ V I (A.wk (by decide)) (lv_sub hl [0, 1] rfl) (by omega) 
    · skip
      have k_0 : (0 : Int32).toInt = 0 := rfl
      have c_40 := pi_ne c_40
      refine lv_aload_n hx hb dX0_placeCursor_43 rfl (lv_at hl 0 rfl) ?_
      refine pg_i M V 0 6 ho pC0 fk0_6 lkF_X0_47 dX0_placeCursor_44 ?_
      refine lv_topi (fun v7 ev7 => ?_)
      refine lv_iconst (v := 4) hx hb dX0_placeCursor_47 (by decide) ?_
      refine lv_iadd hx hb dX0_placeCursor_48 ?_
      refine lv_topi (fun v8 ev8 => ?_)
      refine lv_goto (tgt := 56) hx hb dX0_placeCursor_49 (by decide) ?_
      exact J_56 v8 _ _ _ _ V I (A.wk (by decide)) (lv_sub hl [0, 1] rfl) (by omega) 
  refine lv_iload_n hx hb dX0_placeCursor_0 rfl (lv_at hl 1 rfl) ?_
  refine lv_if_eq (tgt := 22) hx hb dX0_placeCursor_1 (by decide) (fun c_1 => ?_) (fun c_1 => ?_)
  · skip
    have k_0 : (0 : Int32).toInt = 0 := rfl
    have c_1 := pi_eq.mp c_1
    exact J_22 _ _ _ _ V I (A.wk (by decide)) (lv_sub hl [0, 1] rfl) (by omega) 
  · skip
    have k_0 : (0 : Int32).toInt = 0 := rfl
    have c_1 := pi_ne c_1
    refine lv_aload_n hx hb dX0_placeCursor_4 rfl (lv_at hl 0 rfl) ?_
    refine pg_i M V 0 10 ho pC0 fk0_10 lkF_X0_34 dX0_placeCursor_5 ?_
    refine lv_topi (fun v9 ev9 => ?_)
    have tv9 : 0 ≤ v9.toInt ∧ v9.toInt ≤ 1 := by rw [ev9]; exact I.get ho 10
    refine lv_if_eq (tgt := 22) hx hb dX0_placeCursor_8 (by decide) (fun c_8 => ?_) (fun c_8 => ?_)
    · skip
      have c_8 := pi_eq.mp c_8
      exact J_22 _ _ _ _ V I (A.wk (by decide)) (lv_sub hl [0, 1] rfl) (by omega) 
    · skip
      have c_8 := pi_ne c_8
      refine lv_aload_n hx hb dX0_placeCursor_11 rfl (lv_at hl 0 rfl) ?_
      refine lv_aload_n hx hb dX0_placeCursor_12 rfl (lv_at hl 0 rfl) ?_
      refine pg_i M V 0 7 ho pC0 fk0_7 lkF_X0_41 dX0_placeCursor_13 ?_
      refine lv_topi (fun v10 ev10 => ?_)
      refine lv_iconst (v := 4) hx hb dX0_placeCursor_16 (by decide) ?_
      refine lv_iadd hx hb dX0_placeCursor_17 ?_
      refine lv_topi (fun v11 ev11 => ?_)
      refine pp_i M V 0 4 ho pC0 fk0_4 rfl lkF_X0_44 ⟨rfl, rfl⟩ dX0_placeCursor_18 (fun H locs V => ?_)
      have A := A.upS S (k := 4) (v := v11) ho (by decide)
      have I := I.up (k := 4) (v := v11) ho (pi_full _)
      exact pe_v M V rfl rfl hr hlk ⟨rfl, I, A.wk (by decide)⟩ ⟨Nat.le_refl _, Nat.le_refl _⟩ dX0_placeCursor_21
theorem dX0_addItem_0 : decode cX0_addItem 0 = .ok (.aload_n 0, 1) := by decide +kernel
theorem dX0_addItem_1 : decode cX0_addItem 1 = .ok (.aload_n 1, 1) := by decide +kernel
theorem dX0_addItem_2 : decode cX0_addItem 2 = .ok (.getfield 53, 3) := by decide +kernel
theorem dX0_addItem_5 : decode cX0_addItem 5 = .ok (.putfield 41, 3) := by decide +kernel
theorem dX0_addItem_8 : decode cX0_addItem 8 = .ok (.aload_n 0, 1) := by decide +kernel
theorem dX0_addItem_9 : decode cX0_addItem 9 = .ok (.aload_n 0, 1) := by decide +kernel
theorem dX0_addItem_10 : decode cX0_addItem 10 = .ok (.getfield 47, 3) := by decide +kernel
theorem dX0_addItem_13 : decode cX0_addItem 13 = .ok (.aload_n 1, 1) := by decide +kernel
theorem dX0_addItem_14 : decode cX0_addItem 14 = .ok (.getfield 56, 3) := by decide +kernel
theorem dX0_addItem_17 : decode cX0_addItem 17 = .ok (.invokestatic 59, 3) := by decide +kernel
theorem dX0_addItem_20 : decode cX0_addItem 20 = .ok (.putfield 47, 3) := by decide +kernel
theorem dX0_addItem_23 : decode cX0_addItem 23 = .ok (.aload_n 0, 1) := by decide +kernel
theorem dX0_addItem_24 : decode cX0_addItem 24 = .ok (.aload_n 0, 1) := by decide +kernel
theorem dX0_addItem_25 : decode cX0_addItem 25 = .ok (.getfield 28, 3) := by decide +kernel
theorem dX0_addItem_28 : decode cX0_addItem 28 = .ok (.aload_n 1, 1) := by decide +kernel
theorem dX0_addItem_29 : decode cX0_addItem 29 = .ok (.getfield 56, 3) := by decide +kernel
theorem dX0_addItem_32 : decode cX0_addItem 32 = .ok (.invokestatic 59, 3) := by decide +kernel
theorem dX0_addItem_35 : decode cX0_addItem 35 = .ok (.putfield 28, 3) := by decide +kernel
theorem dX0_addItem_38 : decode cX0_addItem 38 = .ok (.aload_n 0, 1) := by decide +kernel
theorem dX0_addItem_39 : decode cX0_addItem 39 = .ok (.aload_n 0, 1) := by decide +kernel
theorem dX0_addItem_40 : decode cX0_addItem 40 = .ok (.getfield 31, 3) := by decide +kernel
theorem dX0_addItem_43 : decode cX0_addItem 43 = .ok (.aload_n 1, 1) := by decide +kernel
theorem dX0_addItem_44 : decode cX0_addItem 44 = .ok (.getfield 53, 3) := by decide +kernel
theorem dX0_addItem_47 : decode cX0_addItem 47 = .ok (.invokestatic 59, 3) := by decide +kernel
theorem dX0_addItem_50 : decode cX0_addItem 50 = .ok (.putfield 31, 3) := by decide +kernel
theorem dX0_addItem_53 : decode cX0_addItem 53 = .ok (.aload_n 0, 1) := by decide +kernel
theorem dX0_addItem_54 : decode cX0_addItem 54 = .ok (.iconst 1, 1) := by decide +kernel
theorem dX0_addItem_55 : decode cX0_addItem 55 = .ok (.putfield 34, 3) := by decide +kernel
theorem dX0_addItem_58 : decode cX0_addItem 58 = .ok (.return_, 1) := by decide +kernel
set_option maxHeartbeats 4000000 in
set_option maxRecDepth 100000 in
theorem m_X0_addItem (l : Launch) {Z : pZ} (S : pSh Z) {h : pH} (I : Iv Z h) (o : Nat) (ho : pIs Z o 0) (o2 : Nat) (ho2 : pIs Z o2 2)  : pMet l yX0_addItem cX0_addItem 2 none 1 0 0 21 Z h [.ref (zB Z + o), .ref (zB Z + o2)] (pQv Z (fun Z1 h1 => Z = Z1 ∧ Iv Z h1 ∧ agrD [] h h1)) := by
  refine pOfW (lv := [(0, .ref (zB Z + o)), (1, .ref (zB Z + o2))]) (by decide) (Nat.le_of_ble_eq_true rfl) rfl ?_
  intro p e s m below meth c ls M hr hlk hnm V hl
  have hx := M.1.1
  have hb := M.1.2.1
  have A : agrD [] h h := agrD.rf
  refine lv_aload_n hx hb dX0_addItem_0 rfl (lv_at hl 0 rfl) ?_
  refine lv_aload_n hx hb dX0_addItem_1 rfl (lv_at hl 1 rfl) ?_
  refine pg_i M V 2 2 ho2 pC2 fk2_2 lkF_X0_53 dX0_addItem_2 ?_
  refine lv_topi (fun v1 ev1 => ?_)
  refine pp_i M V 0 7 ho pC0 fk0_7 rfl lkF_X0_41 ⟨rfl, rfl⟩ dX0_addItem_5 (fun H locs V => ?_)
  have A := A.upS S (k := 7) (v := v1) ho (by decide)
  have I := I.up (k := 7) (v := v1) ho (pi_full _)
  refine lv_aload_n hx hb dX0_addItem_8 rfl (lv_at hl 0 rfl) ?_
  refine lv_aload_n hx hb dX0_addItem_9 rfl (lv_at hl 0 rfl) ?_
  refine pg_i M V 0 6 ho pC0 fk0_6 lkF_X0_47 dX0_addItem_10 ?_
  refine lv_topi (fun v2 ev2 => ?_)
  refine lv_aload_n hx hb dX0_addItem_13 rfl (lv_at hl 1 rfl) ?_
  refine pg_i M V 2 3 ho2 pC2 fk2_3 lkF_X0_56 dX0_addItem_14 ?_
  refine lv_topi (fun v3 ev3 => ?_)
  refine pm_max M hl.1 lkJ_X0_59 ⟨Nat.le_of_ble_eq_true rfl, Nat.le_of_ble_eq_true rfl⟩ ⟨Nat.zero_le _, Nat.zero_le _⟩ dX0_addItem_17 (fun r4 fr4 => ?_)
  refine pp_i M V 0 6 ho pC0 fk0_6 rfl lkF_X0_47 ⟨rfl, rfl⟩ dX0_addItem_20 (fun H locs V => ?_)
  have A := A.upS S (k := 6) (v := r4) ho (by decide)
  have I := I.up (k := 6) (v := r4) ho (pi_full _)
  refine lv_aload_n hx hb dX0_addItem_23 rfl (lv_at hl 0 rfl) ?_
  refine lv_aload_n hx hb dX0_addItem_24 rfl (lv_at hl 0 rfl) ?_
  refine pg_i M V 0 8 ho pC0 fk0_8 lkF_X0_28 dX0_addItem_25 ?_
  refine lv_topi (fun v5 ev5 => ?_)
  refine lv_aload_n hx hb dX0_addItem_28 rfl (lv_at hl 1 rfl) ?_
  refine pg_i M V 2 3 ho2 pC2 fk2_3 lkF_X0_56 dX0_addItem_29 ?_
  refine lv_topi (fun v6 ev6 => ?_)
  refine pm_max M hl.1 lkJ_X0_59 ⟨Nat.le_of_ble_eq_true rfl, Nat.le_of_ble_eq_true rfl⟩ ⟨Nat.zero_le _, Nat.zero_le _⟩ dX0_addItem_32 (fun r7 fr7 => ?_)
  refine pp_i M V 0 8 ho pC0 fk0_8 rfl lkF_X0_28 ⟨rfl, rfl⟩ dX0_addItem_35 (fun H locs V => ?_)
  have A := A.upS S (k := 8) (v := r7) ho (by decide)
  have I := I.up (k := 8) (v := r7) ho (pi_full _)
  refine lv_aload_n hx hb dX0_addItem_38 rfl (lv_at hl 0 rfl) ?_
  refine lv_aload_n hx hb dX0_addItem_39 rfl (lv_at hl 0 rfl) ?_
  refine pg_i M V 0 9 ho pC0 fk0_9 lkF_X0_31 dX0_addItem_40 ?_
  refine lv_topi (fun v8 ev8 => ?_)
  refine lv_aload_n hx hb dX0_addItem_43 rfl (lv_at hl 1 rfl) ?_
  refine pg_i M V 2 2 ho2 pC2 fk2_2 lkF_X0_53 dX0_addItem_44 ?_
  refine lv_topi (fun v9 ev9 => ?_)
  refine pm_max M hl.1 lkJ_X0_59 ⟨Nat.le_of_ble_eq_true rfl, Nat.le_of_ble_eq_true rfl⟩ ⟨Nat.zero_le _, Nat.zero_le _⟩ dX0_addItem_47 (fun r10 fr10 => ?_)
  refine pp_i M V 0 9 ho pC0 fk0_9 rfl lkF_X0_31 ⟨rfl, rfl⟩ dX0_addItem_50 (fun H locs V => ?_)
  have A := A.upS S (k := 9) (v := r10) ho (by decide)
  have I := I.up (k := 9) (v := r10) ho (pi_full _)
  refine lv_aload_n hx hb dX0_addItem_53 rfl (lv_at hl 0 rfl) ?_
  refine lv_iconst (v := 1) hx hb dX0_addItem_54 (by decide) ?_
  have k_1 : (1 : Int32).toInt = 1 := rfl
  have z_55 : (1 : Int32) = 0 ∨ (1 : Int32) = 1 := pi_z (by omega)
  refine pp_i M V 0 10 ho pC0 fk0_10 rfl lkF_X0_34 ⟨(pn_z z_55).1, (pn_z z_55).2.1⟩ dX0_addItem_55 (fun H locs V => ?_)
  have A := A.upS S (k := 10) (v := (1 : Int32)) ho (by decide)
  have I := I.up (k := 10) (v := (1 : Int32)) ho (show (0 : Int) ≤ (1 : Int32).toInt ∧ (1 : Int32).toInt ≤ (1 : Int) by omega)
  exact pe_v M V rfl rfl hr hlk ⟨rfl, I, A.wk (by decide)⟩ ⟨Nat.le_refl _, Nat.le_refl _⟩ dX0_addItem_58
theorem dX0_high_0 : decode cX0_high 0 = .ok (.aload_n 0, 1) := by decide +kernel
theorem dX0_high_1 : decode cX0_high 1 = .ok (.getfield 28, 3) := by decide +kernel
theorem dX0_high_4 : decode cX0_high 4 = .ok (.aload_n 0, 1) := by decide +kernel
theorem dX0_high_5 : decode cX0_high 5 = .ok (.getfield 22, 3) := by decide +kernel
theorem dX0_high_8 : decode cX0_high 8 = .ok (.isub, 1) := by decide +kernel
theorem dX0_high_9 : decode cX0_high 9 = .ok (.ireturn, 1) := by decide +kernel
set_option maxHeartbeats 4000000 in
set_option maxRecDepth 100000 in
theorem m_X0_high (l : Launch) {Z : pZ} (S : pSh Z) {h : pH} (I : Iv Z h) (o : Nat) (ho : pIs Z o 0)  : pMet l yX0_high cX0_high 1 (some .int) 0 0 0 0 Z h [.ref (zB Z + o)] (pQi Z (fun r Z1 h1 => Z = Z1 ∧ Iv Z h1 ∧ agrD [] h h1)) := by
  refine pOfW (lv := [(0, .ref (zB Z + o))]) (by decide) (Nat.le_of_ble_eq_true rfl) rfl ?_
  intro p e s m below meth c ls M hr hlk hnm V hl
  have hx := M.1.1
  have hb := M.1.2.1
  have A : agrD [] h h := agrD.rf
  refine lv_aload_n hx hb dX0_high_0 rfl (lv_at hl 0 rfl) ?_
  refine pg_i M V 0 8 ho pC0 fk0_8 lkF_X0_28 dX0_high_1 ?_
  refine lv_topi (fun v1 ev1 => ?_)
  refine lv_aload_n hx hb dX0_high_4 rfl (lv_at hl 0 rfl) ?_
  refine pg_i M V 0 2 ho pC0 fk0_2 lkF_X0_22 dX0_high_5 ?_
  refine lv_topi (fun v2 ev2 => ?_)
  refine lv_isub hx hb dX0_high_8 ?_
  refine lv_topi (fun v3 ev3 => ?_)
  exact pe_i M V rfl rfl hr hlk rfl ⟨rfl, I, A.wk (by decide)⟩ ⟨Nat.le_refl _, Nat.le_refl _⟩ dX0_high_9
theorem dX7_moveTo_0 : decode cX7_moveTo 0 = .ok (.aload_n 0, 1) := by decide +kernel
theorem dX7_moveTo_1 : decode cX7_moveTo 1 = .ok (.iload_n 1, 1) := by decide +kernel
theorem dX7_moveTo_2 : decode cX7_moveTo 2 = .ok (.putfield 15, 3) := by decide +kernel
theorem dX7_moveTo_5 : decode cX7_moveTo 5 = .ok (.aload_n 0, 1) := by decide +kernel
theorem dX7_moveTo_6 : decode cX7_moveTo 6 = .ok (.iload_n 2, 1) := by decide +kernel
theorem dX7_moveTo_7 : decode cX7_moveTo 7 = .ok (.putfield 18, 3) := by decide +kernel
theorem dX7_moveTo_10 : decode cX7_moveTo 10 = .ok (.return_, 1) := by decide +kernel
set_option maxHeartbeats 4000000 in
set_option maxRecDepth 100000 in
theorem m_X7_moveTo (l : Launch) {Z : pZ} (S : pSh Z) {h : pH} (I : Iv Z h) (o : Nat) (ho : pIs Z o 7) (x : Int32) (y : Int32)  : pMet l yX7_moveTo cX7_moveTo 3 none 0 0 0 0 Z h [.ref (zB Z + o), .int x, .int y] (pQv Z (fun Z1 h1 => Z = Z1 ∧ Iv Z h1 ∧ agrD [] h h1)) := by
  refine pOfW (lv := [(0, .ref (zB Z + o)), (1, .int x), (2, .int y)]) (by decide) (Nat.le_of_ble_eq_true rfl) rfl ?_
  intro p e s m below meth c ls M hr hlk hnm V hl
  have hx := M.1.1
  have hb := M.1.2.1
  have A : agrD [] h h := agrD.rf
  refine lv_aload_n hx hb dX7_moveTo_0 rfl (lv_at hl 0 rfl) ?_
  refine lv_iload_n hx hb dX7_moveTo_1 rfl (lv_at hl 1 rfl) ?_
  refine pp_i M V 7 1 ho pC7 fk7_1 rfl lkF_X7_15 ⟨rfl, rfl⟩ dX7_moveTo_2 (fun H locs V => ?_)
  have A := A.upS S (k := 1) (v := x) ho (by decide)
  have I := I.up (k := 1) (v := x) ho (pi_full _)
  refine lv_aload_n hx hb dX7_moveTo_5 rfl (lv_at hl 0 rfl) ?_
  refine lv_iload_n hx hb dX7_moveTo_6 rfl (lv_at hl 2 rfl) ?_
  refine pp_i M V 7 2 ho pC7 fk7_2 rfl lkF_X7_18 ⟨rfl, rfl⟩ dX7_moveTo_7 (fun H locs V => ?_)
  have A := A.upS S (k := 2) (v := y) ho (by decide)
  have I := I.up (k := 2) (v := y) ho (pi_full _)
  exact pe_v M V rfl rfl hr hlk ⟨rfl, I, A.wk (by decide)⟩ ⟨Nat.le_refl _, Nat.le_refl _⟩ dX7_moveTo_10
theorem dX7_tell_0 : decode cX7_tell 0 = .ok (.aload_n 0, 1) := by decide +kernel
theorem dX7_tell_1 : decode cX7_tell 1 = .ok (.iload_n 1, 1) := by decide +kernel
theorem dX7_tell_2 : decode cX7_tell 2 = .ok (.putfield 21, 3) := by decide +kernel
theorem dX7_tell_5 : decode cX7_tell 5 = .ok (.aload_n 0, 1) := by decide +kernel
theorem dX7_tell_6 : decode cX7_tell 6 = .ok (.iload_n 2, 1) := by decide +kernel
theorem dX7_tell_7 : decode cX7_tell 7 = .ok (.putfield 24, 3) := by decide +kernel
theorem dX7_tell_10 : decode cX7_tell 10 = .ok (.aload_n 0, 1) := by decide +kernel
theorem dX7_tell_11 : decode cX7_tell 11 = .ok (.iconst 1, 1) := by decide +kernel
theorem dX7_tell_12 : decode cX7_tell 12 = .ok (.putfield 27, 3) := by decide +kernel
theorem dX7_tell_15 : decode cX7_tell 15 = .ok (.aload_n 0, 1) := by decide +kernel
theorem dX7_tell_16 : decode cX7_tell 16 = .ok (.iconst 1, 1) := by decide +kernel
theorem dX7_tell_17 : decode cX7_tell 17 = .ok (.putfield 31, 3) := by decide +kernel
theorem dX7_tell_20 : decode cX7_tell 20 = .ok (.aload_n 0, 1) := by decide +kernel
theorem dX7_tell_21 : decode cX7_tell 21 = .ok (.aload_n 0, 1) := by decide +kernel
theorem dX7_tell_22 : decode cX7_tell 22 = .ok (.getfield 34, 3) := by decide +kernel
theorem dX7_tell_25 : decode cX7_tell 25 = .ok (.bipush 10, 2) := by decide +kernel
theorem dX7_tell_27 : decode cX7_tell 27 = .ok (.iload_n 3, 1) := by decide +kernel
theorem dX7_tell_28 : decode cX7_tell 28 = .ok (.imul, 1) := by decide +kernel
theorem dX7_tell_29 : decode cX7_tell 29 = .ok (.iadd, 1) := by decide +kernel
theorem dX7_tell_30 : decode cX7_tell 30 = .ok (.iconst 0, 1) := by decide +kernel
theorem dX7_tell_31 : decode cX7_tell 31 = .ok (.iconst 0, 1) := by decide +kernel
theorem dX7_tell_32 : decode cX7_tell 32 = .ok (.aload_n 0, 1) := by decide +kernel
theorem dX7_tell_33 : decode cX7_tell 33 = .ok (.getfield 37, 3) := by decide +kernel
theorem dX7_tell_36 : decode cX7_tell 36 = .ok (.aload_n 0, 1) := by decide +kernel
theorem dX7_tell_37 : decode cX7_tell 37 = .ok (.getfield 24, 3) := by decide +kernel
theorem dX7_tell_40 : decode cX7_tell 40 = .ok (.aload_n 0, 1) := by decide +kernel
theorem dX7_tell_41 : decode cX7_tell 41 = .ok (.getfield 9, 3) := by decide +kernel
theorem dX7_tell_44 : decode cX7_tell 44 = .ok (.isub, 1) := by decide +kernel
theorem dX7_tell_45 : decode cX7_tell 45 = .ok (.isub, 1) := by decide +kernel
theorem dX7_tell_46 : decode cX7_tell 46 = .ok (.invokestatic 40, 3) := by decide +kernel
theorem dX7_tell_49 : decode cX7_tell 49 = .ok (.invokestatic 46, 3) := by decide +kernel
theorem dX7_tell_52 : decode cX7_tell 52 = .ok (.putfield 34, 3) := by decide +kernel
theorem dX7_tell_55 : decode cX7_tell 55 = .ok (.return_, 1) := by decide +kernel
set_option maxHeartbeats 4000000 in
set_option maxRecDepth 100000 in
theorem m_X7_tell (l : Launch) {Z : pZ} (S : pSh Z) {h : pH} (I : Iv Z h) (o : Nat) (ho : pIs Z o 7) (width : Int32) (height : Int32) (lines : Int32)  : pMet l yX7_tell cX7_tell 4 none 2 0 0 43 Z h [.ref (zB Z + o), .int width, .int height, .int lines] (pQv Z (fun Z1 h1 => Z = Z1 ∧ Iv Z h1 ∧ agrD [] h h1)) := by
  refine pOfW (lv := [(0, .ref (zB Z + o)), (1, .int width), (2, .int height), (3, .int lines)]) (by decide) (Nat.le_of_ble_eq_true rfl) rfl ?_
  intro p e s m below meth c ls M hr hlk hnm V hl
  have hx := M.1.1
  have hb := M.1.2.1
  have A : agrD [] h h := agrD.rf
  refine lv_aload_n hx hb dX7_tell_0 rfl (lv_at hl 0 rfl) ?_
  refine lv_iload_n hx hb dX7_tell_1 rfl (lv_at hl 1 rfl) ?_
  refine pp_i M V 7 3 ho pC7 fk7_3 rfl lkF_X7_21 ⟨rfl, rfl⟩ dX7_tell_2 (fun H locs V => ?_)
  have A := A.upS S (k := 3) (v := width) ho (by decide)
  have I := I.up (k := 3) (v := width) ho (pi_full _)
  refine lv_aload_n hx hb dX7_tell_5 rfl (lv_at hl 0 rfl) ?_
  refine lv_iload_n hx hb dX7_tell_6 rfl (lv_at hl 2 rfl) ?_
  refine pp_i M V 7 4 ho pC7 fk7_4 rfl lkF_X7_24 ⟨rfl, rfl⟩ dX7_tell_7 (fun H locs V => ?_)
  have A := A.upS S (k := 4) (v := height) ho (by decide)
  have I := I.up (k := 4) (v := height) ho (pi_full _)
  refine lv_aload_n hx hb dX7_tell_10 rfl (lv_at hl 0 rfl) ?_
  refine lv_iconst (v := 1) hx hb dX7_tell_11 (by decide) ?_
  have k_1 : (1 : Int32).toInt = 1 := rfl
  have z_12 : (1 : Int32) = 0 ∨ (1 : Int32) = 1 := pi_z (by omega)
  refine pp_i M V 7 8 ho pC7 fk7_8 rfl lkF_X7_27 ⟨(pn_z z_12).1, (pn_z z_12).2.1⟩ dX7_tell_12 (fun H locs V => ?_)
  have A := A.upS S (k := 8) (v := (1 : Int32)) ho (by decide)
  have I := I.up (k := 8) (v := (1 : Int32)) ho (show (0 : Int) ≤ (1 : Int32).toInt ∧ (1 : Int32).toInt ≤ (1 : Int) by omega)
  refine lv_aload_n hx hb dX7_tell_15 rfl (lv_at hl 0 rfl) ?_
  refine lv_iconst (v := 1) hx hb dX7_tell_16 (by decide) ?_
  have z_17 : (1 : Int32) = 0 ∨ (1 : Int32) = 1 := pi_z (by omega)
  refine pp_i M V 7 9 ho pC7 fk7_9 rfl lkF_X7_31 ⟨(pn_z z_17).1, (pn_z z_17).2.1⟩ dX7_tell_17 (fun H locs V => ?_)
  have A := A.upS S (k := 9) (v := (1 : Int32)) ho (by decide)
  have I := I.up (k := 9) (v := (1 : Int32)) ho (show (0 : Int) ≤ (1 : Int32).toInt ∧ (1 : Int32).toInt ≤ (1 : Int) by omega)
  refine lv_aload_n hx hb dX7_tell_20 rfl (lv_at hl 0 rfl) ?_
  refine lv_aload_n hx hb dX7_tell_21 rfl (lv_at hl 0 rfl) ?_
  refine pg_i M V 7 5 ho pC7 fk7_5 lkF_X7_34 dX7_tell_22 ?_
  refine lv_topi (fun v1 ev1 => ?_)
  refine lv_bipush (v := 10) hx hb dX7_tell_25 (by decide) ?_
  refine lv_iload_n hx hb dX7_tell_27 rfl (lv_at hl 3 rfl) ?_
  refine lv_imul hx hb dX7_tell_28 ?_
  refine lv_topi (fun v2 ev2 => ?_)
  refine lv_iadd hx hb dX7_tell_29 ?_
  refine lv_topi (fun v3 ev3 => ?_)
  refine lv_iconst (v := 0) hx hb dX7_tell_30 (by decide) ?_
  refine lv_iconst (v := 0) hx hb dX7_tell_31 (by decide) ?_
  refine lv_aload_n hx hb dX7_tell_32 rfl (lv_at hl 0 rfl) ?_
  refine pg_i M V 7 6 ho pC7 fk7_6 lkF_X7_37 dX7_tell_33 ?_
  refine lv_topi (fun v4 ev4 => ?_)
  refine lv_aload_n hx hb dX7_tell_36 rfl (lv_at hl 0 rfl) ?_
  refine pg_i M V 7 4 ho pC7 fk7_4 lkF_X7_24 dX7_tell_37 ?_
  refine lv_topi (fun v5 ev5 => ?_)
  refine lv_aload_n hx hb dX7_tell_40 rfl (lv_at hl 0 rfl) ?_
  refine pg_i M V 7 0 ho pC7 fk7_0 lkF_X7_9 dX7_tell_41 ?_
  refine lv_topi (fun v6 ev6 => ?_)
  refine lv_isub hx hb dX7_tell_44 ?_
  refine lv_topi (fun v7 ev7 => ?_)
  refine lv_isub hx hb dX7_tell_45 ?_
  refine lv_topi (fun v8 ev8 => ?_)
  have k_0 : (0 : Int32).toInt = 0 := rfl
  refine pm_max M hl.1 lkJ_X7_40 ⟨Nat.le_of_ble_eq_true rfl, Nat.le_of_ble_eq_true rfl⟩ ⟨Nat.zero_le _, Nat.zero_le _⟩ dX7_tell_46 (fun r9 fr9 => ?_)
  refine pk_i (pr_SN M V (m_X11_bring l (Z := Z) (h := _) v3 (0 : Int32) r9) km_X11_bring lkN_X7_46 rfl hl.1 rfl (Nat.le_of_ble_eq_true rfl) ⟨Nat.le_of_ble_eq_true rfl, Nat.le_of_ble_eq_true rfl⟩ ⟨Nat.le_of_ble_eq_true rfl, Nat.le_of_ble_eq_true rfl⟩ dX7_tell_49) V (fun r10 Zr10 hr10 H locs pr10 _ _ V => ?_)
  obtain ⟨rfl, rfl, fr10_0⟩ := pr10
  refine pp_i M V 7 5 ho pC7 fk7_5 rfl lkF_X7_34 ⟨rfl, rfl⟩ dX7_tell_52 (fun H locs V => ?_)
  have A := A.upS S (k := 5) (v := r10) ho (by decide)
  have I := I.up (k := 5) (v := r10) ho (pi_full _)
  exact pe_v M V rfl rfl hr hlk ⟨rfl, I, A.wk (by decide)⟩ ⟨Nat.le_refl _, Nat.le_refl _⟩ dX7_tell_55
theorem dX7_heightNow_0 : decode cX7_heightNow 0 = .ok (.aload_n 0, 1) := by decide +kernel
theorem dX7_heightNow_1 : decode cX7_heightNow 1 = .ok (.getfield 50, 3) := by decide +kernel
theorem dX7_heightNow_4 : decode cX7_heightNow 4 = .ok (.ifCond .eq 8, 3) := by decide +kernel
theorem dX7_heightNow_7 : decode cX7_heightNow 7 = .ok (.bipush 12, 2) := by decide +kernel
theorem dX7_heightNow_9 : decode cX7_heightNow 9 = .ok (.goto 7, 3) := by decide +kernel
theorem dX7_heightNow_12 : decode cX7_heightNow 12 = .ok (.aload_n 0, 1) := by decide +kernel
theorem dX7_heightNow_13 : decode cX7_heightNow 13 = .ok (.getfield 24, 3) := by decide +kernel
theorem dX7_heightNow_16 : decode cX7_heightNow 16 = .ok (.ireturn, 1) := by decide +kernel
set_option maxHeartbeats 4000000 in
set_option maxRecDepth 100000 in
theorem m_X7_heightNow (l : Launch) {Z : pZ} (S : pSh Z) {h : pH} (I : Iv Z h) (o : Nat) (ho : pIs Z o 7)  : pMet l yX7_heightNow cX7_heightNow 1 (some .int) 0 0 0 0 Z h [.ref (zB Z + o)] (pQi Z (fun r Z1 h1 => Z = Z1 ∧ Iv Z h1 ∧ agrD [] h h1)) := by
  refine pOfW (lv := [(0, .ref (zB Z + o))]) (by decide) (Nat.le_of_ble_eq_true rfl) rfl ?_
  intro p e s m below meth c ls M hr hlk hnm V hl
  have hx := M.1.1
  have hb := M.1.2.1
  have A : agrD [] h h := agrD.rf
  have J_16 : ∀ (y16_0 : Int32) (hJ : pH) (H : Heap) (locs : List Loc) (ls : Array Slot), pV Z hJ s.heap H locs → Iv Z hJ → agrD [] h hJ → lv_has ls 1 [(0, .ref (zB Z + o))] → W p l e (pRm 0 0 0 0) s m ([.ref (zB Z + o)] : List Value).toArray below meth c H locs 0 0 (MQ below (pQi Z (fun r Z1 h1 => Z = Z1 ∧ Iv Z h1 ∧ agrD [] h h1)) ([.ref (zB Z + o)] : List Value).toArray s 0 0 (pA (zB Z))) (F0 m 16 ls [.int y16_0]) := by
    intro y16_0 hJ H locs ls V I A hl
    exact pe_i M V rfl rfl hr hlk rfl ⟨rfl, I, A.wk (by decide)⟩ ⟨Nat.le_refl _, Nat.le_refl _⟩ dX7_heightNow_16
  refine lv_aload_n hx hb dX7_heightNow_0 rfl (lv_at hl 0 rfl) ?_
  refine pg_i M V 7 7 ho pC7 fk7_7 lkF_X7_50 dX7_heightNow_1 ?_
  refine lv_topi (fun v1 ev1 => ?_)
  have tv1 : 0 ≤ v1.toInt ∧ v1.toInt ≤ 1 := by rw [ev1]; exact I.get ho 7
  refine lv_if_eq (tgt := 12) hx hb dX7_heightNow_4 (by decide) (fun c_4 => ?_) (fun c_4 => ?_)
  · skip
    have k_0 : (0 : Int32).toInt = 0 := rfl
    have c_4 := pi_eq.mp c_4
    refine lv_aload_n hx hb dX7_heightNow_12 rfl (lv_at hl 0 rfl) ?_
    refine pg_i M V 7 4 ho pC7 fk7_4 lkF_X7_24 dX7_heightNow_13 ?_
    refine lv_topi (fun v2 ev2 => ?_)
    exact J_16 v2 _ _ _ _ V I (A.wk (by decide)) (lv_sub hl [0] rfl) 
  · skip
    have k_0 : (0 : Int32).toInt = 0 := rfl
    have c_4 := pi_ne c_4
    refine lv_bipush (v := 12) hx hb dX7_heightNow_7 (by decide) ?_
    refine lv_goto (tgt := 16) hx hb dX7_heightNow_9 (by decide) ?_
    exact J_16 (12 : Int32) _ _ _ _ V I (A.wk (by decide)) (lv_sub hl [0] rfl) 
theorem dX7_hasMouse_0 : decode cX7_hasMouse 0 = .ok (.aload_n 1, 1) := by decide +kernel
theorem dX7_hasMouse_1 : decode cX7_hasMouse 1 = .ok (.getfield 53, 3) := by decide +kernel
theorem dX7_hasMouse_4 : decode cX7_hasMouse 4 = .ok (.aload_n 0, 1) := by decide +kernel
theorem dX7_hasMouse_5 : decode cX7_hasMouse 5 = .ok (.getfield 15, 3) := by decide +kernel
theorem dX7_hasMouse_8 : decode cX7_hasMouse 8 = .ok (.aload_n 0, 1) := by decide +kernel
theorem dX7_hasMouse_9 : decode cX7_hasMouse 9 = .ok (.getfield 15, 3) := by decide +kernel
theorem dX7_hasMouse_12 : decode cX7_hasMouse 12 = .ok (.aload_n 0, 1) := by decide +kernel
theorem dX7_hasMouse_13 : decode cX7_hasMouse 13 = .ok (.getfield 21, 3) := by decide +kernel
theorem dX7_hasMouse_16 : decode cX7_hasMouse 16 = .ok (.iadd, 1) := by decide +kernel
theorem dX7_hasMouse_17 : decode cX7_hasMouse 17 = .ok (.iconst 1, 1) := by decide +kernel
theorem dX7_hasMouse_18 : decode cX7_hasMouse 18 = .ok (.isub, 1) := by decide +kernel
theorem dX7_hasMouse_19 : decode cX7_hasMouse 19 = .ok (.invokestatic 58, 3) := by decide +kernel
theorem dX7_hasMouse_22 : decode cX7_hasMouse 22 = .ok (.ifCond .eq 32, 3) := by decide +kernel
theorem dX7_hasMouse_25 : decode cX7_hasMouse 25 = .ok (.aload_n 1, 1) := by decide +kernel
theorem dX7_hasMouse_26 : decode cX7_hasMouse 26 = .ok (.getfield 62, 3) := by decide +kernel
theorem dX7_hasMouse_29 : decode cX7_hasMouse 29 = .ok (.aload_n 0, 1) := by decide +kernel
theorem dX7_hasMouse_30 : decode cX7_hasMouse 30 = .ok (.getfield 18, 3) := by decide +kernel
theorem dX7_hasMouse_33 : decode cX7_hasMouse 33 = .ok (.aload_n 0, 1) := by decide +kernel
theorem dX7_hasMouse_34 : decode cX7_hasMouse 34 = .ok (.getfield 18, 3) := by decide +kernel
theorem dX7_hasMouse_37 : decode cX7_hasMouse 37 = .ok (.aload_n 0, 1) := by decide +kernel
theorem dX7_hasMouse_38 : decode cX7_hasMouse 38 = .ok (.invokevirtual 65, 3) := by decide +kernel
theorem dX7_hasMouse_41 : decode cX7_hasMouse 41 = .ok (.iadd, 1) := by decide +kernel
theorem dX7_hasMouse_42 : decode cX7_hasMouse 42 = .ok (.iconst 1, 1) := by decide +kernel
theorem dX7_hasMouse_43 : decode cX7_hasMouse 43 = .ok (.isub, 1) := by decide +kernel
theorem dX7_hasMouse_44 : decode cX7_hasMouse 44 = .ok (.invokestatic 58, 3) := by decide +kernel
theorem dX7_hasMouse_47 : decode cX7_hasMouse 47 = .ok (.ifCond .eq 7, 3) := by decide +kernel
theorem dX7_hasMouse_50 : decode cX7_hasMouse 50 = .ok (.iconst 1, 1) := by decide +kernel
theorem dX7_hasMouse_51 : decode cX7_hasMouse 51 = .ok (.goto 4, 3) := by decide +kernel
theorem dX7_hasMouse_54 : decode cX7_hasMouse 54 = .ok (.iconst 0, 1) := by decide +kernel
theorem dX7_hasMouse_55 : decode cX7_hasMouse 55 = .ok (.ireturn, 1) := by decide +kernel
set_option maxHeartbeats 4000000 in
set_option maxRecDepth 100000 in
theorem m_X7_hasMouse (l : Launch) {Z : pZ} (S : pSh Z) {h : pH} (I : Iv Z h) (o : Nat) (ho : pIs Z o 7)  : pMet l yX7_hasMouse cX7_hasMouse 2 (some .boolean) 1 0 0 22 Z h [.ref (zB Z + o), .ref (zB Z + 1)] (pQi Z (fun r Z1 h1 => Z = Z1 ∧ Iv Z h1 ∧ agrD [] h h1 ∧ (r.toInt = 0 ∨ r.toInt = 1))) := by
  refine pOfW (lv := [(0, .ref (zB Z + o)), (1, .ref (zB Z + 1))]) (by decide) (Nat.le_of_ble_eq_true rfl) rfl ?_
  intro p e s m below meth c ls M hr hlk hnm V hl
  have hx := M.1.1
  have hb := M.1.2.1
  have A : agrD [] h h := agrD.rf
  have J_55 : ∀ (y55_0 : Int32) (hJ : pH) (H : Heap) (locs : List Loc) (ls : Array Slot), pV Z hJ s.heap H locs → Iv Z hJ → agrD [] h hJ → lv_has ls 2 [(0, .ref (zB Z + o)), (1, .ref (zB Z + 1))] → (0 ≤ y55_0.toInt ∧ y55_0.toInt ≤ 1) → W p l e (pRm 1 0 0 22) s m ([.ref (zB Z + o), .ref (zB Z + 1)] : List Value).toArray below meth c H locs 0 0 (MQ below (pQi Z (fun r Z1 h1 => Z = Z1 ∧ Iv Z h1 ∧ agrD [] h h1 ∧ (r.toInt = 0 ∨ r.toInt = 1))) ([.ref (zB Z + o), .ref (zB Z + 1)] : List Value).toArray s 0 0 (pA (zB Z))) (F0 m 55 ls [.int y55_0]) := by
    intro y55_0 hJ H locs ls V I A hl gs_55_0
    exact pe_i M V rfl rfl hr hlk (pn_z (pi_z (by omega))).1 ⟨rfl, I, A.wk (by decide), by omega⟩ ⟨Nat.le_refl _, Nat.le_refl _⟩ dX7_hasMouse_55
  have J_54 : ∀ (hJ : pH) (H : Heap) (locs : List Loc) (ls : Array Slot), pV Z hJ s.heap H locs → Iv Z hJ → agrD [] h hJ → lv_has ls 2 [(0, .ref (zB Z + o)), (1, .ref (zB Z + 1))] → W p l e (pRm 1 0 0 22) s m ([.ref (zB Z + o), .ref (zB Z + 1)] : List Value).toArray below meth c H locs 0 0 (MQ below (pQi Z (fun r Z1 h1 => Z = Z1 ∧ Iv Z h1 ∧ agrD [] h h1 ∧ (r.toInt = 0 ∨ r.toInt = 1))) ([.ref (zB Z + o), .ref (zB Z + 1)] : List Value).toArray s 0 0 (pA (zB Z))) (F0 m 54 ls []) := by
    intro hJ H locs ls V I A hl
    refine lv_iconst (v := 0) hx hb dX7_hasMouse_54 (by decide) ?_
    have k_0 : (0 : Int32).toInt = 0 := rfl
    exact J_55 (0 : Int32) _ _ _ _ V I (A.wk (by decide)) (lv_sub hl [0, 1] rfl) (by omega) 
  refine lv_aload_n hx hb dX7_hasMouse_0 rfl (lv_at hl 1 rfl) ?_
  refine pg_i M V 5 7 (c_is_1 S) pC5 fk5_7 lkF_X7_53 dX7_hasMouse_1 ?_
  refine lv_topi (fun v1 ev1 => ?_)
  refine lv_aload_n hx hb dX7_hasMouse_4 rfl (lv_at hl 0 rfl) ?_
  refine pg_i M V 7 1 ho pC7 fk7_1 lkF_X7_15 dX7_hasMouse_5 ?_
  refine lv_topi (fun v2 ev2 => ?_)
  refine lv_aload_n hx hb dX7_hasMouse_8 rfl (lv_at hl 0 rfl) ?_
  refine pg_i M V 7 1 ho pC7 fk7_1 lkF_X7_15 dX7_hasMouse_9 ?_
  refine lv_topi (fun v3 ev3 => ?_)
  refine lv_aload_n hx hb dX7_hasMouse_12 rfl (lv_at hl 0 rfl) ?_
  refine pg_i M V 7 3 ho pC7 fk7_3 lkF_X7_21 dX7_hasMouse_13 ?_
  refine lv_topi (fun v4 ev4 => ?_)
  refine lv_iadd hx hb dX7_hasMouse_16 ?_
  refine lv_topi (fun v5 ev5 => ?_)
  refine lv_iconst (v := 1) hx hb dX7_hasMouse_17 (by decide) ?_
  refine lv_isub hx hb dX7_hasMouse_18 ?_
  refine lv_topi (fun v6 ev6 => ?_)
  refine pk_i (pr_SN M V (m_X11_isWithin l (Z := Z) (h := _) v1 v2 v6) km_X11_isWithin lkN_X7_58 rfl hl.1 rfl (Nat.le_of_ble_eq_true rfl) ⟨Nat.le_of_ble_eq_true rfl, Nat.le_of_ble_eq_true rfl⟩ ⟨Nat.le_of_ble_eq_true rfl, Nat.le_of_ble_eq_true rfl⟩ dX7_hasMouse_19) V (fun r7 Zr7 hr7 H locs pr7 _ _ V => ?_)
  obtain ⟨rfl, rfl, fr7_0⟩ := pr7
  refine lv_if_eq (tgt := 54) hx hb dX7_hasMouse_22 (by decide) (fun c_22 => ?_) (fun c_22 => ?_)
  · skip
    have k_0 : (0 : Int32).toInt = 0 := rfl
    have c_22 := pi_eq.mp c_22
    exact J_54 _ _ _ _ V I (A.wk (by decide)) (lv_sub hl [0, 1] rfl) 
  · skip
    have k_0 : (0 : Int32).toInt = 0 := rfl
    have c_22 := pi_ne c_22
    refine lv_aload_n hx hb dX7_hasMouse_25 rfl (lv_at hl 1 rfl) ?_
    refine pg_i M V 5 8 (c_is_1 S) pC5 fk5_8 lkF_X7_62 dX7_hasMouse_26 ?_
    refine lv_topi (fun v8 ev8 => ?_)
    refine lv_aload_n hx hb dX7_hasMouse_29 rfl (lv_at hl 0 rfl) ?_
    refine pg_i M V 7 2 ho pC7 fk7_2 lkF_X7_18 dX7_hasMouse_30 ?_
    refine lv_topi (fun v9 ev9 => ?_)
    refine lv_aload_n hx hb dX7_hasMouse_33 rfl (lv_at hl 0 rfl) ?_
    refine pg_i M V 7 2 ho pC7 fk7_2 lkF_X7_18 dX7_hasMouse_34 ?_
    refine lv_topi (fun v10 ev10 => ?_)
    refine lv_aload_n hx hb dX7_hasMouse_37 rfl (lv_at hl 0 rfl) ?_
    refine pk_i (pr_V M V (m_X7_heightNow l S I o ho ) km_X7_heightNow ho pC7 lkM_X7_65 rfl hl.1 rfl (Nat.le_of_ble_eq_true rfl) ⟨Nat.le_of_ble_eq_true rfl, Nat.le_of_ble_eq_true rfl⟩ ⟨Nat.le_of_ble_eq_true rfl, Nat.le_of_ble_eq_true rfl⟩ dX7_hasMouse_38) V (fun r11 Zr11 hr11 H locs pr11 _ _ V => ?_)
    obtain ⟨rfl, I, pA_r11⟩ := pr11
    have A := A.tr pA_r11 (by decide)
    refine lv_iadd hx hb dX7_hasMouse_41 ?_
    refine lv_topi (fun v12 ev12 => ?_)
    refine lv_iconst (v := 1) hx hb dX7_hasMouse_42 (by decide) ?_
    refine lv_isub hx hb dX7_hasMouse_43 ?_
    refine lv_topi (fun v13 ev13 => ?_)
    refine pk_i (pr_SN M V (m_X11_isWithin l (Z := Z) (h := _) v8 v9 v13) km_X11_isWithin lkN_X7_58 rfl hl.1 rfl (Nat.le_of_ble_eq_true rfl) ⟨Nat.le_of_ble_eq_true rfl, Nat.le_of_ble_eq_true rfl⟩ ⟨Nat.le_of_ble_eq_true rfl, Nat.le_of_ble_eq_true rfl⟩ dX7_hasMouse_44) V (fun r14 Zr14 hr14 H locs pr14 _ _ V => ?_)
    obtain ⟨rfl, rfl, fr14_0⟩ := pr14
    refine lv_if_eq (tgt := 54) hx hb dX7_hasMouse_47 (by decide) (fun c_47 => ?_) (fun c_47 => ?_)
    · skip
      have c_47 := pi_eq.mp c_47
      exact J_54 _ _ _ _ V I (A.wk (by decide)) (lv_sub hl [0, 1] rfl) 
    · skip
      have c_47 := pi_ne c_47
      refine lv_iconst (v := 1) hx hb dX7_hasMouse_50 (by decide) ?_
      refine lv_goto (tgt := 55) hx hb dX7_hasMouse_51 (by decide) ?_
      have k_1 : (1 : Int32).toInt = 1 := rfl
      exact J_55 (1 : Int32) _ _ _ _ V I (A.wk (by decide)) (lv_sub hl [0, 1] rfl) (by omega) 
theorem dX7_hasInTitle_0 : decode cX7_hasInTitle 0 = .ok (.aload_n 0, 1) := by decide +kernel
theorem dX7_hasInTitle_1 : decode cX7_hasInTitle 1 = .ok (.aload_n 1, 1) := by decide +kernel
theorem dX7_hasInTitle_2 : decode cX7_hasInTitle 2 = .ok (.invokevirtual 69, 3) := by decide +kernel
theorem dX7_hasInTitle_5 : decode cX7_hasInTitle 5 = .ok (.ifCond .eq 23, 3) := by decide +kernel
theorem dX7_hasInTitle_8 : decode cX7_hasInTitle 8 = .ok (.aload_n 1, 1) := by decide +kernel
theorem dX7_hasInTitle_9 : decode cX7_hasInTitle 9 = .ok (.getfield 62, 3) := by decide +kernel
theorem dX7_hasInTitle_12 : decode cX7_hasInTitle 12 = .ok (.aload_n 0, 1) := by decide +kernel
theorem dX7_hasInTitle_13 : decode cX7_hasInTitle 13 = .ok (.getfield 18, 3) := by decide +kernel
theorem dX7_hasInTitle_16 : decode cX7_hasInTitle 16 = .ok (.aload_n 0, 1) := by decide +kernel
theorem dX7_hasInTitle_17 : decode cX7_hasInTitle 17 = .ok (.getfield 9, 3) := by decide +kernel
theorem dX7_hasInTitle_20 : decode cX7_hasInTitle 20 = .ok (.iadd, 1) := by decide +kernel
theorem dX7_hasInTitle_21 : decode cX7_hasInTitle 21 = .ok (.if_icmp .ge 7, 3) := by decide +kernel
theorem dX7_hasInTitle_24 : decode cX7_hasInTitle 24 = .ok (.iconst 1, 1) := by decide +kernel
theorem dX7_hasInTitle_25 : decode cX7_hasInTitle 25 = .ok (.goto 4, 3) := by decide +kernel
theorem dX7_hasInTitle_28 : decode cX7_hasInTitle 28 = .ok (.iconst 0, 1) := by decide +kernel
theorem dX7_hasInTitle_29 : decode cX7_hasInTitle 29 = .ok (.ireturn, 1) := by decide +kernel
set_option maxHeartbeats 4000000 in
set_option maxRecDepth 100000 in
theorem m_X7_hasInTitle (l : Launch) {Z : pZ} (S : pSh Z) {h : pH} (I : Iv Z h) (o : Nat) (ho : pIs Z o 7)  : pMet l yX7_hasInTitle cX7_hasInTitle 2 (some .boolean) 2 0 0 43 Z h [.ref (zB Z + o), .ref (zB Z + 1)] (pQi Z (fun r Z1 h1 => Z = Z1 ∧ Iv Z h1 ∧ agrD [] h h1 ∧ (r.toInt = 0 ∨ r.toInt = 1))) := by
  refine pOfW (lv := [(0, .ref (zB Z + o)), (1, .ref (zB Z + 1))]) (by decide) (Nat.le_of_ble_eq_true rfl) rfl ?_
  intro p e s m below meth c ls M hr hlk hnm V hl
  have hx := M.1.1
  have hb := M.1.2.1
  have A : agrD [] h h := agrD.rf
  have J_29 : ∀ (y29_0 : Int32) (hJ : pH) (H : Heap) (locs : List Loc) (ls : Array Slot), pV Z hJ s.heap H locs → Iv Z hJ → agrD [] h hJ → lv_has ls 2 [(0, .ref (zB Z + o)), (1, .ref (zB Z + 1))] → (0 ≤ y29_0.toInt ∧ y29_0.toInt ≤ 1) → W p l e (pRm 2 0 0 43) s m ([.ref (zB Z + o), .ref (zB Z + 1)] : List Value).toArray below meth c H locs 0 0 (MQ below (pQi Z (fun r Z1 h1 => Z = Z1 ∧ Iv Z h1 ∧ agrD [] h h1 ∧ (r.toInt = 0 ∨ r.toInt = 1))) ([.ref (zB Z + o), .ref (zB Z + 1)] : List Value).toArray s 0 0 (pA (zB Z))) (F0 m 29 ls [.int y29_0]) := by
    intro y29_0 hJ H locs ls V I A hl gs_29_0
    exact pe_i M V rfl rfl hr hlk (pn_z (pi_z (by omega))).1 ⟨rfl, I, A.wk (by decide), by omega⟩ ⟨Nat.le_refl _, Nat.le_refl _⟩ dX7_hasInTitle_29
  have J_28 : ∀ (hJ : pH) (H : Heap) (locs : List Loc) (ls : Array Slot), pV Z hJ s.heap H locs → Iv Z hJ → agrD [] h hJ → lv_has ls 2 [(0, .ref (zB Z + o)), (1, .ref (zB Z + 1))] → W p l e (pRm 2 0 0 43) s m ([.ref (zB Z + o), .ref (zB Z + 1)] : List Value).toArray below meth c H locs 0 0 (MQ below (pQi Z (fun r Z1 h1 => Z = Z1 ∧ Iv Z h1 ∧ agrD [] h h1 ∧ (r.toInt = 0 ∨ r.toInt = 1))) ([.ref (zB Z + o), .ref (zB Z + 1)] : List Value).toArray s 0 0 (pA (zB Z))) (F0 m 28 ls []) := by
    intro hJ H locs ls V I A hl
    refine lv_iconst (v := 0) hx hb dX7_hasInTitle_28 (by decide) ?_
    have k_0 : (0 : Int32).toInt = 0 := rfl
    exact J_29 (0 : Int32) _ _ _ _ V I (A.wk (by decide)) (lv_sub hl [0, 1] rfl) (by omega) 
  refine lv_aload_n hx hb dX7_hasInTitle_0 rfl (lv_at hl 0 rfl) ?_
  refine lv_aload_n hx hb dX7_hasInTitle_1 rfl (lv_at hl 1 rfl) ?_
  refine pk_i (pr_V M V (m_X7_hasMouse l S I o ho  ) km_X7_hasMouse ho pC7 lkM_X7_69 rfl hl.1 rfl (Nat.le_of_ble_eq_true rfl) ⟨Nat.le_of_ble_eq_true rfl, Nat.le_of_ble_eq_true rfl⟩ ⟨Nat.le_of_ble_eq_true rfl, Nat.le_of_ble_eq_true rfl⟩ dX7_hasInTitle_2) V (fun r1 Zr1 hr1 H locs pr1 _ _ V => ?_)
  obtain ⟨rfl, I, pA_r1, fr1_0⟩ := pr1
  have A := A.tr pA_r1 (by decide)
  refine lv_if_eq (tgt := 28) hx hb dX7_hasInTitle_5 (by decide) (fun c_5 => ?_) (fun c_5 => ?_)
  · skip
    have k_0 : (0 : Int32).toInt = 0 := rfl
    have c_5 := pi_eq.mp c_5
    exact J_28 _ _ _ _ V I (A.wk (by decide)) (lv_sub hl [0, 1] rfl) 
  · skip
    have k_0 : (0 : Int32).toInt = 0 := rfl
    have c_5 := pi_ne c_5
    refine lv_aload_n hx hb dX7_hasInTitle_8 rfl (lv_at hl 1 rfl) ?_
    refine pg_i M V 5 8 (c_is_1 S) pC5 fk5_8 lkF_X7_62 dX7_hasInTitle_9 ?_
    refine lv_topi (fun v2 ev2 => ?_)
    refine lv_aload_n hx hb dX7_hasInTitle_12 rfl (lv_at hl 0 rfl) ?_
    refine pg_i M V 7 2 ho pC7 fk7_2 lkF_X7_18 dX7_hasInTitle_13 ?_
    refine lv_topi (fun v3 ev3 => ?_)
    refine lv_aload_n hx hb dX7_hasInTitle_16 rfl (lv_at hl 0 rfl) ?_
    refine pg_i M V 7 0 ho pC7 fk7_0 lkF_X7_9 dX7_hasInTitle_17 ?_
    refine lv_topi (fun v4 ev4 => ?_)
    refine lv_iadd hx hb dX7_hasInTitle_20 ?_
    refine lv_topi (fun v5 ev5 => ?_)
    refine lv_icmp_ge (tgt := 28) hx hb dX7_hasInTitle_21 (by decide) (fun c_21 => ?_) (fun c_21 => ?_)
    · skip
      have c_21 := pi_le.mp c_21
      exact J_28 _ _ _ _ V I (A.wk (by decide)) (lv_sub hl [0, 1] rfl) 
    · skip
      have c_21 := pi_le' c_21
      refine lv_iconst (v := 1) hx hb dX7_hasInTitle_24 (by decide) ?_
      refine lv_goto (tgt := 29) hx hb dX7_hasInTitle_25 (by decide) ?_
      have k_1 : (1 : Int32).toInt = 1 := rfl
      exact J_29 (1 : Int32) _ _ _ _ V I (A.wk (by decide)) (lv_sub hl [0, 1] rfl) (by omega) 
theorem dX7_setOutside_0 : decode cX7_setOutside 0 = .ok (.aload_n 1, 1) := by decide +kernel
theorem dX7_setOutside_1 : decode cX7_setOutside 1 = .ok (.aload_n 0, 1) := by decide +kernel
theorem dX7_setOutside_2 : decode cX7_setOutside 2 = .ok (.getfield 15, 3) := by decide +kernel
theorem dX7_setOutside_5 : decode cX7_setOutside 5 = .ok (.aload_n 0, 1) := by decide +kernel
theorem dX7_setOutside_6 : decode cX7_setOutside 6 = .ok (.getfield 18, 3) := by decide +kernel
theorem dX7_setOutside_9 : decode cX7_setOutside 9 = .ok (.aload_n 0, 1) := by decide +kernel
theorem dX7_setOutside_10 : decode cX7_setOutside 10 = .ok (.getfield 15, 3) := by decide +kernel
theorem dX7_setOutside_13 : decode cX7_setOutside 13 = .ok (.aload_n 0, 1) := by decide +kernel
theorem dX7_setOutside_14 : decode cX7_setOutside 14 = .ok (.getfield 21, 3) := by decide +kernel
theorem dX7_setOutside_17 : decode cX7_setOutside 17 = .ok (.iadd, 1) := by decide +kernel
theorem dX7_setOutside_18 : decode cX7_setOutside 18 = .ok (.aload_n 0, 1) := by decide +kernel
theorem dX7_setOutside_19 : decode cX7_setOutside 19 = .ok (.getfield 18, 3) := by decide +kernel
theorem dX7_setOutside_22 : decode cX7_setOutside 22 = .ok (.aload_n 0, 1) := by decide +kernel
theorem dX7_setOutside_23 : decode cX7_setOutside 23 = .ok (.invokevirtual 65, 3) := by decide +kernel
theorem dX7_setOutside_26 : decode cX7_setOutside 26 = .ok (.iadd, 1) := by decide +kernel
theorem dX7_setOutside_27 : decode cX7_setOutside 27 = .ok (.invokevirtual 73, 3) := by decide +kernel
theorem dX7_setOutside_30 : decode cX7_setOutside 30 = .ok (.aload_n 1, 1) := by decide +kernel
theorem dX7_setOutside_31 : decode cX7_setOutside 31 = .ok (.invokevirtual 79, 3) := by decide +kernel
theorem dX7_setOutside_34 : decode cX7_setOutside 34 = .ok (.return_, 1) := by decide +kernel
set_option maxHeartbeats 4000000 in
set_option maxRecDepth 100000 in
theorem m_X7_setOutside (l : Launch) {Z : pZ} (S : pSh Z) {h : pH} (I : Iv Z h) (o : Nat) (ho : pIs Z o 7) (o2 : Nat) (ho2 : pIs Z o2 2)  : pMet l yX7_setOutside cX7_setOutside 2 none 2 0 0 44 Z h [.ref (zB Z + o), .ref (zB Z + o2)] (pQv Z (fun Z1 h1 => Z = Z1 ∧ Iv Z h1 ∧ agrD [] h h1)) := by
  refine pOfW (lv := [(0, .ref (zB Z + o)), (1, .ref (zB Z + o2))]) (by decide) (Nat.le_of_ble_eq_true rfl) rfl ?_
  intro p e s m below meth c ls M hr hlk hnm V hl
  have hx := M.1.1
  have hb := M.1.2.1
  have A : agrD [] h h := agrD.rf
  refine lv_aload_n hx hb dX7_setOutside_0 rfl (lv_at hl 1 rfl) ?_
  refine lv_aload_n hx hb dX7_setOutside_1 rfl (lv_at hl 0 rfl) ?_
  refine pg_i M V 7 1 ho pC7 fk7_1 lkF_X7_15 dX7_setOutside_2 ?_
  refine lv_topi (fun v1 ev1 => ?_)
  refine lv_aload_n hx hb dX7_setOutside_5 rfl (lv_at hl 0 rfl) ?_
  refine pg_i M V 7 2 ho pC7 fk7_2 lkF_X7_18 dX7_setOutside_6 ?_
  refine lv_topi (fun v2 ev2 => ?_)
  refine lv_aload_n hx hb dX7_setOutside_9 rfl (lv_at hl 0 rfl) ?_
  refine pg_i M V 7 1 ho pC7 fk7_1 lkF_X7_15 dX7_setOutside_10 ?_
  refine lv_topi (fun v3 ev3 => ?_)
  refine lv_aload_n hx hb dX7_setOutside_13 rfl (lv_at hl 0 rfl) ?_
  refine pg_i M V 7 3 ho pC7 fk7_3 lkF_X7_21 dX7_setOutside_14 ?_
  refine lv_topi (fun v4 ev4 => ?_)
  refine lv_iadd hx hb dX7_setOutside_17 ?_
  refine lv_topi (fun v5 ev5 => ?_)
  refine lv_aload_n hx hb dX7_setOutside_18 rfl (lv_at hl 0 rfl) ?_
  refine pg_i M V 7 2 ho pC7 fk7_2 lkF_X7_18 dX7_setOutside_19 ?_
  refine lv_topi (fun v6 ev6 => ?_)
  refine lv_aload_n hx hb dX7_setOutside_22 rfl (lv_at hl 0 rfl) ?_
  refine pk_i (pr_V M V (m_X7_heightNow l S I o ho ) km_X7_heightNow ho pC7 lkM_X7_65 rfl hl.1 rfl (Nat.le_of_ble_eq_true rfl) ⟨Nat.le_of_ble_eq_true rfl, Nat.le_of_ble_eq_true rfl⟩ ⟨Nat.le_of_ble_eq_true rfl, Nat.le_of_ble_eq_true rfl⟩ dX7_setOutside_23) V (fun r7 Zr7 hr7 H locs pr7 _ _ V => ?_)
  obtain ⟨rfl, I, pA_r7⟩ := pr7
  have A := A.tr pA_r7 (by decide)
  refine lv_iadd hx hb dX7_setOutside_26 ?_
  refine lv_topi (fun v8 ev8 => ?_)
  refine pk_v (pr_V M V (m_X2_set l S I o2 ho2 v1 v2 v5 v8 ) km_X2_set ho2 pC2 lkM_X7_73 rfl hl.1 rfl (Nat.le_of_ble_eq_true rfl) ⟨Nat.le_of_ble_eq_true rfl, Nat.le_of_ble_eq_true rfl⟩ ⟨Nat.le_of_ble_eq_true rfl, Nat.le_of_ble_eq_true rfl⟩ dX7_setOutside_27) V (fun Zr9 hr9 H locs pr9 _ _ V => ?_)
  obtain ⟨rfl, I, pA_r9⟩ := pr9
  have A := A.tr pA_r9 (by decide)
  refine lv_aload_n hx hb dX7_setOutside_30 rfl (lv_at hl 1 rfl) ?_
  refine pk_v (pr_V M V (m_X2_cutToScreen l S I o2 ho2 ) km_X2_cutToScreen ho2 pC2 lkM_X7_79 rfl hl.1 rfl (Nat.le_of_ble_eq_true rfl) ⟨Nat.le_of_ble_eq_true rfl, Nat.le_of_ble_eq_true rfl⟩ ⟨Nat.le_of_ble_eq_true rfl, Nat.le_of_ble_eq_true rfl⟩ dX7_setOutside_31) V (fun Zr10 hr10 H locs pr10 _ _ V => ?_)
  obtain ⟨rfl, I, pA_r10⟩ := pr10
  have A := A.tr pA_r10 (by decide)
  exact pe_v M V rfl rfl hr hlk ⟨rfl, I, A.wk (by decide)⟩ ⟨Nat.le_refl _, Nat.le_refl _⟩ dX7_setOutside_34
theorem dX7_setInside_0 : decode cX7_setInside 0 = .ok (.aload_n 1, 1) := by decide +kernel
theorem dX7_setInside_1 : decode cX7_setInside 1 = .ok (.aload_n 0, 1) := by decide +kernel
theorem dX7_setInside_2 : decode cX7_setInside 2 = .ok (.getfield 15, 3) := by decide +kernel
theorem dX7_setInside_5 : decode cX7_setInside 5 = .ok (.aload_n 0, 1) := by decide +kernel
theorem dX7_setInside_6 : decode cX7_setInside 6 = .ok (.getfield 18, 3) := by decide +kernel
theorem dX7_setInside_9 : decode cX7_setInside 9 = .ok (.aload_n 0, 1) := by decide +kernel
theorem dX7_setInside_10 : decode cX7_setInside 10 = .ok (.getfield 9, 3) := by decide +kernel
theorem dX7_setInside_13 : decode cX7_setInside 13 = .ok (.iadd, 1) := by decide +kernel
theorem dX7_setInside_14 : decode cX7_setInside 14 = .ok (.aload_n 0, 1) := by decide +kernel
theorem dX7_setInside_15 : decode cX7_setInside 15 = .ok (.getfield 15, 3) := by decide +kernel
theorem dX7_setInside_18 : decode cX7_setInside 18 = .ok (.aload_n 0, 1) := by decide +kernel
theorem dX7_setInside_19 : decode cX7_setInside 19 = .ok (.getfield 21, 3) := by decide +kernel
theorem dX7_setInside_22 : decode cX7_setInside 22 = .ok (.iadd, 1) := by decide +kernel
theorem dX7_setInside_23 : decode cX7_setInside 23 = .ok (.aload_n 0, 1) := by decide +kernel
theorem dX7_setInside_24 : decode cX7_setInside 24 = .ok (.getfield 18, 3) := by decide +kernel
theorem dX7_setInside_27 : decode cX7_setInside 27 = .ok (.aload_n 0, 1) := by decide +kernel
theorem dX7_setInside_28 : decode cX7_setInside 28 = .ok (.invokevirtual 65, 3) := by decide +kernel
theorem dX7_setInside_31 : decode cX7_setInside 31 = .ok (.iadd, 1) := by decide +kernel
theorem dX7_setInside_32 : decode cX7_setInside 32 = .ok (.invokevirtual 73, 3) := by decide +kernel
theorem dX7_setInside_35 : decode cX7_setInside 35 = .ok (.aload_n 1, 1) := by decide +kernel
theorem dX7_setInside_36 : decode cX7_setInside 36 = .ok (.invokevirtual 79, 3) := by decide +kernel
theorem dX7_setInside_39 : decode cX7_setInside 39 = .ok (.return_, 1) := by decide +kernel
set_option maxHeartbeats 4000000 in
set_option maxRecDepth 100000 in
theorem m_X7_setInside (l : Launch) {Z : pZ} (S : pSh Z) {h : pH} (I : Iv Z h) (o : Nat) (ho : pIs Z o 7) (o2 : Nat) (ho2 : pIs Z o2 2)  : pMet l yX7_setInside cX7_setInside 2 none 2 0 0 44 Z h [.ref (zB Z + o), .ref (zB Z + o2)] (pQv Z (fun Z1 h1 => Z = Z1 ∧ Iv Z h1 ∧ agrD [] h h1)) := by
  refine pOfW (lv := [(0, .ref (zB Z + o)), (1, .ref (zB Z + o2))]) (by decide) (Nat.le_of_ble_eq_true rfl) rfl ?_
  intro p e s m below meth c ls M hr hlk hnm V hl
  have hx := M.1.1
  have hb := M.1.2.1
  have A : agrD [] h h := agrD.rf
  refine lv_aload_n hx hb dX7_setInside_0 rfl (lv_at hl 1 rfl) ?_
  refine lv_aload_n hx hb dX7_setInside_1 rfl (lv_at hl 0 rfl) ?_
  refine pg_i M V 7 1 ho pC7 fk7_1 lkF_X7_15 dX7_setInside_2 ?_
  refine lv_topi (fun v1 ev1 => ?_)
  refine lv_aload_n hx hb dX7_setInside_5 rfl (lv_at hl 0 rfl) ?_
  refine pg_i M V 7 2 ho pC7 fk7_2 lkF_X7_18 dX7_setInside_6 ?_
  refine lv_topi (fun v2 ev2 => ?_)
  refine lv_aload_n hx hb dX7_setInside_9 rfl (lv_at hl 0 rfl) ?_
  refine pg_i M V 7 0 ho pC7 fk7_0 lkF_X7_9 dX7_setInside_10 ?_
  refine lv_topi (fun v3 ev3 => ?_)
  refine lv_iadd hx hb dX7_setInside_13 ?_
  refine lv_topi (fun v4 ev4 => ?_)
  refine lv_aload_n hx hb dX7_setInside_14 rfl (lv_at hl 0 rfl) ?_
  refine pg_i M V 7 1 ho pC7 fk7_1 lkF_X7_15 dX7_setInside_15 ?_
  refine lv_topi (fun v5 ev5 => ?_)
  refine lv_aload_n hx hb dX7_setInside_18 rfl (lv_at hl 0 rfl) ?_
  refine pg_i M V 7 3 ho pC7 fk7_3 lkF_X7_21 dX7_setInside_19 ?_
  refine lv_topi (fun v6 ev6 => ?_)
  refine lv_iadd hx hb dX7_setInside_22 ?_
  refine lv_topi (fun v7 ev7 => ?_)
  refine lv_aload_n hx hb dX7_setInside_23 rfl (lv_at hl 0 rfl) ?_
  refine pg_i M V 7 2 ho pC7 fk7_2 lkF_X7_18 dX7_setInside_24 ?_
  refine lv_topi (fun v8 ev8 => ?_)
  refine lv_aload_n hx hb dX7_setInside_27 rfl (lv_at hl 0 rfl) ?_
  refine pk_i (pr_V M V (m_X7_heightNow l S I o ho ) km_X7_heightNow ho pC7 lkM_X7_65 rfl hl.1 rfl (Nat.le_of_ble_eq_true rfl) ⟨Nat.le_of_ble_eq_true rfl, Nat.le_of_ble_eq_true rfl⟩ ⟨Nat.le_of_ble_eq_true rfl, Nat.le_of_ble_eq_true rfl⟩ dX7_setInside_28) V (fun r9 Zr9 hr9 H locs pr9 _ _ V => ?_)
  obtain ⟨rfl, I, pA_r9⟩ := pr9
  have A := A.tr pA_r9 (by decide)
  refine lv_iadd hx hb dX7_setInside_31 ?_
  refine lv_topi (fun v10 ev10 => ?_)
  refine pk_v (pr_V M V (m_X2_set l S I o2 ho2 v1 v4 v7 v10 ) km_X2_set ho2 pC2 lkM_X7_73 rfl hl.1 rfl (Nat.le_of_ble_eq_true rfl) ⟨Nat.le_of_ble_eq_true rfl, Nat.le_of_ble_eq_true rfl⟩ ⟨Nat.le_of_ble_eq_true rfl, Nat.le_of_ble_eq_true rfl⟩ dX7_setInside_32) V (fun Zr11 hr11 H locs pr11 _ _ V => ?_)
  obtain ⟨rfl, I, pA_r11⟩ := pr11
  have A := A.tr pA_r11 (by decide)
  refine lv_aload_n hx hb dX7_setInside_35 rfl (lv_at hl 1 rfl) ?_
  refine pk_v (pr_V M V (m_X2_cutToScreen l S I o2 ho2 ) km_X2_cutToScreen ho2 pC2 lkM_X7_79 rfl hl.1 rfl (Nat.le_of_ble_eq_true rfl) ⟨Nat.le_of_ble_eq_true rfl, Nat.le_of_ble_eq_true rfl⟩ ⟨Nat.le_of_ble_eq_true rfl, Nat.le_of_ble_eq_true rfl⟩ dX7_setInside_36) V (fun Zr12 hr12 H locs pr12 _ _ V => ?_)
  obtain ⟨rfl, I, pA_r12⟩ := pr12
  have A := A.tr pA_r12 (by decide)
  exact pe_v M V rfl rfl hr hlk ⟨rfl, I, A.wk (by decide)⟩ ⟨Nat.le_refl _, Nat.le_refl _⟩ dX7_setInside_39
theorem dX7_answer_0 : decode cX7_answer 0 = .ok (.iload_n 1, 1) := by decide +kernel
theorem dX7_answer_1 : decode cX7_answer 1 = .ok (.tableswitch 81 0 6 #[43, 48, 53, 58, 63, 68, 73], 43) := by decide +kernel
theorem dX7_answer_44 : decode cX7_answer 44 = .ok (.aload_n 0, 1) := by decide +kernel
theorem dX7_answer_45 : decode cX7_answer 45 = .ok (.getfield 15, 3) := by decide +kernel
theorem dX7_answer_48 : decode cX7_answer 48 = .ok (.ireturn, 1) := by decide +kernel
theorem dX7_answer_49 : decode cX7_answer 49 = .ok (.aload_n 0, 1) := by decide +kernel
theorem dX7_answer_50 : decode cX7_answer 50 = .ok (.getfield 18, 3) := by decide +kernel
theorem dX7_answer_53 : decode cX7_answer 53 = .ok (.ireturn, 1) := by decide +kernel
theorem dX7_answer_54 : decode cX7_answer 54 = .ok (.aload_n 0, 1) := by decide +kernel
theorem dX7_answer_55 : decode cX7_answer 55 = .ok (.getfield 21, 3) := by decide +kernel
theorem dX7_answer_58 : decode cX7_answer 58 = .ok (.ireturn, 1) := by decide +kernel
theorem dX7_answer_59 : decode cX7_answer 59 = .ok (.aload_n 0, 1) := by decide +kernel
theorem dX7_answer_60 : decode cX7_answer 60 = .ok (.getfield 24, 3) := by decide +kernel
theorem dX7_answer_63 : decode cX7_answer 63 = .ok (.ireturn, 1) := by decide +kernel
theorem dX7_answer_64 : decode cX7_answer 64 = .ok (.aload_n 0, 1) := by decide +kernel
theorem dX7_answer_65 : decode cX7_answer 65 = .ok (.getfield 34, 3) := by decide +kernel
theorem dX7_answer_68 : decode cX7_answer 68 = .ok (.ireturn, 1) := by decide +kernel
theorem dX7_answer_69 : decode cX7_answer 69 = .ok (.aload_n 0, 1) := by decide +kernel
theorem dX7_answer_70 : decode cX7_answer 70 = .ok (.getfield 37, 3) := by decide +kernel
theorem dX7_answer_73 : decode cX7_answer 73 = .ok (.ireturn, 1) := by decide +kernel
theorem dX7_answer_74 : decode cX7_answer 74 = .ok (.aload_n 0, 1) := by decide +kernel
theorem dX7_answer_75 : decode cX7_answer 75 = .ok (.getfield 50, 3) := by decide +kernel
theorem dX7_answer_78 : decode cX7_answer 78 = .ok (.invokestatic 82, 3) := by decide +kernel
theorem dX7_answer_81 : decode cX7_answer 81 = .ok (.ireturn, 1) := by decide +kernel
theorem dX7_answer_82 : decode cX7_answer 82 = .ok (.aload_n 0, 1) := by decide +kernel
theorem dX7_answer_83 : decode cX7_answer 83 = .ok (.getfield 31, 3) := by decide +kernel
theorem dX7_answer_86 : decode cX7_answer 86 = .ok (.invokestatic 82, 3) := by decide +kernel
theorem dX7_answer_89 : decode cX7_answer 89 = .ok (.ireturn, 1) := by decide +kernel
set_option maxHeartbeats 4000000 in
set_option maxRecDepth 100000 in
theorem m_X7_answer (l : Launch) {Z : pZ} (S : pSh Z) {h : pH} (I : Iv Z h) (o : Nat) (ho : pIs Z o 7) (what : Int32)  : pMet l yX7_answer cX7_answer 2 (some .int) 1 0 0 20 Z h [.ref (zB Z + o), .int what] (pQi Z (fun r Z1 h1 => Z = Z1 ∧ Iv Z h1 ∧ agrD [] h h1)) := by
  refine pOfW (lv := [(0, .ref (zB Z + o)), (1, .int what)]) (by decide) (Nat.le_of_ble_eq_true rfl) rfl ?_
  intro p e s m below meth c ls M hr hlk hnm V hl
  have hx := M.1.1
  have hb := M.1.2.1
  have A : agrD [] h h := agrD.rf
  refine lv_iload_n hx hb dX7_answer_0 rfl (lv_at hl 1 rfl) ?_
  by_cases w_1 : what.toInt < 0 ∨ 6 < what.toInt
  · refine lv_tableOut (tgt := 82) hx hb dX7_answer_1 w_1 (by decide) ?_
    refine lv_aload_n hx hb dX7_answer_82 rfl (lv_at hl 0 rfl) ?_
    refine pg_i M V 7 9 ho pC7 fk7_9 lkF_X7_31 dX7_answer_83 ?_
    refine lv_topi (fun v1 ev1 => ?_)
    have tv1 : 0 ≤ v1.toInt ∧ v1.toInt ≤ 1 := by rw [ev1]; exact I.get ho 9
    refine pk_i (pr_SN M V (m_X11_oneIf l (Z := Z) (h := _) v1) km_X11_oneIf lkN_X7_82 rfl hl.1 rfl (Nat.le_of_ble_eq_true rfl) ⟨Nat.le_of_ble_eq_true rfl, Nat.le_of_ble_eq_true rfl⟩ ⟨Nat.le_of_ble_eq_true rfl, Nat.le_of_ble_eq_true rfl⟩ dX7_answer_86) V (fun r2 Zr2 hr2 H locs pr2 _ _ V => ?_)
    obtain ⟨rfl, rfl, fr2_0⟩ := pr2
    exact pe_i M V rfl rfl hr hlk rfl ⟨rfl, I, A.wk (by decide)⟩ ⟨Nat.le_refl _, Nat.le_refl _⟩ dX7_answer_89
  · obtain w_1 | w_1 | w_1 | w_1 | w_1 | w_1 | w_1 : what.toInt = 0 ∨ what.toInt = 1 ∨ what.toInt = 2 ∨ what.toInt = 3 ∨ what.toInt = 4 ∨ what.toInt = 5 ∨ what.toInt = 6 := by omega
    · refine lv_tableIn (tgt := 44) (off := 43) hx hb dX7_answer_1 (by omega) (by omega) (by rw [w_1]; rfl) (by decide) ?_
      refine lv_aload_n hx hb dX7_answer_44 rfl (lv_at hl 0 rfl) ?_
      refine pg_i M V 7 1 ho pC7 fk7_1 lkF_X7_15 dX7_answer_45 ?_
      refine lv_topi (fun v3 ev3 => ?_)
      exact pe_i M V rfl rfl hr hlk rfl ⟨rfl, I, A.wk (by decide)⟩ ⟨Nat.le_refl _, Nat.le_refl _⟩ dX7_answer_48
    · refine lv_tableIn (tgt := 49) (off := 48) hx hb dX7_answer_1 (by omega) (by omega) (by rw [w_1]; rfl) (by decide) ?_
      refine lv_aload_n hx hb dX7_answer_49 rfl (lv_at hl 0 rfl) ?_
      refine pg_i M V 7 2 ho pC7 fk7_2 lkF_X7_18 dX7_answer_50 ?_
      refine lv_topi (fun v4 ev4 => ?_)
      exact pe_i M V rfl rfl hr hlk rfl ⟨rfl, I, A.wk (by decide)⟩ ⟨Nat.le_refl _, Nat.le_refl _⟩ dX7_answer_53
    · refine lv_tableIn (tgt := 54) (off := 53) hx hb dX7_answer_1 (by omega) (by omega) (by rw [w_1]; rfl) (by decide) ?_
      refine lv_aload_n hx hb dX7_answer_54 rfl (lv_at hl 0 rfl) ?_
      refine pg_i M V 7 3 ho pC7 fk7_3 lkF_X7_21 dX7_answer_55 ?_
      refine lv_topi (fun v5 ev5 => ?_)
      exact pe_i M V rfl rfl hr hlk rfl ⟨rfl, I, A.wk (by decide)⟩ ⟨Nat.le_refl _, Nat.le_refl _⟩ dX7_answer_58
    · refine lv_tableIn (tgt := 59) (off := 58) hx hb dX7_answer_1 (by omega) (by omega) (by rw [w_1]; rfl) (by decide) ?_
      refine lv_aload_n hx hb dX7_answer_59 rfl (lv_at hl 0 rfl) ?_
      refine pg_i M V 7 4 ho pC7 fk7_4 lkF_X7_24 dX7_answer_60 ?_
      refine lv_topi (fun v6 ev6 => ?_)
      exact pe_i M V rfl rfl hr hlk rfl ⟨rfl, I, A.wk (by decide)⟩ ⟨Nat.le_refl _, Nat.le_refl _⟩ dX7_answer_63
    · refine lv_tableIn (tgt := 64) (off := 63) hx hb dX7_answer_1 (by omega) (by omega) (by rw [w_1]; rfl) (by decide) ?_
      refine lv_aload_n hx hb dX7_answer_64 rfl (lv_at hl 0 rfl) ?_
      refine pg_i M V 7 5 ho pC7 fk7_5 lkF_X7_34 dX7_answer_65 ?_
      refine lv_topi (fun v7 ev7 => ?_)
      exact pe_i M V rfl rfl hr hlk rfl ⟨rfl, I, A.wk (by decide)⟩ ⟨Nat.le_refl _, Nat.le_refl _⟩ dX7_answer_68
    · refine lv_tableIn (tgt := 69) (off := 68) hx hb dX7_answer_1 (by omega) (by omega) (by rw [w_1]; rfl) (by decide) ?_
      refine lv_aload_n hx hb dX7_answer_69 rfl (lv_at hl 0 rfl) ?_
      refine pg_i M V 7 6 ho pC7 fk7_6 lkF_X7_37 dX7_answer_70 ?_
      refine lv_topi (fun v8 ev8 => ?_)
      exact pe_i M V rfl rfl hr hlk rfl ⟨rfl, I, A.wk (by decide)⟩ ⟨Nat.le_refl _, Nat.le_refl _⟩ dX7_answer_73
    · refine lv_tableIn (tgt := 74) (off := 73) hx hb dX7_answer_1 (by omega) (by omega) (by rw [w_1]; rfl) (by decide) ?_
      refine lv_aload_n hx hb dX7_answer_74 rfl (lv_at hl 0 rfl) ?_
      refine pg_i M V 7 7 ho pC7 fk7_7 lkF_X7_50 dX7_answer_75 ?_
      refine lv_topi (fun v9 ev9 => ?_)
      have tv9 : 0 ≤ v9.toInt ∧ v9.toInt ≤ 1 := by rw [ev9]; exact I.get ho 7
      refine pk_i (pr_SN M V (m_X11_oneIf l (Z := Z) (h := _) v9) km_X11_oneIf lkN_X7_82 rfl hl.1 rfl (Nat.le_of_ble_eq_true rfl) ⟨Nat.le_of_ble_eq_true rfl, Nat.le_of_ble_eq_true rfl⟩ ⟨Nat.le_of_ble_eq_true rfl, Nat.le_of_ble_eq_true rfl⟩ dX7_answer_78) V (fun r10 Zr10 hr10 H locs pr10 _ _ V => ?_)
      obtain ⟨rfl, rfl, fr10_0⟩ := pr10
      exact pe_i M V rfl rfl hr hlk rfl ⟨rfl, I, A.wk (by decide)⟩ ⟨Nat.le_refl _, Nat.le_refl _⟩ dX7_answer_81
theorem dX3_windowAt_0 : decode cX3_windowAt 0 = .ok (.iload_n 1, 1) := by decide +kernel
theorem dX3_windowAt_1 : decode cX3_windowAt 1 = .ok (.iconst 0, 1) := by decide +kernel
theorem dX3_windowAt_2 : decode cX3_windowAt 2 = .ok (.bipush 7, 2) := by decide +kernel
theorem dX3_windowAt_4 : decode cX3_windowAt 4 = .ok (.invokestatic 38, 3) := by decide +kernel
theorem dX3_windowAt_7 : decode cX3_windowAt 7 = .ok (.ifCond .eq 12, 3) := by decide +kernel
theorem dX3_windowAt_10 : decode cX3_windowAt 10 = .ok (.aload_n 0, 1) := by decide +kernel
theorem dX3_windowAt_11 : decode cX3_windowAt 11 = .ok (.getfield 24, 3) := by decide +kernel
theorem dX3_windowAt_14 : decode cX3_windowAt 14 = .ok (.iload_n 1, 1) := by decide +kernel
theorem dX3_windowAt_15 : decode cX3_windowAt 15 = .ok (.iaload, 1) := by decide +kernel
theorem dX3_windowAt_16 : decode cX3_windowAt 16 = .ok (.goto 5, 3) := by decide +kernel
theorem dX3_windowAt_19 : decode cX3_windowAt 19 = .ok (.bipush 8, 2) := by decide +kernel
theorem dX3_windowAt_21 : decode cX3_windowAt 21 = .ok (.ireturn, 1) := by decide +kernel
set_option maxHeartbeats 4000000 in
set_option maxRecDepth 100000 in
theorem m_X3_windowAt (l : Launch) {Z : pZ} (S : pSh Z) {h : pH} (I : Iv Z h) (place : Int32)  : pMet l yX3_windowAt cX3_windowAt 2 (some .int) 1 0 0 22 Z h [.ref (zB Z + 10), .int place] (pQi Z (fun r Z1 h1 => Z = Z1 ∧ Iv Z h1 ∧ agrD [] h h1)) := by
  refine pOfW (lv := [(0, .ref (zB Z + 10)), (1, .int place)]) (by decide) (Nat.le_of_ble_eq_true rfl) rfl ?_
  intro p e s m below meth c ls M hr hlk hnm V hl
  have hx := M.1.1
  have hb := M.1.2.1
  have A : agrD [] h h := agrD.rf
  have J_21 : ∀ (y21_0 : Int32) (hJ : pH) (H : Heap) (locs : List Loc) (ls : Array Slot), pV Z hJ s.heap H locs → Iv Z hJ → agrD [] h hJ → lv_has ls 2 [(0, .ref (zB Z + 10)), (1, .int place)] → W p l e (pRm 1 0 0 22) s m ([.ref (zB Z + 10), .int place] : List Value).toArray below meth c H locs 0 0 (MQ below (pQi Z (fun r Z1 h1 => Z = Z1 ∧ Iv Z h1 ∧ agrD [] h h1)) ([.ref (zB Z + 10), .int place] : List Value).toArray s 0 0 (pA (zB Z))) (F0 m 21 ls [.int y21_0]) := by
    intro y21_0 hJ H locs ls V I A hl
    exact pe_i M V rfl rfl hr hlk rfl ⟨rfl, I, A.wk (by decide)⟩ ⟨Nat.le_refl _, Nat.le_refl _⟩ dX3_windowAt_21
  refine lv_iload_n hx hb dX3_windowAt_0 rfl (lv_at hl 1 rfl) ?_
  refine lv_iconst (v := 0) hx hb dX3_windowAt_1 (by decide) ?_
  refine lv_bipush (v := 7) hx hb dX3_windowAt_2 (by decide) ?_
  have k_0 : (0 : Int32).toInt = 0 := rfl
  have k_7 : (7 : Int32).toInt = 7 := rfl
  refine pk_i (pr_SN M V (m_X11_isWithin l (Z := Z) (h := _) place (0 : Int32) (7 : Int32)) km_X11_isWithin lkN_X3_38 rfl hl.1 rfl (Nat.le_of_ble_eq_true rfl) ⟨Nat.le_of_ble_eq_true rfl, Nat.le_of_ble_eq_true rfl⟩ ⟨Nat.le_of_ble_eq_true rfl, Nat.le_of_ble_eq_true rfl⟩ dX3_windowAt_4) V (fun r1 Zr1 hr1 H locs pr1 _ _ V => ?_)
  obtain ⟨rfl, rfl, fr1_0⟩ := pr1
  refine lv_if_eq (tgt := 19) hx hb dX3_windowAt_7 (by decide) (fun c_7 => ?_) (fun c_7 => ?_)
  · skip
    have c_7 := pi_eq.mp c_7
    refine lv_bipush (v := 8) hx hb dX3_windowAt_19 (by decide) ?_
    exact J_21 (8 : Int32) _ _ _ _ V I (A.wk (by decide)) (lv_sub hl [0, 1] rfl) 
  · skip
    have c_7 := pi_ne c_7
    refine lv_aload_n hx hb dX3_windowAt_10 rfl (lv_at hl 0 rfl) ?_
    refine pg_r M V 3 2 (c_is_10 S) pC3 fk3_2 (c_r_10_2 S) lkF_X3_24 dX3_windowAt_11 ?_
    refine lv_iload_n hx hb dX3_windowAt_14 rfl (lv_at hl 1 rfl) ?_
    refine pa_i M V (c_is_13 S) (by rw [c_n_13 S]; exact pi_in (by omega)) dX3_windowAt_15 ?_
    refine lv_topi (fun v2 ev2 => ?_)
    refine lv_goto (tgt := 21) hx hb dX3_windowAt_16 (by decide) ?_
    exact J_21 v2 _ _ _ _ V I (A.wk (by decide)) (lv_sub hl [0, 1] rfl) 
theorem dX3_placeInOrder_0 : decode cX3_placeInOrder 0 = .ok (.iconst 0, 1) := by decide +kernel
theorem dX3_placeInOrder_1 : decode cX3_placeInOrder 1 = .ok (.istore_n 2, 1) := by decide +kernel
theorem dX3_placeInOrder_2 : decode cX3_placeInOrder 2 = .ok (.iload_n 2, 1) := by decide +kernel
theorem dX3_placeInOrder_3 : decode cX3_placeInOrder 3 = .ok (.bipush 8, 2) := by decide +kernel
theorem dX3_placeInOrder_5 : decode cX3_placeInOrder 5 = .ok (.if_icmp .ge 21, 3) := by decide +kernel
theorem dX3_placeInOrder_8 : decode cX3_placeInOrder 8 = .ok (.aload_n 0, 1) := by decide +kernel
theorem dX3_placeInOrder_9 : decode cX3_placeInOrder 9 = .ok (.getfield 24, 3) := by decide +kernel
theorem dX3_placeInOrder_12 : decode cX3_placeInOrder 12 = .ok (.iload_n 2, 1) := by decide +kernel
theorem dX3_placeInOrder_13 : decode cX3_placeInOrder 13 = .ok (.iaload, 1) := by decide +kernel
theorem dX3_placeInOrder_14 : decode cX3_placeInOrder 14 = .ok (.iload_n 1, 1) := by decide +kernel
theorem dX3_placeInOrder_15 : decode cX3_placeInOrder 15 = .ok (.if_icmp .ne 5, 3) := by decide +kernel
theorem dX3_placeInOrder_18 : decode cX3_placeInOrder 18 = .ok (.iload_n 2, 1) := by decide +kernel
theorem dX3_placeInOrder_19 : decode cX3_placeInOrder 19 = .ok (.ireturn, 1) := by decide +kernel
theorem dX3_placeInOrder_20 : decode cX3_placeInOrder 20 = .ok (.iinc 2 1, 3) := by decide +kernel
theorem dX3_placeInOrder_23 : decode cX3_placeInOrder 23 = .ok (.goto (-21), 3) := by decide +kernel
theorem dX3_placeInOrder_26 : decode cX3_placeInOrder 26 = .ok (.bipush 8, 2) := by decide +kernel
theorem dX3_placeInOrder_28 : decode cX3_placeInOrder 28 = .ok (.ireturn, 1) := by decide +kernel
set_option maxHeartbeats 4000000 in
set_option maxRecDepth 100000 in
theorem m_X3_placeInOrder (l : Launch) {Z : pZ} (S : pSh Z) {h : pH} (I : Iv Z h) (number : Int32)  : pMet l yX3_placeInOrder cX3_placeInOrder 3 (some .int) 0 0 0 0 Z h [.ref (zB Z + 10), .int number] (pQi Z (fun r Z1 h1 => Z = Z1 ∧ Iv Z h1 ∧ agrD [] h h1 ∧ (0 ≤ r.toInt ∧ r.toInt ≤ 8))) := by
  refine pOfW (lv := [(0, .ref (zB Z + 10)), (1, .int number)]) (by decide) (Nat.le_of_ble_eq_true rfl) rfl ?_
  intro p e s m below meth c ls M hr hlk hnm V hl
  have hx := M.1.1
  have hb := M.1.2.1
  have A : agrD [] h h := agrD.rf
  have J_2 : ∀ (n9 : Nat) (x2_2 : Int32) (hJ : pH) (H : Heap) (locs : List Loc) (ls : Array Slot), pV Z hJ s.heap H locs → Iv Z hJ → agrD [] h hJ → lv_has ls 3 [(0, .ref (zB Z + 10)), (1, .int number), (2, .int x2_2)] → (0 ≤ x2_2.toInt ∧ x2_2.toInt ≤ 8) → (8 - x2_2.toInt).toNat < n9 → W p l e (pRm 0 0 0 0) s m ([.ref (zB Z + 10), .int number] : List Value).toArray below meth c H locs 0 0 (MQ below (pQi Z (fun r Z1 h1 => Z = Z1 ∧ Iv Z h1 ∧ agrD [] h h1 ∧ (0 ≤ r.toInt ∧ r.toInt ≤ 8))) ([.ref (zB Z + 10), .int number] : List Value).toArray s 0 0 (pA (zB Z))) (F0 m 2 ls []) := by
    intro n9
    induction n9 with
    | zero => intro x2_2 hJ H locs ls V I A hl g_2_2 hm9; exact absurd hm9 (Nat.not_lt_zero _)
    | succ n9 ih_2 =>
      intro x2_2 hJ H locs ls V I A hl g_2_2 hm9
      refine lv_iload_n hx hb dX3_placeInOrder_2 rfl (lv_at hl 2 rfl) ?_
      refine lv_bipush (v := 8) hx hb dX3_placeInOrder_3 (by decide) ?_
      refine lv_icmp_ge (tgt := 26) hx hb dX3_placeInOrder_5 (by decide) (fun c_5 => ?_) (fun c_5 => ?_)
      · skip
        have k_8 : (8 : Int32).toInt = 8 := rfl
        have c_5 := pi_le.mp c_5
        refine lv_bipush (v := 8) hx hb dX3_placeInOrder_26 (by decide) ?_
        exact pe_i M V rfl rfl hr hlk rfl ⟨rfl, I, A.wk (by decide), by omega⟩ ⟨Nat.le_refl _, Nat.le_refl _⟩ dX3_placeInOrder_28
      · skip
        have k_8 : (8 : Int32).toInt = 8 := rfl
        have c_5 := pi_le' c_5
        refine lv_aload_n hx hb dX3_placeInOrder_8 rfl (lv_at hl 0 rfl) ?_
        refine pg_r M V 3 2 (c_is_10 S) pC3 fk3_2 (c_r_10_2 S) lkF_X3_24 dX3_placeInOrder_9 ?_
        refine lv_iload_n hx hb dX3_placeInOrder_12 rfl (lv_at hl 2 rfl) ?_
        refine pa_i M V (c_is_13 S) (by rw [c_n_13 S]; exact pi_in (by omega)) dX3_placeInOrder_13 ?_
        refine lv_topi (fun v1 ev1 => ?_)
        refine lv_iload_n hx hb dX3_placeInOrder_14 rfl (lv_at hl 1 rfl) ?_
        refine lv_icmp_ne (tgt := 20) hx hb dX3_placeInOrder_15 (by decide) (fun c_15 => ?_) (fun c_15 => ?_)
        · skip
          have c_15 := pi_ne c_15
          obtain ⟨v2, ev2⟩ : ∃ y : Int32, y = x2_2 + 1 := ⟨_, rfl⟩
          refine lv_iinc (v := v2) (lv' := [(2, .int v2), (0, .ref (zB Z + 10)), (1, .int number)]) hx hb dX3_placeInOrder_20 hl (k := 2) rfl (by rw [ev2]; rfl) (by decide) rfl (fun ls hl => ?_)
          refine lv_goto (tgt := 2) hx hb dX3_placeInOrder_23 (by decide) ?_
          have k_1 : (1 : Int32).toInt = 1 := rfl
          have tv2 : v2.toInt = x2_2.toInt + 1 := by rw [ev2]; have z9 := pi_add (x := x2_2) (y := (1 : Int32)); rw [k_1] at z9; exact z9 (by omega)
          exact ih_2 v2 _ _ _ _ V I (A.wk (by decide)) (lv_sub hl [1, 2, 0] rfl) (by omega) (by omega) 
        · skip
          have c_15 := pi_eq.mp c_15
          refine lv_iload_n hx hb dX3_placeInOrder_18 rfl (lv_at hl 2 rfl) ?_
          exact pe_i M V rfl rfl hr hlk rfl ⟨rfl, I, A.wk (by decide), by omega⟩ ⟨Nat.le_refl _, Nat.le_refl _⟩ dX3_placeInOrder_19
  refine lv_iconst (v := 0) hx hb dX3_placeInOrder_0 (by decide) ?_
  refine lv_istore_n (lv' := [(2, .int (0 : Int32)), (0, .ref (zB Z + 10)), (1, .int number)]) hx hb dX3_placeInOrder_1 rfl hl (by decide) rfl (fun ls hl => ?_)
  have k_0 : (0 : Int32).toInt = 0 := rfl
  exact J_2 _ (0 : Int32) _ _ _ _ V I (A.wk (by decide)) (lv_sub hl [1, 2, 0] rfl) (by omega) (Nat.lt_succ_self _) 
theorem dX3_bringToFront_0 : decode cX3_bringToFront 0 = .ok (.aload_n 0, 1) := by decide +kernel
theorem dX3_bringToFront_1 : decode cX3_bringToFront 1 = .ok (.iload_n 1, 1) := by decide +kernel
theorem dX3_bringToFront_2 : decode cX3_bringToFront 2 = .ok (.invokevirtual 42, 3) := by decide +kernel
theorem dX3_bringToFront_5 : decode cX3_bringToFront 5 = .ok (.istore_n 2, 1) := by decide +kernel
theorem dX3_bringToFront_6 : decode cX3_bringToFront 6 = .ok (.iload_n 2, 1) := by decide +kernel
theorem dX3_bringToFront_7 : decode cX3_bringToFront 7 = .ok (.bipush 7, 2) := by decide +kernel
theorem dX3_bringToFront_9 : decode cX3_bringToFront 9 = .ok (.if_icmp .ge 23, 3) := by decide +kernel
theorem dX3_bringToFront_12 : decode cX3_bringToFront 12 = .ok (.aload_n 0, 1) := by decide +kernel
theorem dX3_bringToFront_13 : decode cX3_bringToFront 13 = .ok (.getfield 24, 3) := by decide +kernel
theorem dX3_bringToFront_16 : decode cX3_bringToFront 16 = .ok (.iload_n 2, 1) := by decide +kernel
theorem dX3_bringToFront_17 : decode cX3_bringToFront 17 = .ok (.aload_n 0, 1) := by decide +kernel
theorem dX3_bringToFront_18 : decode cX3_bringToFront 18 = .ok (.getfield 24, 3) := by decide +kernel
theorem dX3_bringToFront_21 : decode cX3_bringToFront 21 = .ok (.iload_n 2, 1) := by decide +kernel
theorem dX3_bringToFront_22 : decode cX3_bringToFront 22 = .ok (.iconst 1, 1) := by decide +kernel
theorem dX3_bringToFront_23 : decode cX3_bringToFront 23 = .ok (.iadd, 1) := by decide +kernel
theorem dX3_bringToFront_24 : decode cX3_bringToFront 24 = .ok (.iaload, 1) := by decide +kernel
theorem dX3_bringToFront_25 : decode cX3_bringToFront 25 = .ok (.iastore, 1) := by decide +kernel
theorem dX3_bringToFront_26 : decode cX3_bringToFront 26 = .ok (.iinc 2 1, 3) := by decide +kernel
theorem dX3_bringToFront_29 : decode cX3_bringToFront 29 = .ok (.goto (-23), 3) := by decide +kernel
theorem dX3_bringToFront_32 : decode cX3_bringToFront 32 = .ok (.aload_n 0, 1) := by decide +kernel
theorem dX3_bringToFront_33 : decode cX3_bringToFront 33 = .ok (.getfield 24, 3) := by decide +kernel
theorem dX3_bringToFront_36 : decode cX3_bringToFront 36 = .ok (.bipush 7, 2) := by decide +kernel
theorem dX3_bringToFront_38 : decode cX3_bringToFront 38 = .ok (.iload_n 1, 1) := by decide +kernel
theorem dX3_bringToFront_39 : decode cX3_bringToFront 39 = .ok (.iastore, 1) := by decide +kernel
theorem dX3_bringToFront_40 : decode cX3_bringToFront 40 = .ok (.return_, 1) := by decide +kernel
set_option maxHeartbeats 4000000 in
set_option maxRecDepth 100000 in
theorem m_X3_bringToFront (l : Launch) {Z : pZ} (S : pSh Z) {h : pH} (I : Iv Z h) (number : Int32)  : pMet l yX3_bringToFront cX3_bringToFront 3 none 1 0 0 22 Z h [.ref (zB Z + 10), .int number] (pQv Z (fun Z1 h1 => Z = Z1 ∧ Iv Z h1 ∧ agrD [(13, 1000)] h h1)) := by
  refine pOfW (lv := [(0, .ref (zB Z + 10)), (1, .int number)]) (by decide) (Nat.le_of_ble_eq_true rfl) rfl ?_
  intro p e s m below meth c ls M hr hlk hnm V hl
  have hx := M.1.1
  have hb := M.1.2.1
  have A : agrD [] h h := agrD.rf
  have J_6 : ∀ (n9 : Nat) (x6_2 : Int32) (hJ : pH) (H : Heap) (locs : List Loc) (ls : Array Slot), pV Z hJ s.heap H locs → Iv Z hJ → agrD [(13, 1000)] h hJ → lv_has ls 3 [(0, .ref (zB Z + 10)), (1, .int number), (2, .int x6_2)] → (0 ≤ x6_2.toInt ∧ x6_2.toInt ≤ 8) → (8 - x6_2.toInt).toNat < n9 → W p l e (pRm 1 0 0 22) s m ([.ref (zB Z + 10), .int number] : List Value).toArray below meth c H locs 0 0 (MQ below (pQv Z (fun Z1 h1 => Z = Z1 ∧ Iv Z h1 ∧ agrD [(13, 1000)] h h1)) ([.ref (zB Z + 10), .int number] : List Value).toArray s 0 0 (pA (zB Z))) (F0 m 6 ls []) := by
    intro n9
    induction n9 with
    | zero => intro x6_2 hJ H locs ls V I A hl g_6_2 hm9; exact absurd hm9 (Nat.not_lt_zero _)
    | succ n9 ih_6 =>
      intro x6_2 hJ H locs ls V I A hl g_6_2 hm9
      refine lv_iload_n hx hb dX3_bringToFront_6 rfl (lv_at hl 2 rfl) ?_
      refine lv_bipush (v := 7) hx hb dX3_bringToFront_7 (by decide) ?_
      refine lv_icmp_ge (tgt := 32) hx hb dX3_bringToFront_9 (by decide) (fun c_9 => ?_) (fun c_9 => ?_)
      · skip
        have k_7 : (7 : Int32).toInt = 7 := rfl
        have c_9 := pi_le.mp c_9
        refine lv_aload_n hx hb dX3_bringToFront_32 rfl (lv_at hl 0 rfl) ?_
        refine pg_r M V 3 2 (c_is_10 S) pC3 fk3_2 (c_r_10_2 S) lkF_X3_24 dX3_bringToFront_33 ?_
        refine lv_bipush (v := 7) hx hb dX3_bringToFront_36 (by decide) ?_
        refine lv_iload_n hx hb dX3_bringToFront_38 rfl (lv_at hl 1 rfl) ?_
        refine ps_i M V (c_is_13 S) (by rw [c_n_13 S]; exact pi_in (by omega)) dX3_bringToFront_39 (fun H locs V => ?_)
        have A := A.upA (o := 13) (k := (7 : Int32).toNatClampNeg) (v := number) (by decide)
        have I := I.up (k := (7 : Int32).toNatClampNeg) (v := number) (c_is_13 S) (pi_full _)
        exact pe_v M V rfl rfl hr hlk ⟨rfl, I, A.wk (by decide)⟩ ⟨Nat.le_refl _, Nat.le_refl _⟩ dX3_bringToFront_40
      · skip
        have k_7 : (7 : Int32).toInt = 7 := rfl
        have c_9 := pi_le' c_9
        refine lv_aload_n hx hb dX3_bringToFront_12 rfl (lv_at hl 0 rfl) ?_
        refine pg_r M V 3 2 (c_is_10 S) pC3 fk3_2 (c_r_10_2 S) lkF_X3_24 dX3_bringToFront_13 ?_
        refine lv_iload_n hx hb dX3_bringToFront_16 rfl (lv_at hl 2 rfl) ?_
        refine lv_aload_n hx hb dX3_bringToFront_17 rfl (lv_at hl 0 rfl) ?_
        refine pg_r M V 3 2 (c_is_10 S) pC3 fk3_2 (c_r_10_2 S) lkF_X3_24 dX3_bringToFront_18 ?_
        refine lv_iload_n hx hb dX3_bringToFront_21 rfl (lv_at hl 2 rfl) ?_
        refine lv_iconst (v := 1) hx hb dX3_bringToFront_22 (by decide) ?_
        refine lv_iadd hx hb dX3_bringToFront_23 ?_
        refine lv_topi (fun v1 ev1 => ?_)
        have k_1 : (1 : Int32).toInt = 1 := rfl
        have tv1 : v1.toInt = x6_2.toInt + 1 := by rw [ev1]; have z9 := pi_add (x := x6_2) (y := (1 : Int32)); rw [k_1] at z9; exact z9 (by omega)
        refine pa_i M V (c_is_13 S) (by rw [c_n_13 S]; exact pi_in (by omega)) dX3_bringToFront_24 ?_
        refine lv_topi (fun v2 ev2 => ?_)
        refine ps_i M V (c_is_13 S) (by rw [c_n_13 S]; exact pi_in (by omega)) dX3_bringToFront_25 (fun H locs V => ?_)
        have A := A.upA (o := 13) (k := x6_2.toNatClampNeg) (v := v2) (by decide)
        have I := I.up (k := x6_2.toNatClampNeg) (v := v2) (c_is_13 S) (pi_full _)
        obtain ⟨v3, ev3⟩ : ∃ y : Int32, y = x6_2 + 1 := ⟨_, rfl⟩
        refine lv_iinc (v := v3) (lv' := [(2, .int v3), (0, .ref (zB Z + 10)), (1, .int number)]) hx hb dX3_bringToFront_26 hl (k := 2) rfl (by rw [ev3]; rfl) (by decide) rfl (fun ls hl => ?_)
        refine lv_goto (tgt := 6) hx hb dX3_bringToFront_29 (by decide) ?_
        have tv3 : v3.toInt = x6_2.toInt + 1 := by rw [ev3]; have z9 := pi_add (x := x6_2) (y := (1 : Int32)); rw [k_1] at z9; exact z9 (by omega)
        exact ih_6 v3 _ _ _ _ V I (A.wk (by decide)) (lv_sub hl [1, 2, 0] rfl) (by omega) (by omega) 
  refine lv_aload_n hx hb dX3_bringToFront_0 rfl (lv_at hl 0 rfl) ?_
  refine lv_iload_n hx hb dX3_bringToFront_1 rfl (lv_at hl 1 rfl) ?_
  refine pk_i (pr_V M V (m_X3_placeInOrder l S I number ) km_X3_placeInOrder (c_is_10 S) pC3 lkM_X3_42 rfl hl.1 rfl (Nat.le_of_ble_eq_true rfl) ⟨Nat.le_of_ble_eq_true rfl, Nat.le_of_ble_eq_true rfl⟩ ⟨Nat.le_of_ble_eq_true rfl, Nat.le_of_ble_eq_true rfl⟩ dX3_bringToFront_2) V (fun r4 Zr4 hr4 H locs pr4 _ _ V => ?_)
  obtain ⟨rfl, I, pA_r4, fr4_0⟩ := pr4
  have A := A.tr pA_r4 (by decide)
  refine lv_istore_n (lv' := [(2, .int r4), (0, .ref (zB Z + 10)), (1, .int number)]) hx hb dX3_bringToFront_5 rfl hl (by decide) rfl (fun ls hl => ?_)
  exact J_6 _ r4 _ _ _ _ V I (A.wk (by decide)) (lv_sub hl [1, 2, 0] rfl) (by omega) (Nat.lt_succ_self _) 
