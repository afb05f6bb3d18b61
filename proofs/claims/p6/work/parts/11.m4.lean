theorem dX12_digits_0 : decode cX12_digits 0 = .ok (.iload_n 1, 1) := by decide +kernel
theorem dX12_digits_1 : decode cX12_digits 1 = .ok (.bipush 99, 2) := by decide +kernel
theorem dX12_digits_3 : decode cX12_digits 3 = .ok (.if_icmp .le 8, 3) := by decide +kernel
theorem dX12_digits_6 : decode cX12_digits 6 = .ok (.bipush 100, 2) := by decide +kernel
theorem dX12_digits_8 : decode cX12_digits 8 = .ok (.goto 15, 3) := by decide +kernel
theorem dX12_digits_11 : decode cX12_digits 11 = .ok (.iload_n 1, 1) := by decide +kernel
theorem dX12_digits_12 : decode cX12_digits 12 = .ok (.bipush 9, 2) := by decide +kernel
theorem dX12_digits_14 : decode cX12_digits 14 = .ok (.if_icmp .le 8, 3) := by decide +kernel
theorem dX12_digits_17 : decode cX12_digits 17 = .ok (.bipush 10, 2) := by decide +kernel
theorem dX12_digits_19 : decode cX12_digits 19 = .ok (.goto 4, 3) := by decide +kernel
theorem dX12_digits_22 : decode cX12_digits 22 = .ok (.iconst 1, 1) := by decide +kernel
theorem dX12_digits_23 : decode cX12_digits 23 = .ok (.istore_n 2, 1) := by decide +kernel
theorem dX12_digits_24 : decode cX12_digits 24 = .ok (.aload_n 0, 1) := by decide +kernel
theorem dX12_digits_25 : decode cX12_digits 25 = .ok (.getfield 150, 3) := by decide +kernel
theorem dX12_digits_28 : decode cX12_digits 28 = .ok (.iconst 0, 1) := by decide +kernel
theorem dX12_digits_29 : decode cX12_digits 29 = .ok (.iaload, 1) := by decide +kernel
theorem dX12_digits_30 : decode cX12_digits 30 = .ok (.iconst 2, 1) := by decide +kernel
theorem dX12_digits_31 : decode cX12_digits 31 = .ok (.iadd, 1) := by decide +kernel
theorem dX12_digits_32 : decode cX12_digits 32 = .ok (.istore_n 3, 1) := by decide +kernel
theorem dX12_digits_33 : decode cX12_digits 33 = .ok (.iload_n 2, 1) := by decide +kernel
theorem dX12_digits_34 : decode cX12_digits 34 = .ok (.ifCond .le 50, 3) := by decide +kernel
theorem dX12_digits_37 : decode cX12_digits 37 = .ok (.aload_n 0, 1) := by decide +kernel
theorem dX12_digits_38 : decode cX12_digits 38 = .ok (.iload_n 3, 1) := by decide +kernel
theorem dX12_digits_39 : decode cX12_digits 39 = .ok (.aload_n 0, 1) := by decide +kernel
theorem dX12_digits_40 : decode cX12_digits 40 = .ok (.getfield 150, 3) := by decide +kernel
theorem dX12_digits_43 : decode cX12_digits 43 = .ok (.iconst 1, 1) := by decide +kernel
theorem dX12_digits_44 : decode cX12_digits 44 = .ok (.iaload, 1) := by decide +kernel
theorem dX12_digits_45 : decode cX12_digits 45 = .ok (.iconst 2, 1) := by decide +kernel
theorem dX12_digits_46 : decode cX12_digits 46 = .ok (.iadd, 1) := by decide +kernel
theorem dX12_digits_47 : decode cX12_digits 47 = .ok (.iload_n 3, 1) := by decide +kernel
theorem dX12_digits_48 : decode cX12_digits 48 = .ok (.bipush 6, 2) := by decide +kernel
theorem dX12_digits_50 : decode cX12_digits 50 = .ok (.iadd, 1) := by decide +kernel
theorem dX12_digits_51 : decode cX12_digits 51 = .ok (.aload_n 0, 1) := by decide +kernel
theorem dX12_digits_52 : decode cX12_digits 52 = .ok (.getfield 150, 3) := by decide +kernel
theorem dX12_digits_55 : decode cX12_digits 55 = .ok (.iconst 1, 1) := by decide +kernel
theorem dX12_digits_56 : decode cX12_digits 56 = .ok (.iaload, 1) := by decide +kernel
theorem dX12_digits_57 : decode cX12_digits 57 = .ok (.bipush 10, 2) := by decide +kernel
theorem dX12_digits_59 : decode cX12_digits 59 = .ok (.iadd, 1) := by decide +kernel
theorem dX12_digits_60 : decode cX12_digits 60 = .ok (.bipush 6, 2) := by decide +kernel
theorem dX12_digits_62 : decode cX12_digits 62 = .ok (.iconst 1, 1) := by decide +kernel
theorem dX12_digits_63 : decode cX12_digits 63 = .ok (.iload_n 1, 1) := by decide +kernel
theorem dX12_digits_64 : decode cX12_digits 64 = .ok (.iload_n 2, 1) := by decide +kernel
theorem dX12_digits_65 : decode cX12_digits 65 = .ok (.idiv, 1) := by decide +kernel
theorem dX12_digits_66 : decode cX12_digits 66 = .ok (.bipush 10, 2) := by decide +kernel
theorem dX12_digits_68 : decode cX12_digits 68 = .ok (.irem, 1) := by decide +kernel
theorem dX12_digits_69 : decode cX12_digits 69 = .ok (.iadd, 1) := by decide +kernel
theorem dX12_digits_70 : decode cX12_digits 70 = .ok (.invokevirtual 320, 3) := by decide +kernel
theorem dX12_digits_73 : decode cX12_digits 73 = .ok (.iinc 3 6, 3) := by decide +kernel
theorem dX12_digits_76 : decode cX12_digits 76 = .ok (.iload_n 2, 1) := by decide +kernel
theorem dX12_digits_77 : decode cX12_digits 77 = .ok (.bipush 10, 2) := by decide +kernel
theorem dX12_digits_79 : decode cX12_digits 79 = .ok (.idiv, 1) := by decide +kernel
theorem dX12_digits_80 : decode cX12_digits 80 = .ok (.istore_n 2, 1) := by decide +kernel
theorem dX12_digits_81 : decode cX12_digits 81 = .ok (.goto (-48), 3) := by decide +kernel
theorem dX12_digits_84 : decode cX12_digits 84 = .ok (.return_, 1) := by decide +kernel
set_option maxHeartbeats 4000000 in
set_option maxRecDepth 100000 in
theorem m_X12_digits (l : Launch) {Z : pZ} (S : pSh Z) {h : pH} (I : Iv Z h) (label : Int32) (hl9 : 0 ≤ label.toInt ∧ label.toInt ≤ 999) (hp : (h 137 82).toInt ≤ 6997) : pMet l yX12_digits cX12_digits 4 none 3 0 0 78 Z h [.ref (zB Z + 137), .int label] (pQv Z (fun Z1 h1 => Z = Z1 ∧ Iv Z h1 ∧ agr [(137, 82), (186, 1000)] h h1 ∧ ((h 137 82).toInt + (0) ≤ (h1 137 82).toInt ∧ (h1 137 82).toInt ≤ (h 137 82).toInt + (3)))) := by
  refine pOfW (lv := [(0, .ref (zB Z + 137)), (1, .int label)]) (by decide) (Nat.le_of_ble_eq_true rfl) rfl ?_
  intro p e s m below meth c ls M hr hlk hnm V hl
  have hx := M.1.1
  have hb := M.1.2.1
  have A : agr [] h h := agr.rf
  have i_82 : 0 ≤ (h 137 82).toInt ∧ (h 137 82).toInt ≤ 7000 := I.get (sm_this S) 82
  have J_33 : ∀ (n9 : Nat) (x33_2 : Int32) (x33_3 : Int32) (hJ : pH) (H : Heap) (locs : List Loc) (ls : Array Slot), pV Z hJ s.heap H locs → Iv Z hJ → agr [(137, 82), (186, 1000)] h hJ → lv_has ls 4 [(0, .ref (zB Z + 137)), (1, .int label), (2, .int x33_2), (3, .int x33_3)] → (0 ≤ x33_2.toInt ∧ x33_2.toInt ≤ 100) → ((x33_2.toInt = 100 ∧ (hJ 137 82).toInt = (h 137 82).toInt) ∨ (x33_2.toInt = 10 ∧ (h 137 82).toInt ≤ (hJ 137 82).toInt ∧ (hJ 137 82).toInt ≤ (h 137 82).toInt + 1) ∨ (x33_2.toInt = 1 ∧ (h 137 82).toInt ≤ (hJ 137 82).toInt ∧ (hJ 137 82).toInt ≤ (h 137 82).toInt + 2) ∨ (x33_2.toInt = 0 ∧ (h 137 82).toInt ≤ (hJ 137 82).toInt ∧ (hJ 137 82).toInt ≤ (h 137 82).toInt + 3)) → x33_2.toInt.toNat < n9 → W p l e (pRm 3 0 0 78) s m ([.ref (zB Z + 137), .int label] : List Value).toArray below meth c H locs 0 0 (MQ below (pQv Z (fun Z1 h1 => Z = Z1 ∧ Iv Z h1 ∧ agr [(137, 82), (186, 1000)] h h1 ∧ ((h 137 82).toInt + (0) ≤ (h1 137 82).toInt ∧ (h1 137 82).toInt ≤ (h 137 82).toInt + (3)))) ([.ref (zB Z + 137), .int label] : List Value).toArray s 0 0 (pA (zB Z))) (F0 m 33 ls []) := by
    intro n9
    induction n9 with
    | zero => intro x33_2 x33_3 hJ H locs ls V I A hl g_33_2 gq hm9; exact absurd hm9 (Nat.not_lt_zero _)
    | succ n9 ih_33 =>
      intro x33_2 x33_3 hJ H locs ls V I A hl g_33_2 gq hm9
      refine lv_iload_n hx hb dX12_digits_33 rfl (lv_at hl 2 rfl) ?_
      refine lv_if_le (tgt := 84) hx hb dX12_digits_34 (by decide) (fun c_34 => ?_) (fun c_34 => ?_)
      · skip
        have k_0 : (0 : Int32).toInt = 0 := rfl
        have c_34 := pi_le.mp c_34
        exact pe_v M V rfl rfl hr hlk ⟨rfl, I, A.wk (by decide), (show (h 137 82).toInt + (0) ≤ (hJ 137 82).toInt ∧ (hJ 137 82).toInt ≤ (h 137 82).toInt + (3) by omega)⟩ ⟨Nat.le_refl _, Nat.le_refl _⟩ dX12_digits_84
      · skip
        have k_0 : (0 : Int32).toInt = 0 := rfl
        have c_34 := pi_le' c_34
        refine lv_aload_n hx hb dX12_digits_37 rfl (lv_at hl 0 rfl) ?_
        refine lv_iload_n hx hb dX12_digits_38 rfl (lv_at hl 3 rfl) ?_
        refine lv_aload_n hx hb dX12_digits_39 rfl (lv_at hl 0 rfl) ?_
        refine pg_r M V 12 73 (sm_this S) pC12 fk12_73 (sm_item S).2.2 lkF_X12_150 dX12_digits_40 ?_
        refine lv_iconst (v := 1) hx hb dX12_digits_43 (by decide) ?_
        have k_1 : (1 : Int32).toInt = 1 := rfl
        refine pa_i M V (sm_item S).1 (by rw [(sm_item S).2.1]; exact pi_in (by omega)) dX12_digits_44 ?_
        refine lv_topi (fun v1 ev1 => ?_)
        refine lv_iconst (v := 2) hx hb dX12_digits_45 (by decide) ?_
        refine lv_iadd hx hb dX12_digits_46 ?_
        refine lv_topi (fun v2 ev2 => ?_)
        refine lv_iload_n hx hb dX12_digits_47 rfl (lv_at hl 3 rfl) ?_
        refine lv_bipush (v := 6) hx hb dX12_digits_48 (by decide) ?_
        refine lv_iadd hx hb dX12_digits_50 ?_
        refine lv_topi (fun v3 ev3 => ?_)
        refine lv_aload_n hx hb dX12_digits_51 rfl (lv_at hl 0 rfl) ?_
        refine pg_r M V 12 73 (sm_this S) pC12 fk12_73 (sm_item S).2.2 lkF_X12_150 dX12_digits_52 ?_
        refine lv_iconst (v := 1) hx hb dX12_digits_55 (by decide) ?_
        refine pa_iv M V (v := v1) (sm_item S).1 (by rw [(sm_item S).2.1]; exact pi_in (by omega)) ev1.symm dX12_digits_56 ?_
        refine lv_bipush (v := 10) hx hb dX12_digits_57 (by decide) ?_
        refine lv_iadd hx hb dX12_digits_59 ?_
        refine lv_topi (fun v4 ev4 => ?_)
        refine lv_bipush (v := 6) hx hb dX12_digits_60 (by decide) ?_
        refine lv_iconst (v := 1) hx hb dX12_digits_62 (by decide) ?_
        refine lv_iload_n hx hb dX12_digits_63 rfl (lv_at hl 1 rfl) ?_
        refine lv_iload_n hx hb dX12_digits_64 rfl (lv_at hl 2 rfl) ?_
        refine lv_idiv hx hb dX12_digits_65 (fun z9 => by have z9 := pi_eq.mp z9; omega) ?_
        refine lv_topi (fun v5 ev5 => ?_)
        refine lv_bipush (v := 10) hx hb dX12_digits_66 (by decide) ?_
        refine lv_irem hx hb dX12_digits_68 (by decide) ?_
        refine lv_topi (fun v6 ev6 => ?_)
        refine lv_iadd hx hb dX12_digits_69 ?_
        refine lv_topi (fun v7 ev7 => ?_)
        refine pk_v (pr_V M V (m_X12_quadClipped l S I x33_3 v2 v3 v4 (6 : Int32) v7 (show (hJ 137 82).toInt ≤ 6999 by omega)) km_X12_quadClipped (sm_this S) pC12 lkM_X12_320 rfl hl.1 rfl (Nat.le_of_ble_eq_true rfl) ⟨Nat.le_of_ble_eq_true rfl, Nat.le_of_ble_eq_true rfl⟩ ⟨Nat.le_of_ble_eq_true rfl, Nat.le_of_ble_eq_true rfl⟩ dX12_digits_70) V (fun Zr8 hr8 H locs pr8 _ _ V => ?_)
        obtain ⟨rfl, I, pA_r8, fr8_0⟩ := pr8
        have fr8_0 : (hJ 137 82).toInt + (0) ≤ (hr8 137 82).toInt ∧ (hr8 137 82).toInt ≤ (hJ 137 82).toInt + (1) := fr8_0
        have A := A.tr pA_r8 (by decide)
        obtain ⟨v9, ev9⟩ : ∃ y : Int32, y = x33_3 + 6 := ⟨_, rfl⟩
        refine lv_iinc (v := v9) (lv' := [(3, .int v9), (0, .ref (zB Z + 137)), (1, .int label), (2, .int x33_2)]) hx hb dX12_digits_73 hl (k := 3) rfl (by rw [ev9]; rfl) (by decide) rfl (fun ls hl => ?_)
        refine lv_iload_n hx hb dX12_digits_76 rfl (lv_at hl 3 rfl) ?_
        refine lv_bipush (v := 10) hx hb dX12_digits_77 (by decide) ?_
        refine lv_idiv hx hb dX12_digits_79 (by decide) ?_
        refine lv_topi (fun v10 ev10 => ?_)
        refine lv_istore_n (lv' := [(2, .int v10), (3, .int v9), (0, .ref (zB Z + 137)), (1, .int label)]) hx hb dX12_digits_80 rfl hl (by decide) rfl (fun ls hl => ?_)
        refine lv_goto (tgt := 33) hx hb dX12_digits_81 (by decide) ?_
        have k_10 : (10 : Int32).toInt = 10 := rfl
        have tv10 : v10.toInt = x33_2.toInt / 10 := by rw [ev10]; have z9 := pi_div (x := x33_2) (y := (10 : Int32)); rw [k_10] at z9; exact z9 (by omega) (by omega)
        exact ih_33 v10 v9 _ _ _ _ V I (A.wk (by decide)) (lv_sub hl [2, 3, 0, 1] rfl) (by omega) (show (v10.toInt = 100 ∧ (hr8 137 82).toInt = (h 137 82).toInt) ∨ (v10.toInt = 10 ∧ (h 137 82).toInt ≤ (hr8 137 82).toInt ∧ (hr8 137 82).toInt ≤ (h 137 82).toInt + 1) ∨ (v10.toInt = 1 ∧ (h 137 82).toInt ≤ (hr8 137 82).toInt ∧ (hr8 137 82).toInt ≤ (h 137 82).toInt + 2) ∨ (v10.toInt = 0 ∧ (h 137 82).toInt ≤ (hr8 137 82).toInt ∧ (hr8 137 82).toInt ≤ (h 137 82).toInt + 3) by omega) (by omega) 
  refine lv_iload_n hx hb dX12_digits_0 rfl (lv_at hl 1 rfl) ?_
  refine lv_bipush (v := 99) hx hb dX12_digits_1 (by decide) ?_
  refine lv_icmp_le (tgt := 11) hx hb dX12_digits_3 (by decide) (fun c_3 => ?_) (fun c_3 => ?_)
  · skip
    have k_99 : (99 : Int32).toInt = 99 := rfl
    have c_3 := pi_le.mp c_3
    refine lv_iload_n hx hb dX12_digits_11 rfl (lv_at hl 1 rfl) ?_
    refine lv_bipush (v := 9) hx hb dX12_digits_12 (by decide) ?_
    refine lv_icmp_le (tgt := 22) hx hb dX12_digits_14 (by decide) (fun c_14 => ?_) (fun c_14 => ?_)
    · skip
      have k_9 : (9 : Int32).toInt = 9 := rfl
      have c_14 := pi_le.mp c_14
      refine lv_iconst (v := 1) hx hb dX12_digits_22 (by decide) ?_
      refine lv_istore_n (lv' := [(2, .int (1 : Int32)), (0, .ref (zB Z + 137)), (1, .int label)]) hx hb dX12_digits_23 rfl hl (by decide) rfl (fun ls hl => ?_)
      refine lv_aload_n hx hb dX12_digits_24 rfl (lv_at hl 1 rfl) ?_
      refine pg_r M V 12 73 (sm_this S) pC12 fk12_73 (sm_item S).2.2 lkF_X12_150 dX12_digits_25 ?_
      refine lv_iconst (v := 0) hx hb dX12_digits_28 (by decide) ?_
      have k_0 : (0 : Int32).toInt = 0 := rfl
      refine pa_i M V (sm_item S).1 (by rw [(sm_item S).2.1]; exact pi_in (by omega)) dX12_digits_29 ?_
      refine lv_topi (fun v11 ev11 => ?_)
      refine lv_iconst (v := 2) hx hb dX12_digits_30 (by decide) ?_
      refine lv_iadd hx hb dX12_digits_31 ?_
      refine lv_topi (fun v12 ev12 => ?_)
      refine lv_istore_n (lv' := [(3, .int v12), (2, .int (1 : Int32)), (0, .ref (zB Z + 137)), (1, .int label)]) hx hb dX12_digits_32 rfl hl (by decide) rfl (fun ls hl => ?_)
      have k_1 : (1 : Int32).toInt = 1 := rfl
      exact J_33 _ (1 : Int32) v12 _ _ _ _ V I (A.wk (by decide)) (lv_sub hl [2, 3, 1, 0] rfl) (by omega) (show ((1 : Int32).toInt = 100 ∧ (h 137 82).toInt = (h 137 82).toInt) ∨ ((1 : Int32).toInt = 10 ∧ (h 137 82).toInt ≤ (h 137 82).toInt ∧ (h 137 82).toInt ≤ (h 137 82).toInt + 1) ∨ ((1 : Int32).toInt = 1 ∧ (h 137 82).toInt ≤ (h 137 82).toInt ∧ (h 137 82).toInt ≤ (h 137 82).toInt + 2) ∨ ((1 : Int32).toInt = 0 ∧ (h 137 82).toInt ≤ (h 137 82).toInt ∧ (h 137 82).toInt ≤ (h 137 82).toInt + 3) by omega) (Nat.lt_succ_self _) 
    · skip
      have k_9 : (9 : Int32).toInt = 9 := rfl
      have c_14 := pi_le' c_14
      refine lv_bipush (v := 10) hx hb dX12_digits_17 (by decide) ?_
      refine lv_goto (tgt := 23) hx hb dX12_digits_19 (by decide) ?_
      refine lv_istore_n (lv' := [(2, .int (10 : Int32)), (0, .ref (zB Z + 137)), (1, .int label)]) hx hb dX12_digits_23 rfl hl (by decide) rfl (fun ls hl => ?_)
      refine lv_aload_n hx hb dX12_digits_24 rfl (lv_at hl 1 rfl) ?_
      refine pg_r M V 12 73 (sm_this S) pC12 fk12_73 (sm_item S).2.2 lkF_X12_150 dX12_digits_25 ?_
      refine lv_iconst (v := 0) hx hb dX12_digits_28 (by decide) ?_
      have k_0 : (0 : Int32).toInt = 0 := rfl
      refine pa_i M V (sm_item S).1 (by rw [(sm_item S).2.1]; exact pi_in (by omega)) dX12_digits_29 ?_
      refine lv_topi (fun v13 ev13 => ?_)
      refine lv_iconst (v := 2) hx hb dX12_digits_30 (by decide) ?_
      refine lv_iadd hx hb dX12_digits_31 ?_
      refine lv_topi (fun v14 ev14 => ?_)
      refine lv_istore_n (lv' := [(3, .int v14), (2, .int (10 : Int32)), (0, .ref (zB Z + 137)), (1, .int label)]) hx hb dX12_digits_32 rfl hl (by decide) rfl (fun ls hl => ?_)
      have k_10 : (10 : Int32).toInt = 10 := rfl
      exact J_33 _ (10 : Int32) v14 _ _ _ _ V I (A.wk (by decide)) (lv_sub hl [2, 3, 1, 0] rfl) (by omega) (show ((10 : Int32).toInt = 100 ∧ (h 137 82).toInt = (h 137 82).toInt) ∨ ((10 : Int32).toInt = 10 ∧ (h 137 82).toInt ≤ (h 137 82).toInt ∧ (h 137 82).toInt ≤ (h 137 82).toInt + 1) ∨ ((10 : Int32).toInt = 1 ∧ (h 137 82).toInt ≤ (h 137 82).toInt ∧ (h 137 82).toInt ≤ (h 137 82).toInt + 2) ∨ ((10 : Int32).toInt = 0 ∧ (h 137 82).toInt ≤ (h 137 82).toInt ∧ (h 137 82).toInt ≤ (h 137 82).toInt + 3) by omega) (Nat.lt_succ_self _) 
  · skip
    have k_99 : (99 : Int32).toInt = 99 := rfl
    have c_3 := pi_le' c_3
    refine lv_bipush (v := 100) hx hb dX12_digits_6 (by decide) ?_
    refine lv_goto (tgt := 23) hx hb dX12_digits_8 (by decide) ?_
    refine lv_istore_n (lv' := [(2, .int (100 : Int32)), (0, .ref (zB Z + 137)), (1, .int label)]) hx hb dX12_digits_23 rfl hl (by decide) rfl (fun ls hl => ?_)
    refine lv_aload_n hx hb dX12_digits_24 rfl (lv_at hl 1 rfl) ?_
    refine pg_r M V 12 73 (sm_this S) pC12 fk12_73 (sm_item S).2.2 lkF_X12_150 dX12_digits_25 ?_
    refine lv_iconst (v := 0) hx hb dX12_digits_28 (by decide) ?_
    have k_0 : (0 : Int32).toInt = 0 := rfl
    refine pa_i M V (sm_item S).1 (by rw [(sm_item S).2.1]; exact pi_in (by omega)) dX12_digits_29 ?_
    refine lv_topi (fun v15 ev15 => ?_)
    refine lv_iconst (v := 2) hx hb dX12_digits_30 (by decide) ?_
    refine lv_iadd hx hb dX12_digits_31 ?_
    refine lv_topi (fun v16 ev16 => ?_)
    refine lv_istore_n (lv' := [(3, .int v16), (2, .int (100 : Int32)), (0, .ref (zB Z + 137)), (1, .int label)]) hx hb dX12_digits_32 rfl hl (by decide) rfl (fun ls hl => ?_)
    have k_100 : (100 : Int32).toInt = 100 := rfl
    exact J_33 _ (100 : Int32) v16 _ _ _ _ V I (A.wk (by decide)) (lv_sub hl [2, 3, 1, 0] rfl) (by omega) (show ((100 : Int32).toInt = 100 ∧ (h 137 82).toInt = (h 137 82).toInt) ∨ ((100 : Int32).toInt = 10 ∧ (h 137 82).toInt ≤ (h 137 82).toInt ∧ (h 137 82).toInt ≤ (h 137 82).toInt + 1) ∨ ((100 : Int32).toInt = 1 ∧ (h 137 82).toInt ≤ (h 137 82).toInt ∧ (h 137 82).toInt ≤ (h 137 82).toInt + 2) ∨ ((100 : Int32).toInt = 0 ∧ (h 137 82).toInt ≤ (h 137 82).toInt ∧ (h 137 82).toInt ≤ (h 137 82).toInt + 3) by omega) (Nat.lt_succ_self _) 
theorem dX12_drawnCount_0 : decode cX12_drawnCount 0 = .ok (.iload_n 1, 1) := by decide +kernel
theorem dX12_drawnCount_1 : decode cX12_drawnCount 1 = .ok (.ifCond .eq 34, 3) := by decide +kernel
theorem dX12_drawnCount_4 : decode cX12_drawnCount 4 = .ok (.iload_n 1, 1) := by decide +kernel
theorem dX12_drawnCount_5 : decode cX12_drawnCount 5 = .ok (.iconst 1, 1) := by decide +kernel
theorem dX12_drawnCount_6 : decode cX12_drawnCount 6 = .ok (.if_icmp .ne 13, 3) := by decide +kernel
theorem dX12_drawnCount_9 : decode cX12_drawnCount 9 = .ok (.bipush 6, 2) := by decide +kernel
theorem dX12_drawnCount_11 : decode cX12_drawnCount 11 = .ok (.aload_n 0, 1) := by decide +kernel
theorem dX12_drawnCount_12 : decode cX12_drawnCount 12 = .ok (.getfield 307, 3) := by decide +kernel
theorem dX12_drawnCount_15 : decode cX12_drawnCount 15 = .ok (.imul, 1) := by decide +kernel
theorem dX12_drawnCount_16 : decode cX12_drawnCount 16 = .ok (.goto 18, 3) := by decide +kernel
theorem dX12_drawnCount_19 : decode cX12_drawnCount 19 = .ok (.iload_n 1, 1) := by decide +kernel
theorem dX12_drawnCount_20 : decode cX12_drawnCount 20 = .ok (.iconst 2, 1) := by decide +kernel
theorem dX12_drawnCount_21 : decode cX12_drawnCount 21 = .ok (.if_icmp .ne 12, 3) := by decide +kernel
theorem dX12_drawnCount_24 : decode cX12_drawnCount 24 = .ok (.iconst 4, 1) := by decide +kernel
theorem dX12_drawnCount_25 : decode cX12_drawnCount 25 = .ok (.aload_n 0, 1) := by decide +kernel
theorem dX12_drawnCount_26 : decode cX12_drawnCount 26 = .ok (.getfield 307, 3) := by decide +kernel
theorem dX12_drawnCount_29 : decode cX12_drawnCount 29 = .ok (.imul, 1) := by decide +kernel
theorem dX12_drawnCount_30 : decode cX12_drawnCount 30 = .ok (.goto 4, 3) := by decide +kernel
theorem dX12_drawnCount_33 : decode cX12_drawnCount 33 = .ok (.iconst (-1), 1) := by decide +kernel
theorem dX12_drawnCount_34 : decode cX12_drawnCount 34 = .ok (.ireturn, 1) := by decide +kernel
theorem dX12_drawnCount_35 : decode cX12_drawnCount 35 = .ok (.aload_n 0, 1) := by decide +kernel
theorem dX12_drawnCount_36 : decode cX12_drawnCount 36 = .ok (.aload_n 0, 1) := by decide +kernel
theorem dX12_drawnCount_37 : decode cX12_drawnCount 37 = .ok (.getfield 307, 3) := by decide +kernel
theorem dX12_drawnCount_40 : decode cX12_drawnCount 40 = .ok (.iconst 1, 1) := by decide +kernel
theorem dX12_drawnCount_41 : decode cX12_drawnCount 41 = .ok (.isub, 1) := by decide +kernel
theorem dX12_drawnCount_42 : decode cX12_drawnCount 42 = .ok (.invokevirtual 409, 3) := by decide +kernel
theorem dX12_drawnCount_45 : decode cX12_drawnCount 45 = .ok (.aload_n 0, 1) := by decide +kernel
theorem dX12_drawnCount_46 : decode cX12_drawnCount 46 = .ok (.getfield 400, 3) := by decide +kernel
theorem dX12_drawnCount_49 : decode cX12_drawnCount 49 = .ok (.iconst 1, 1) := by decide +kernel
theorem dX12_drawnCount_50 : decode cX12_drawnCount 50 = .ok (.iadd, 1) := by decide +kernel
theorem dX12_drawnCount_51 : decode cX12_drawnCount 51 = .ok (.ireturn, 1) := by decide +kernel
set_option maxHeartbeats 4000000 in
set_option maxRecDepth 100000 in
theorem m_X12_drawnCount (l : Launch) {Z : pZ} (S : pSh Z) {h : pH} (I : Iv Z h) (what : Int32)  : pMet l yX12_drawnCount cX12_drawnCount 2 (some .int) 1 0 0 26 Z h [.ref (zB Z + 137), .int what] (pQi Z (fun r Z1 h1 => Z = Z1 ∧ Iv Z h1 ∧ agr [(137, 84), (137, 85), (137, 86), (137, 87)] h h1)) := by
  refine pOfW (lv := [(0, .ref (zB Z + 137)), (1, .int what)]) (by decide) (Nat.le_of_ble_eq_true rfl) rfl ?_
  intro p e s m below meth c ls M hr hlk hnm V hl
  have hx := M.1.1
  have hb := M.1.2.1
  have A : agr [] h h := agr.rf
  have i_83 : 0 ≤ (h 137 83).toInt ∧ (h 137 83).toInt ≤ 7000 := I.get (sm_this S) 83
  have J_34 : ∀ (y34_0 : Int32) (hJ : pH) (H : Heap) (locs : List Loc) (ls : Array Slot), pV Z hJ s.heap H locs → Iv Z hJ → agr [] h hJ → lv_has ls 2 [(0, .ref (zB Z + 137)), (1, .int what)] → (-1 ≤ y34_0.toInt ∧ y34_0.toInt ≤ 42000) → ((h 137 83).toInt + (0) ≤ (hJ 137 83).toInt ∧ (hJ 137 83).toInt ≤ (h 137 83).toInt + (0)) → W p l e (pRm 1 0 0 26) s m ([.ref (zB Z + 137), .int what] : List Value).toArray below meth c H locs 0 0 (MQ below (pQi Z (fun r Z1 h1 => Z = Z1 ∧ Iv Z h1 ∧ agr [(137, 84), (137, 85), (137, 86), (137, 87)] h h1)) ([.ref (zB Z + 137), .int what] : List Value).toArray s 0 0 (pA (zB Z))) (F0 m 34 ls [.int y34_0]) := by
    intro y34_0 hJ H locs ls V I A hl gs_34_0 gd_34_83
    exact pe_i M V rfl rfl hr hlk rfl ⟨rfl, I, A.wk (by decide)⟩ ⟨Nat.le_refl _, Nat.le_refl _⟩ dX12_drawnCount_34
  refine lv_iload_n hx hb dX12_drawnCount_0 rfl (lv_at hl 1 rfl) ?_
  refine lv_if_eq (tgt := 35) hx hb dX12_drawnCount_1 (by decide) (fun c_1 => ?_) (fun c_1 => ?_)
  · skip
    have k_0 : (0 : Int32).toInt = 0 := rfl
    have c_1 := pi_eq.mp c_1
    refine lv_aload_n hx hb dX12_drawnCount_35 rfl (lv_at hl 0 rfl) ?_
    refine lv_aload_n hx hb dX12_drawnCount_36 rfl (lv_at hl 0 rfl) ?_
    refine pg_i M V 12 83 (sm_this S) pC12 fk12_83 lkF_X12_307 dX12_drawnCount_37 ?_
    refine lv_topi (fun v1 ev1 => ?_)
    have tv1 : 0 ≤ v1.toInt ∧ v1.toInt ≤ 7000 := by rw [ev1]; exact I.get (sm_this S) 83
    have uv1 : v1.toInt = (h 137 83).toInt := congrArg Int32.toInt ev1
    refine lv_iconst (v := 1) hx hb dX12_drawnCount_40 (by decide) ?_
    refine lv_isub hx hb dX12_drawnCount_41 ?_
    refine lv_topi (fun v2 ev2 => ?_)
    have k_1 : (1 : Int32).toInt = 1 := rfl
    have tv2 : v2.toInt = v1.toInt - 1 := by rw [ev2]; have z9 := pi_sub (x := v1) (y := (1 : Int32)); rw [k_1] at z9; exact z9 (by omega)
    refine pk_v (pr_V M V (m_X12_walk l S I v2 (show v2.toInt < (h 137 83).toInt by omega) (show (h 137 83).toInt ≤ 7000 by omega)) km_X12_walk (sm_this S) pC12 lkM_X12_409 rfl hl.1 rfl (Nat.le_of_ble_eq_true rfl) ⟨Nat.le_of_ble_eq_true rfl, Nat.le_of_ble_eq_true rfl⟩ ⟨Nat.le_of_ble_eq_true rfl, Nat.le_of_ble_eq_true rfl⟩ dX12_drawnCount_42) V (fun Zr3 hr3 H locs pr3 _ _ V => ?_)
    obtain ⟨rfl, I, pA_r3⟩ := pr3
    have A := A.wk (l3 := [(137, 84), (137, 85), (137, 86), (137, 87)]) (by decide)
    have A := A.tr pA_r3 (by decide)
    have w_r3_83 : (hr3 137 83).toInt = (h 137 83).toInt := congrArg Int32.toInt (pA_r3.get 137 83 (by decide))
    refine lv_aload_n hx hb dX12_drawnCount_45 rfl (lv_at hl 0 rfl) ?_
    refine pg_i M V 12 85 (sm_this S) pC12 fk12_85 lkF_X12_400 dX12_drawnCount_46 ?_
    refine lv_topi (fun v4 ev4 => ?_)
    refine lv_iconst (v := 1) hx hb dX12_drawnCount_49 (by decide) ?_
    refine lv_iadd hx hb dX12_drawnCount_50 ?_
    refine lv_topi (fun v5 ev5 => ?_)
    exact pe_i M V rfl rfl hr hlk rfl ⟨rfl, I, A.wk (by decide)⟩ ⟨Nat.le_refl _, Nat.le_refl _⟩ dX12_drawnCount_51
  · skip
    have k_0 : (0 : Int32).toInt = 0 := rfl
    have c_1 := pi_ne c_1
    refine lv_iload_n hx hb dX12_drawnCount_4 rfl (lv_at hl 1 rfl) ?_
    refine lv_iconst (v := 1) hx hb dX12_drawnCount_5 (by decide) ?_
    refine lv_icmp_ne (tgt := 19) hx hb dX12_drawnCount_6 (by decide) (fun c_6 => ?_) (fun c_6 => ?_)
    · skip
      have k_1 : (1 : Int32).toInt = 1 := rfl
      have c_6 := pi_ne c_6
      refine lv_iload_n hx hb dX12_drawnCount_19 rfl (lv_at hl 1 rfl) ?_
      refine lv_iconst (v := 2) hx hb dX12_drawnCount_20 (by decide) ?_
      refine lv_icmp_ne (tgt := 33) hx hb dX12_drawnCount_21 (by decide) (fun c_21 => ?_) (fun c_21 => ?_)
      · skip
        have k_2 : (2 : Int32).toInt = 2 := rfl
        have c_21 := pi_ne c_21
        refine lv_iconst (v := (-1)) hx hb dX12_drawnCount_33 (by decide) ?_
        have k_m1 : (-1 : Int32).toInt = -1 := rfl
        exact J_34 (-1 : Int32) _ _ _ _ V I (A.wk (by decide)) (lv_sub hl [0, 1] rfl) (by omega) (show (h 137 83).toInt + (0) ≤ (h 137 83).toInt ∧ (h 137 83).toInt ≤ (h 137 83).toInt + (0) by omega) 
      · skip
        have k_2 : (2 : Int32).toInt = 2 := rfl
        have c_21 := pi_eq.mp c_21
        refine lv_iconst (v := 4) hx hb dX12_drawnCount_24 (by decide) ?_
        refine lv_aload_n hx hb dX12_drawnCount_25 rfl (lv_at hl 0 rfl) ?_
        refine pg_i M V 12 83 (sm_this S) pC12 fk12_83 lkF_X12_307 dX12_drawnCount_26 ?_
        refine lv_topi (fun v6 ev6 => ?_)
        have tv6 : 0 ≤ v6.toInt ∧ v6.toInt ≤ 7000 := by rw [ev6]; exact I.get (sm_this S) 83
        have uv6 : v6.toInt = (h 137 83).toInt := congrArg Int32.toInt ev6
        refine lv_imul hx hb dX12_drawnCount_29 ?_
        refine lv_topi (fun v7 ev7 => ?_)
        refine lv_goto (tgt := 34) hx hb dX12_drawnCount_30 (by decide) ?_
        have k_4 : (4 : Int32).toInt = 4 := rfl
        have tv7 : v7.toInt = 4 * v6.toInt := by rw [ev7]; have z9 := pi_mul (x := (4 : Int32)) (y := v6); rw [k_4] at z9; exact z9 (by omega)
        exact J_34 v7 _ _ _ _ V I (A.wk (by decide)) (lv_sub hl [0, 1] rfl) (by omega) (show (h 137 83).toInt + (0) ≤ (h 137 83).toInt ∧ (h 137 83).toInt ≤ (h 137 83).toInt + (0) by omega) 
    · skip
      have k_1 : (1 : Int32).toInt = 1 := rfl
      have c_6 := pi_eq.mp c_6
      refine lv_bipush (v := 6) hx hb dX12_drawnCount_9 (by decide) ?_
      refine lv_aload_n hx hb dX12_drawnCount_11 rfl (lv_at hl 0 rfl) ?_
      refine pg_i M V 12 83 (sm_this S) pC12 fk12_83 lkF_X12_307 dX12_drawnCount_12 ?_
      refine lv_topi (fun v8 ev8 => ?_)
      have tv8 : 0 ≤ v8.toInt ∧ v8.toInt ≤ 7000 := by rw [ev8]; exact I.get (sm_this S) 83
      have uv8 : v8.toInt = (h 137 83).toInt := congrArg Int32.toInt ev8
      refine lv_imul hx hb dX12_drawnCount_15 ?_
      refine lv_topi (fun v9 ev9 => ?_)
      refine lv_goto (tgt := 34) hx hb dX12_drawnCount_16 (by decide) ?_
      have k_6 : (6 : Int32).toInt = 6 := rfl
      have tv9 : v9.toInt = 6 * v8.toInt := by rw [ev9]; have z9 := pi_mul (x := (6 : Int32)) (y := v8); rw [k_6] at z9; exact z9 (by omega)
      exact J_34 v9 _ _ _ _ V I (A.wk (by decide)) (lv_sub hl [0, 1] rfl) (by omega) (show (h 137 83).toInt + (0) ≤ (h 137 83).toInt ∧ (h 137 83).toInt ≤ (h 137 83).toInt + (0) by omega) 
theorem dX12_drawn_0 : decode cX12_drawn 0 = .ok (.aload_n 0, 1) := by decide +kernel
theorem dX12_drawn_1 : decode cX12_drawn 1 = .ok (.iconst 0, 1) := by decide +kernel
theorem dX12_drawn_2 : decode cX12_drawn 2 = .ok (.putfield 175, 3) := by decide +kernel
theorem dX12_drawn_5 : decode cX12_drawn 5 = .ok (.aload_n 0, 1) := by decide +kernel
theorem dX12_drawn_6 : decode cX12_drawn 6 = .ok (.iload_n 1, 1) := by decide +kernel
theorem dX12_drawn_7 : decode cX12_drawn 7 = .ok (.invokevirtual 313, 3) := by decide +kernel
theorem dX12_drawn_10 : decode cX12_drawn 10 = .ok (.ireturn, 1) := by decide +kernel
set_option maxHeartbeats 4000000 in
set_option maxRecDepth 100000 in
theorem m_X12_drawn (l : Launch) {Z : pZ} (S : pSh Z) {h : pH} (I : Iv Z h) (what : Int32)  : pMet l yX12_drawn cX12_drawn 2 (some .int) 2 0 0 47 Z h [.ref (zB Z + 137), .int what] (pQi Z (fun r Z1 h1 => Z = Z1 ∧ Iv Z h1 ∧ agr [(137, 84), (137, 85), (137, 86), (137, 87), (137, 0)] h h1)) := by
  refine pOfW (lv := [(0, .ref (zB Z + 137)), (1, .int what)]) (by decide) (Nat.le_of_ble_eq_true rfl) rfl ?_
  intro p e s m below meth c ls M hr hlk hnm V hl
  have hx := M.1.1
  have hb := M.1.2.1
  have A : agr [] h h := agr.rf
  have i_83 : 0 ≤ (h 137 83).toInt ∧ (h 137 83).toInt ≤ 7000 := I.get (sm_this S) 83
  refine lv_aload_n hx hb dX12_drawn_0 rfl (lv_at hl 0 rfl) ?_
  refine lv_iconst (v := 0) hx hb dX12_drawn_1 (by decide) ?_
  refine pp_i M V 12 0 (sm_this S) pC12 fk12_0 rfl lkF_X12_175 ⟨rfl, rfl⟩ dX12_drawn_2 (fun H locs V => ?_)
  have A := A.wk (l3 := [(137, 0)]) (by decide)
  have A := A.up (o := 137) (k := 0) (v := (0 : Int32)) (by decide)
  have I := I.up (k := 0) (v := (0 : Int32)) (sm_this S) (pi_full _)
  refine lv_aload_n hx hb dX12_drawn_5 rfl (lv_at hl 0 rfl) ?_
  refine lv_iload_n hx hb dX12_drawn_6 rfl (lv_at hl 1 rfl) ?_
  refine pk_i (pr_V M V (m_X12_drawnCount l S I what ) km_X12_drawnCount (sm_this S) pC12 lkM_X12_313 rfl hl.1 rfl (Nat.le_of_ble_eq_true rfl) ⟨Nat.le_of_ble_eq_true rfl, Nat.le_of_ble_eq_true rfl⟩ ⟨Nat.le_of_ble_eq_true rfl, Nat.le_of_ble_eq_true rfl⟩ dX12_drawn_7) V (fun r1 Zr1 hr1 H locs pr1 _ _ V => ?_)
  obtain ⟨rfl, I, pA_r1⟩ := pr1
  have A := A.wk (l3 := [(137, 0), (137, 84), (137, 85), (137, 86), (137, 87)]) (by decide)
  have A := A.tr pA_r1 (by decide)
  have w_r1_83 : (hr1 137 83).toInt = (h 137 83).toInt := congrArg Int32.toInt (pA_r1.get 137 83 (by decide))
  exact pe_i M V rfl rfl hr hlk rfl ⟨rfl, I, A.wk (by decide)⟩ ⟨Nat.le_refl _, Nat.le_refl _⟩ dX12_drawn_10
theorem dX12_command_0 : decode cX12_command 0 = .ok (.aload_n 0, 1) := by decide +kernel
theorem dX12_command_1 : decode cX12_command 1 = .ok (.iconst 0, 1) := by decide +kernel
theorem dX12_command_2 : decode cX12_command 2 = .ok (.putfield 175, 3) := by decide +kernel
theorem dX12_command_5 : decode cX12_command 5 = .ok (.iload_n 1, 1) := by decide +kernel
theorem dX12_command_6 : decode cX12_command 6 = .ok (.ifCond .lt 13, 3) := by decide +kernel
theorem dX12_command_9 : decode cX12_command 9 = .ok (.iload_n 2, 1) := by decide +kernel
theorem dX12_command_10 : decode cX12_command 10 = .ok (.ifCond .lt 9, 3) := by decide +kernel
theorem dX12_command_13 : decode cX12_command 13 = .ok (.iload_n 2, 1) := by decide +kernel
theorem dX12_command_14 : decode cX12_command 14 = .ok (.bipush 7, 2) := by decide +kernel
theorem dX12_command_16 : decode cX12_command 16 = .ok (.if_icmp .le 5, 3) := by decide +kernel
theorem dX12_command_19 : decode cX12_command 19 = .ok (.iconst (-1), 1) := by decide +kernel
theorem dX12_command_20 : decode cX12_command 20 = .ok (.ireturn, 1) := by decide +kernel
theorem dX12_command_21 : decode cX12_command 21 = .ok (.iconst 0, 1) := by decide +kernel
theorem dX12_command_22 : decode cX12_command 22 = .ok (.istore_n 3, 1) := by decide +kernel
theorem dX12_command_23 : decode cX12_command 23 = .ok (.iload_n 3, 1) := by decide +kernel
theorem dX12_command_24 : decode cX12_command 24 = .ok (.aload_n 0, 1) := by decide +kernel
theorem dX12_command_25 : decode cX12_command 25 = .ok (.getfield 307, 3) := by decide +kernel
theorem dX12_command_28 : decode cX12_command 28 = .ok (.if_icmp .ge 138, 3) := by decide +kernel
theorem dX12_command_31 : decode cX12_command 31 = .ok (.aload_n 0, 1) := by decide +kernel
theorem dX12_command_32 : decode cX12_command 32 = .ok (.iload_n 3, 1) := by decide +kernel
theorem dX12_command_33 : decode cX12_command 33 = .ok (.invokevirtual 409, 3) := by decide +kernel
theorem dX12_command_36 : decode cX12_command 36 = .ok (.aload_n 0, 1) := by decide +kernel
theorem dX12_command_37 : decode cX12_command 37 = .ok (.getfield 400, 3) := by decide +kernel
theorem dX12_command_40 : decode cX12_command 40 = .ok (.iload_n 1, 1) := by decide +kernel
theorem dX12_command_41 : decode cX12_command 41 = .ok (.if_icmp .eq 6, 3) := by decide +kernel
theorem dX12_command_44 : decode cX12_command 44 = .ok (.goto 116, 3) := by decide +kernel
theorem dX12_command_47 : decode cX12_command 47 = .ok (.iload_n 2, 1) := by decide +kernel
theorem dX12_command_48 : decode cX12_command 48 = .ok (.iconst 4, 1) := by decide +kernel
theorem dX12_command_49 : decode cX12_command 49 = .ok (.if_icmp .ge 18, 3) := by decide +kernel
theorem dX12_command_52 : decode cX12_command 52 = .ok (.aload_n 0, 1) := by decide +kernel
theorem dX12_command_53 : decode cX12_command 53 = .ok (.getfield 172, 3) := by decide +kernel
theorem dX12_command_56 : decode cX12_command 56 = .ok (.bipush 11, 2) := by decide +kernel
theorem dX12_command_58 : decode cX12_command 58 = .ok (.iload_n 3, 1) := by decide +kernel
theorem dX12_command_59 : decode cX12_command 59 = .ok (.imul, 1) := by decide +kernel
theorem dX12_command_60 : decode cX12_command 60 = .ok (.bipush 7, 2) := by decide +kernel
theorem dX12_command_62 : decode cX12_command 62 = .ok (.iadd, 1) := by decide +kernel
theorem dX12_command_63 : decode cX12_command 63 = .ok (.iload_n 2, 1) := by decide +kernel
theorem dX12_command_64 : decode cX12_command 64 = .ok (.iadd, 1) := by decide +kernel
theorem dX12_command_65 : decode cX12_command 65 = .ok (.iaload, 1) := by decide +kernel
theorem dX12_command_66 : decode cX12_command 66 = .ok (.ireturn, 1) := by decide +kernel
theorem dX12_command_67 : decode cX12_command 67 = .ok (.iload_n 2, 1) := by decide +kernel
theorem dX12_command_68 : decode cX12_command 68 = .ok (.iconst 4, 1) := by decide +kernel
theorem dX12_command_69 : decode cX12_command 69 = .ok (.if_icmp .ne 16, 3) := by decide +kernel
theorem dX12_command_72 : decode cX12_command 72 = .ok (.aload_n 0, 1) := by decide +kernel
theorem dX12_command_73 : decode cX12_command 73 = .ok (.getfield 172, 3) := by decide +kernel
theorem dX12_command_76 : decode cX12_command 76 = .ok (.bipush 11, 2) := by decide +kernel
theorem dX12_command_78 : decode cX12_command 78 = .ok (.iload_n 3, 1) := by decide +kernel
theorem dX12_command_79 : decode cX12_command 79 = .ok (.imul, 1) := by decide +kernel
theorem dX12_command_80 : decode cX12_command 80 = .ok (.bipush 6, 2) := by decide +kernel
theorem dX12_command_82 : decode cX12_command 82 = .ok (.iadd, 1) := by decide +kernel
theorem dX12_command_83 : decode cX12_command 83 = .ok (.iaload, 1) := by decide +kernel
theorem dX12_command_84 : decode cX12_command 84 = .ok (.ireturn, 1) := by decide +kernel
theorem dX12_command_85 : decode cX12_command 85 = .ok (.iload_n 2, 1) := by decide +kernel
theorem dX12_command_86 : decode cX12_command 86 = .ok (.iconst 5, 1) := by decide +kernel
theorem dX12_command_87 : decode cX12_command 87 = .ok (.if_icmp .ne 13, 3) := by decide +kernel
theorem dX12_command_90 : decode cX12_command 90 = .ok (.aload_n 0, 1) := by decide +kernel
theorem dX12_command_91 : decode cX12_command 91 = .ok (.getfield 397, 3) := by decide +kernel
theorem dX12_command_94 : decode cX12_command 94 = .ok (.aload_n 0, 1) := by decide +kernel
theorem dX12_command_95 : decode cX12_command 95 = .ok (.getfield 403, 3) := by decide +kernel
theorem dX12_command_98 : decode cX12_command 98 = .ok (.iadd, 1) := by decide +kernel
theorem dX12_command_99 : decode cX12_command 99 = .ok (.ireturn, 1) := by decide +kernel
theorem dX12_command_100 : decode cX12_command 100 = .ok (.iload_n 2, 1) := by decide +kernel
theorem dX12_command_101 : decode cX12_command 101 = .ok (.bipush 6, 2) := by decide +kernel
theorem dX12_command_103 : decode cX12_command 103 = .ok (.if_icmp .ne 8, 3) := by decide +kernel
theorem dX12_command_106 : decode cX12_command 106 = .ok (.aload_n 0, 1) := by decide +kernel
theorem dX12_command_107 : decode cX12_command 107 = .ok (.getfield 406, 3) := by decide +kernel
theorem dX12_command_110 : decode cX12_command 110 = .ok (.ireturn, 1) := by decide +kernel
theorem dX12_command_111 : decode cX12_command 111 = .ok (.iload_n 3, 1) := by decide +kernel
theorem dX12_command_112 : decode cX12_command 112 = .ok (.istore 4, 2) := by decide +kernel
theorem dX12_command_114 : decode cX12_command 114 = .ok (.iload 4, 2) := by decide +kernel
theorem dX12_command_116 : decode cX12_command 116 = .ok (.iconst 1, 1) := by decide +kernel
theorem dX12_command_117 : decode cX12_command 117 = .ok (.iadd, 1) := by decide +kernel
theorem dX12_command_118 : decode cX12_command 118 = .ok (.aload_n 0, 1) := by decide +kernel
theorem dX12_command_119 : decode cX12_command 119 = .ok (.getfield 307, 3) := by decide +kernel
theorem dX12_command_122 : decode cX12_command 122 = .ok (.if_icmp .ge 28, 3) := by decide +kernel
theorem dX12_command_125 : decode cX12_command 125 = .ok (.aload_n 0, 1) := by decide +kernel
theorem dX12_command_126 : decode cX12_command 126 = .ok (.iload 4, 2) := by decide +kernel
theorem dX12_command_128 : decode cX12_command 128 = .ok (.iconst 1, 1) := by decide +kernel
theorem dX12_command_129 : decode cX12_command 129 = .ok (.iadd, 1) := by decide +kernel
theorem dX12_command_130 : decode cX12_command 130 = .ok (.invokevirtual 409, 3) := by decide +kernel
theorem dX12_command_133 : decode cX12_command 133 = .ok (.aload_n 0, 1) := by decide +kernel
theorem dX12_command_134 : decode cX12_command 134 = .ok (.getfield 400, 3) := by decide +kernel
theorem dX12_command_137 : decode cX12_command 137 = .ok (.iload_n 1, 1) := by decide +kernel
theorem dX12_command_138 : decode cX12_command 138 = .ok (.if_icmp .eq 6, 3) := by decide +kernel
theorem dX12_command_141 : decode cX12_command 141 = .ok (.goto 9, 3) := by decide +kernel
theorem dX12_command_144 : decode cX12_command 144 = .ok (.iinc 4 1, 3) := by decide +kernel
theorem dX12_command_147 : decode cX12_command 147 = .ok (.goto (-33), 3) := by decide +kernel
theorem dX12_command_150 : decode cX12_command 150 = .ok (.bipush 6, 2) := by decide +kernel
theorem dX12_command_152 : decode cX12_command 152 = .ok (.iload 4, 2) := by decide +kernel
theorem dX12_command_154 : decode cX12_command 154 = .ok (.iconst 1, 1) := by decide +kernel
theorem dX12_command_155 : decode cX12_command 155 = .ok (.iadd, 1) := by decide +kernel
theorem dX12_command_156 : decode cX12_command 156 = .ok (.iload_n 3, 1) := by decide +kernel
theorem dX12_command_157 : decode cX12_command 157 = .ok (.isub, 1) := by decide +kernel
theorem dX12_command_158 : decode cX12_command 158 = .ok (.imul, 1) := by decide +kernel
theorem dX12_command_159 : decode cX12_command 159 = .ok (.ireturn, 1) := by decide +kernel
theorem dX12_command_160 : decode cX12_command 160 = .ok (.iinc 3 1, 3) := by decide +kernel
theorem dX12_command_163 : decode cX12_command 163 = .ok (.goto (-140), 3) := by decide +kernel
theorem dX12_command_166 : decode cX12_command 166 = .ok (.iconst (-1), 1) := by decide +kernel
theorem dX12_command_167 : decode cX12_command 167 = .ok (.ireturn, 1) := by decide +kernel
set_option maxHeartbeats 4000000 in
set_option maxRecDepth 100000 in
theorem m_X12_command (l : Launch) {Z : pZ} (S : pSh Z) {h : pH} (I : Iv Z h) (k : Int32) (what : Int32)  : pMet l yX12_command cX12_command 5 (some .int) 1 0 0 26 Z h [.ref (zB Z + 137), .int k, .int what] (pQi Z (fun r Z1 h1 => Z = Z1 ∧ Iv Z h1 ∧ agr [(137, 84), (137, 85), (137, 86), (137, 87), (137, 0)] h h1)) := by
  refine pOfW (lv := [(0, .ref (zB Z + 137)), (1, .int k), (2, .int what)]) (by decide) (Nat.le_of_ble_eq_true rfl) rfl ?_
  intro p e s m below meth c ls M hr hlk hnm V hl
  have hx := M.1.1
  have hb := M.1.2.1
  have A : agr [] h h := agr.rf
  have i_83 : 0 ≤ (h 137 83).toInt ∧ (h 137 83).toInt ≤ 7000 := I.get (sm_this S) 83
  have J_150 : ∀ (x150_3 : Int32) (x150_4 : Int32) (hJ : pH) (H : Heap) (locs : List Loc) (ls : Array Slot), pV Z hJ s.heap H locs → Iv Z hJ → agr [(137, 0), (137, 84), (137, 85), (137, 86), (137, 87)] h hJ → lv_has ls 5 [(0, .ref (zB Z + 137)), (1, .int k), (2, .int what), (3, .int x150_3), (4, .int x150_4)] → (0 ≤ k.toInt) → (7 ≤ what.toInt ∧ what.toInt ≤ 7) → (0 ≤ x150_3.toInt ∧ x150_3.toInt ≤ 6999) → (0 ≤ x150_4.toInt ∧ x150_4.toInt ≤ 6999) → ((h 137 83).toInt + (0) ≤ (hJ 137 83).toInt ∧ (hJ 137 83).toInt ≤ (h 137 83).toInt + (0)) → W p l e (pRm 1 0 0 26) s m ([.ref (zB Z + 137), .int k, .int what] : List Value).toArray below meth c H locs 0 0 (MQ below (pQi Z (fun r Z1 h1 => Z = Z1 ∧ Iv Z h1 ∧ agr [(137, 84), (137, 85), (137, 86), (137, 87), (137, 0)] h h1)) ([.ref (zB Z + 137), .int k, .int what] : List Value).toArray s 0 0 (pA (zB Z))) (F0 m 150 ls []) := by
    intro x150_3 x150_4 hJ H locs ls V I A hl g_150_1 g_150_2 g_150_3 g_150_4 gd_150_83
    refine lv_bipush (v := 6) hx hb dX12_command_150 (by decide) ?_
    refine lv_iload hx hb dX12_command_152 (lv_at hl 4 rfl) ?_
    refine lv_iconst (v := 1) hx hb dX12_command_154 (by decide) ?_
    refine lv_iadd hx hb dX12_command_155 ?_
    refine lv_topi (fun v1 ev1 => ?_)
    refine lv_iload_n hx hb dX12_command_156 rfl (lv_at hl 3 rfl) ?_
    refine lv_isub hx hb dX12_command_157 ?_
    refine lv_topi (fun v2 ev2 => ?_)
    refine lv_imul hx hb dX12_command_158 ?_
    refine lv_topi (fun v3 ev3 => ?_)
    exact pe_i M V rfl rfl hr hlk rfl ⟨rfl, I, A.wk (by decide)⟩ ⟨Nat.le_refl _, Nat.le_refl _⟩ dX12_command_159
  have J_114 : ∀ (n9 : Nat) (x114_3 : Int32) (x114_4 : Int32) (hJ : pH) (H : Heap) (locs : List Loc) (ls : Array Slot), pV Z hJ s.heap H locs → Iv Z hJ → agr [(137, 0), (137, 84), (137, 85), (137, 86), (137, 87)] h hJ → lv_has ls 5 [(0, .ref (zB Z + 137)), (1, .int k), (2, .int what), (3, .int x114_3), (4, .int x114_4)] → (0 ≤ k.toInt) → (7 ≤ what.toInt ∧ what.toInt ≤ 7) → (0 ≤ x114_3.toInt ∧ x114_3.toInt ≤ 6999) → (0 ≤ x114_4.toInt ∧ x114_4.toInt ≤ 6999) → ((h 137 83).toInt + (0) ≤ (hJ 137 83).toInt ∧ (hJ 137 83).toInt ≤ (h 137 83).toInt + (0)) → (7000 - x114_4.toInt).toNat < n9 → W p l e (pRm 1 0 0 26) s m ([.ref (zB Z + 137), .int k, .int what] : List Value).toArray below meth c H locs 0 0 (MQ below (pQi Z (fun r Z1 h1 => Z = Z1 ∧ Iv Z h1 ∧ agr [(137, 84), (137, 85), (137, 86), (137, 87), (137, 0)] h h1)) ([.ref (zB Z + 137), .int k, .int what] : List Value).toArray s 0 0 (pA (zB Z))) (F0 m 114 ls []) := by
    intro n9
    induction n9 with
    | zero => intro x114_3 x114_4 hJ H locs ls V I A hl g_114_1 g_114_2 g_114_3 g_114_4 gd_114_83 hm9; exact absurd hm9 (Nat.not_lt_zero _)
    | succ n9 ih_114 =>
      intro x114_3 x114_4 hJ H locs ls V I A hl g_114_1 g_114_2 g_114_3 g_114_4 gd_114_83 hm9
      refine lv_iload hx hb dX12_command_114 (lv_at hl 4 rfl) ?_
      refine lv_iconst (v := 1) hx hb dX12_command_116 (by decide) ?_
      refine lv_iadd hx hb dX12_command_117 ?_
      refine lv_topi (fun v4 ev4 => ?_)
      refine lv_aload_n hx hb dX12_command_118 rfl (lv_at hl 0 rfl) ?_
      refine pg_i M V 12 83 (sm_this S) pC12 fk12_83 lkF_X12_307 dX12_command_119 ?_
      refine lv_topi (fun v5 ev5 => ?_)
      have tv5 : 0 ≤ v5.toInt ∧ v5.toInt ≤ 7000 := by rw [ev5]; exact I.get (sm_this S) 83
      have uv5 : v5.toInt = (hJ 137 83).toInt := congrArg Int32.toInt ev5
      refine lv_icmp_ge (tgt := 150) hx hb dX12_command_122 (by decide) (fun c_122 => ?_) (fun c_122 => ?_)
      · skip
        have k_1 : (1 : Int32).toInt = 1 := rfl
        have tv4 : v4.toInt = x114_4.toInt + 1 := by rw [ev4]; have z9 := pi_add (x := x114_4) (y := (1 : Int32)); rw [k_1] at z9; exact z9 (by omega)
        have c_122 := pi_le.mp c_122
        exact J_150 x114_3 x114_4 _ _ _ _ V I (A.wk (by decide)) (lv_sub hl [0, 1, 2, 3, 4] rfl) (by omega) (by omega) (by omega) (by omega) (show (h 137 83).toInt + (0) ≤ (hJ 137 83).toInt ∧ (hJ 137 83).toInt ≤ (h 137 83).toInt + (0) by omega) 
      · skip
        have k_1 : (1 : Int32).toInt = 1 := rfl
        have tv4 : v4.toInt = x114_4.toInt + 1 := by rw [ev4]; have z9 := pi_add (x := x114_4) (y := (1 : Int32)); rw [k_1] at z9; exact z9 (by omega)
        have c_122 := pi_le' c_122
        refine lv_aload_n hx hb dX12_command_125 rfl (lv_at hl 0 rfl) ?_
        refine lv_iload hx hb dX12_command_126 (lv_at hl 4 rfl) ?_
        refine lv_iconst (v := 1) hx hb dX12_command_128 (by decide) ?_
        refine lv_iadd hx hb dX12_command_129 ?_
        refine lv_topi (fun v6 ev6 => ?_)
        have tv6 : v6.toInt = x114_4.toInt + 1 := by rw [ev6]; have z9 := pi_add (x := x114_4) (y := (1 : Int32)); rw [k_1] at z9; exact z9 (by omega)
        refine pk_v (pr_V M V (m_X12_walk l S I v6 (show v6.toInt < (hJ 137 83).toInt by omega) (show (hJ 137 83).toInt ≤ 7000 by omega)) km_X12_walk (sm_this S) pC12 lkM_X12_409 rfl hl.1 rfl (Nat.le_of_ble_eq_true rfl) ⟨Nat.le_of_ble_eq_true rfl, Nat.le_of_ble_eq_true rfl⟩ ⟨Nat.le_of_ble_eq_true rfl, Nat.le_of_ble_eq_true rfl⟩ dX12_command_130) V (fun Zr7 hr7 H locs pr7 _ _ V => ?_)
        obtain ⟨rfl, I, pA_r7⟩ := pr7
        have A := A.tr pA_r7 (by decide)
        have w_r7_83 : (hr7 137 83).toInt = (hJ 137 83).toInt := congrArg Int32.toInt (pA_r7.get 137 83 (by decide))
        refine lv_aload_n hx hb dX12_command_133 rfl (lv_at hl 0 rfl) ?_
        refine pg_i M V 12 85 (sm_this S) pC12 fk12_85 lkF_X12_400 dX12_command_134 ?_
        refine lv_topi (fun v8 ev8 => ?_)
        refine lv_iload_n hx hb dX12_command_137 rfl (lv_at hl 1 rfl) ?_
        refine lv_icmp_eq (tgt := 144) hx hb dX12_command_138 (by decide) (fun c_138 => ?_) (fun c_138 => ?_)
        · skip
          have c_138 := pi_eq.mp c_138
          obtain ⟨v9, ev9⟩ : ∃ y : Int32, y = x114_4 + 1 := ⟨_, rfl⟩
          refine lv_iinc (v := v9) (lv' := [(4, .int v9), (0, .ref (zB Z + 137)), (1, .int k), (2, .int what), (3, .int x114_3)]) hx hb dX12_command_144 hl (k := 4) rfl (by rw [ev9]; rfl) (by decide) rfl (fun ls hl => ?_)
          refine lv_goto (tgt := 114) hx hb dX12_command_147 (by decide) ?_
          have tv9 : v9.toInt = x114_4.toInt + 1 := by rw [ev9]; have z9 := pi_add (x := x114_4) (y := (1 : Int32)); rw [k_1] at z9; exact z9 (by omega)
          exact ih_114 x114_3 v9 _ _ _ _ V I (A.wk (by decide)) (lv_sub hl [1, 2, 3, 4, 0] rfl) (by omega) (by omega) (by omega) (by omega) (show (h 137 83).toInt + (0) ≤ (hr7 137 83).toInt ∧ (hr7 137 83).toInt ≤ (h 137 83).toInt + (0) by omega) (by omega) 
        · skip
          have c_138 := pi_ne c_138
          refine lv_goto (tgt := 150) hx hb dX12_command_141 (by decide) ?_
          exact J_150 x114_3 x114_4 _ _ _ _ V I (A.wk (by decide)) (lv_sub hl [0, 1, 2, 3, 4] rfl) (by omega) (by omega) (by omega) (by omega) (show (h 137 83).toInt + (0) ≤ (hr7 137 83).toInt ∧ (hr7 137 83).toInt ≤ (h 137 83).toInt + (0) by omega) 
  have J_23 : ∀ (n9 : Nat) (x23_3 : Int32) (hJ : pH) (H : Heap) (locs : List Loc) (ls : Array Slot), pV Z hJ s.heap H locs → Iv Z hJ → agr [(137, 0), (137, 84), (137, 85), (137, 86), (137, 87)] h hJ → lv_has ls 5 [(0, .ref (zB Z + 137)), (1, .int k), (2, .int what), (3, .int x23_3)] → (0 ≤ k.toInt) → (0 ≤ what.toInt ∧ what.toInt ≤ 7) → (0 ≤ x23_3.toInt ∧ x23_3.toInt ≤ 7000) → ((h 137 83).toInt + (0) ≤ (hJ 137 83).toInt ∧ (hJ 137 83).toInt ≤ (h 137 83).toInt + (0)) → (7000 - x23_3.toInt).toNat < n9 → W p l e (pRm 1 0 0 26) s m ([.ref (zB Z + 137), .int k, .int what] : List Value).toArray below meth c H locs 0 0 (MQ below (pQi Z (fun r Z1 h1 => Z = Z1 ∧ Iv Z h1 ∧ agr [(137, 84), (137, 85), (137, 86), (137, 87), (137, 0)] h h1)) ([.ref (zB Z + 137), .int k, .int what] : List Value).toArray s 0 0 (pA (zB Z))) (F0 m 23 ls []) := by
    intro n9
    induction n9 with
    | zero => intro x23_3 hJ H locs ls V I A hl g_23_1 g_23_2 g_23_3 gd_23_83 hm9; exact absurd hm9 (Nat.not_lt_zero _)
    | succ n9 ih_23 =>
      intro x23_3 hJ H locs ls V I A hl g_23_1 g_23_2 g_23_3 gd_23_83 hm9
      refine lv_iload_n hx hb dX12_command_23 rfl (lv_at hl 3 rfl) ?_
      refine lv_aload_n hx hb dX12_command_24 rfl (lv_at hl 0 rfl) ?_
      refine pg_i M V 12 83 (sm_this S) pC12 fk12_83 lkF_X12_307 dX12_command_25 ?_
      refine lv_topi (fun v10 ev10 => ?_)
      have tv10 : 0 ≤ v10.toInt ∧ v10.toInt ≤ 7000 := by rw [ev10]; exact I.get (sm_this S) 83
      have uv10 : v10.toInt = (hJ 137 83).toInt := congrArg Int32.toInt ev10
      refine lv_icmp_ge (tgt := 166) hx hb dX12_command_28 (by decide) (fun c_28 => ?_) (fun c_28 => ?_)
      · skip
        have c_28 := pi_le.mp c_28
        refine lv_iconst (v := (-1)) hx hb dX12_command_166 (by decide) ?_
        have k_m1 : (-1 : Int32).toInt = -1 := rfl
        exact pe_i M V rfl rfl hr hlk rfl ⟨rfl, I, A.wk (by decide)⟩ ⟨Nat.le_refl _, Nat.le_refl _⟩ dX12_command_167
      · skip
        have c_28 := pi_le' c_28
        refine lv_aload_n hx hb dX12_command_31 rfl (lv_at hl 0 rfl) ?_
        refine lv_iload_n hx hb dX12_command_32 rfl (lv_at hl 3 rfl) ?_
        refine pk_v (pr_V M V (m_X12_walk l S I x23_3 (show x23_3.toInt < (hJ 137 83).toInt by omega) (show (hJ 137 83).toInt ≤ 7000 by omega)) km_X12_walk (sm_this S) pC12 lkM_X12_409 rfl hl.1 rfl (Nat.le_of_ble_eq_true rfl) ⟨Nat.le_of_ble_eq_true rfl, Nat.le_of_ble_eq_true rfl⟩ ⟨Nat.le_of_ble_eq_true rfl, Nat.le_of_ble_eq_true rfl⟩ dX12_command_33) V (fun Zr11 hr11 H locs pr11 _ _ V => ?_)
        obtain ⟨rfl, I, pA_r11⟩ := pr11
        have A := A.tr pA_r11 (by decide)
        have w_r11_83 : (hr11 137 83).toInt = (hJ 137 83).toInt := congrArg Int32.toInt (pA_r11.get 137 83 (by decide))
        refine lv_aload_n hx hb dX12_command_36 rfl (lv_at hl 0 rfl) ?_
        refine pg_i M V 12 85 (sm_this S) pC12 fk12_85 lkF_X12_400 dX12_command_37 ?_
        refine lv_topi (fun v12 ev12 => ?_)
        refine lv_iload_n hx hb dX12_command_40 rfl (lv_at hl 1 rfl) ?_
        refine lv_icmp_eq (tgt := 47) hx hb dX12_command_41 (by decide) (fun c_41 => ?_) (fun c_41 => ?_)
        · skip
          have c_41 := pi_eq.mp c_41
          refine lv_iload_n hx hb dX12_command_47 rfl (lv_at hl 2 rfl) ?_
          refine lv_iconst (v := 4) hx hb dX12_command_48 (by decide) ?_
          refine lv_icmp_ge (tgt := 67) hx hb dX12_command_49 (by decide) (fun c_49 => ?_) (fun c_49 => ?_)
          · skip
            have k_4 : (4 : Int32).toInt = 4 := rfl
            have c_49 := pi_le.mp c_49
            refine lv_iload_n hx hb dX12_command_67 rfl (lv_at hl 2 rfl) ?_
            refine lv_iconst (v := 4) hx hb dX12_command_68 (by decide) ?_
            refine lv_icmp_ne (tgt := 85) hx hb dX12_command_69 (by decide) (fun c_69 => ?_) (fun c_69 => ?_)
            · skip
              have c_69 := pi_ne c_69
              refine lv_iload_n hx hb dX12_command_85 rfl (lv_at hl 2 rfl) ?_
              refine lv_iconst (v := 5) hx hb dX12_command_86 (by decide) ?_
              refine lv_icmp_ne (tgt := 100) hx hb dX12_command_87 (by decide) (fun c_87 => ?_) (fun c_87 => ?_)
              · skip
                have k_5 : (5 : Int32).toInt = 5 := rfl
                have c_87 := pi_ne c_87
                refine lv_iload_n hx hb dX12_command_100 rfl (lv_at hl 2 rfl) ?_
                refine lv_bipush (v := 6) hx hb dX12_command_101 (by decide) ?_
                refine lv_icmp_ne (tgt := 111) hx hb dX12_command_103 (by decide) (fun c_103 => ?_) (fun c_103 => ?_)
                · skip
                  have k_6 : (6 : Int32).toInt = 6 := rfl
                  have c_103 := pi_ne c_103
                  refine lv_iload_n hx hb dX12_command_111 rfl (lv_at hl 3 rfl) ?_
                  refine lv_istore (lv' := [(4, .int x23_3), (0, .ref (zB Z + 137)), (1, .int k), (2, .int what), (3, .int x23_3)]) hx hb dX12_command_112 hl (by decide) rfl (fun ls hl => ?_)
                  exact J_114 _ x23_3 x23_3 _ _ _ _ V I (A.wk (by decide)) (lv_sub hl [1, 2, 3, 4, 0] rfl) (by omega) (by omega) (by omega) (by omega) (show (h 137 83).toInt + (0) ≤ (hr11 137 83).toInt ∧ (hr11 137 83).toInt ≤ (h 137 83).toInt + (0) by omega) (Nat.lt_succ_self _) 
                · skip
                  have k_6 : (6 : Int32).toInt = 6 := rfl
                  have c_103 := pi_eq.mp c_103
                  refine lv_aload_n hx hb dX12_command_106 rfl (lv_at hl 0 rfl) ?_
                  refine pg_i M V 12 87 (sm_this S) pC12 fk12_87 lkF_X12_406 dX12_command_107 ?_
                  refine lv_topi (fun v13 ev13 => ?_)
                  exact pe_i M V rfl rfl hr hlk rfl ⟨rfl, I, A.wk (by decide)⟩ ⟨Nat.le_refl _, Nat.le_refl _⟩ dX12_command_110
              · skip
                have k_5 : (5 : Int32).toInt = 5 := rfl
                have c_87 := pi_eq.mp c_87
                refine lv_aload_n hx hb dX12_command_90 rfl (lv_at hl 0 rfl) ?_
                refine pg_i M V 12 84 (sm_this S) pC12 fk12_84 lkF_X12_397 dX12_command_91 ?_
                refine lv_topi (fun v14 ev14 => ?_)
                refine lv_aload_n hx hb dX12_command_94 rfl (lv_at hl 0 rfl) ?_
                refine pg_i M V 12 86 (sm_this S) pC12 fk12_86 lkF_X12_403 dX12_command_95 ?_
                refine lv_topi (fun v15 ev15 => ?_)
                refine lv_iadd hx hb dX12_command_98 ?_
                refine lv_topi (fun v16 ev16 => ?_)
                exact pe_i M V rfl rfl hr hlk rfl ⟨rfl, I, A.wk (by decide)⟩ ⟨Nat.le_refl _, Nat.le_refl _⟩ dX12_command_99
            · skip
              have c_69 := pi_eq.mp c_69
              refine lv_aload_n hx hb dX12_command_72 rfl (lv_at hl 0 rfl) ?_
              refine pg_r M V 12 81 (sm_this S) pC12 fk12_81 (sm_drawing S).2.2 lkF_X12_172 dX12_command_73 ?_
              refine lv_bipush (v := 11) hx hb dX12_command_76 (by decide) ?_
              refine lv_iload_n hx hb dX12_command_78 rfl (lv_at hl 3 rfl) ?_
              refine lv_imul hx hb dX12_command_79 ?_
              refine lv_topi (fun v17 ev17 => ?_)
              refine lv_bipush (v := 6) hx hb dX12_command_80 (by decide) ?_
              refine lv_iadd hx hb dX12_command_82 ?_
              refine lv_topi (fun v18 ev18 => ?_)
              have k_11 : (11 : Int32).toInt = 11 := rfl
              have tv17 : v17.toInt = 11 * x23_3.toInt := by rw [ev17]; have z9 := pi_mul (x := (11 : Int32)) (y := x23_3); rw [k_11] at z9; exact z9 (by omega)
              have k_6 : (6 : Int32).toInt = 6 := rfl
              have tv18 : v18.toInt = v17.toInt + 6 := by rw [ev18]; have z9 := pi_add (x := v17) (y := (6 : Int32)); rw [k_6] at z9; exact z9 (by omega)
              refine pa_i M V (sm_drawing S).1 (by rw [(sm_drawing S).2.1]; exact pi_in (by omega)) dX12_command_83 ?_
              refine lv_topi (fun v19 ev19 => ?_)
              exact pe_i M V rfl rfl hr hlk rfl ⟨rfl, I, A.wk (by decide)⟩ ⟨Nat.le_refl _, Nat.le_refl _⟩ dX12_command_84
          · skip
            have k_4 : (4 : Int32).toInt = 4 := rfl
            have c_49 := pi_le' c_49
            refine lv_aload_n hx hb dX12_command_52 rfl (lv_at hl 0 rfl) ?_
            refine pg_r M V 12 81 (sm_this S) pC12 fk12_81 (sm_drawing S).2.2 lkF_X12_172 dX12_command_53 ?_
            refine lv_bipush (v := 11) hx hb dX12_command_56 (by decide) ?_
            refine lv_iload_n hx hb dX12_command_58 rfl (lv_at hl 3 rfl) ?_
            refine lv_imul hx hb dX12_command_59 ?_
            refine lv_topi (fun v20 ev20 => ?_)
            refine lv_bipush (v := 7) hx hb dX12_command_60 (by decide) ?_
            refine lv_iadd hx hb dX12_command_62 ?_
            refine lv_topi (fun v21 ev21 => ?_)
            refine lv_iload_n hx hb dX12_command_63 rfl (lv_at hl 2 rfl) ?_
            refine lv_iadd hx hb dX12_command_64 ?_
            refine lv_topi (fun v22 ev22 => ?_)
            have k_11 : (11 : Int32).toInt = 11 := rfl
            have tv20 : v20.toInt = 11 * x23_3.toInt := by rw [ev20]; have z9 := pi_mul (x := (11 : Int32)) (y := x23_3); rw [k_11] at z9; exact z9 (by omega)
            have k_7 : (7 : Int32).toInt = 7 := rfl
            have tv21 : v21.toInt = v20.toInt + 7 := by rw [ev21]; have z9 := pi_add (x := v20) (y := (7 : Int32)); rw [k_7] at z9; exact z9 (by omega)
            have tv22 : v22.toInt = v21.toInt + what.toInt := by rw [ev22]; exact pi_add (by omega)
            refine pa_i M V (sm_drawing S).1 (by rw [(sm_drawing S).2.1]; exact pi_in (by omega)) dX12_command_65 ?_
            refine lv_topi (fun v23 ev23 => ?_)
            exact pe_i M V rfl rfl hr hlk rfl ⟨rfl, I, A.wk (by decide)⟩ ⟨Nat.le_refl _, Nat.le_refl _⟩ dX12_command_66
        · skip
          have c_41 := pi_ne c_41
          refine lv_goto (tgt := 160) hx hb dX12_command_44 (by decide) ?_
          obtain ⟨v24, ev24⟩ : ∃ y : Int32, y = x23_3 + 1 := ⟨_, rfl⟩
          refine lv_iinc (v := v24) (lv' := [(3, .int v24), (0, .ref (zB Z + 137)), (1, .int k), (2, .int what)]) hx hb dX12_command_160 hl (k := 3) rfl (by rw [ev24]; rfl) (by decide) rfl (fun ls hl => ?_)
          refine lv_goto (tgt := 23) hx hb dX12_command_163 (by decide) ?_
          have k_1 : (1 : Int32).toInt = 1 := rfl
          have tv24 : v24.toInt = x23_3.toInt + 1 := by rw [ev24]; have z9 := pi_add (x := x23_3) (y := (1 : Int32)); rw [k_1] at z9; exact z9 (by omega)
          exact ih_23 v24 _ _ _ _ V I (A.wk (by decide)) (lv_sub hl [1, 2, 3, 0] rfl) (by omega) (by omega) (by omega) (show (h 137 83).toInt + (0) ≤ (hr11 137 83).toInt ∧ (hr11 137 83).toInt ≤ (h 137 83).toInt + (0) by omega) (by omega) 
  have J_19 : ∀ (hJ : pH) (H : Heap) (locs : List Loc) (ls : Array Slot), pV Z hJ s.heap H locs → Iv Z hJ → agr [(137, 0)] h hJ → lv_has ls 5 [(0, .ref (zB Z + 137)), (1, .int k), (2, .int what)] → ((h 137 83).toInt + (0) ≤ (hJ 137 83).toInt ∧ (hJ 137 83).toInt ≤ (h 137 83).toInt + (0)) → W p l e (pRm 1 0 0 26) s m ([.ref (zB Z + 137), .int k, .int what] : List Value).toArray below meth c H locs 0 0 (MQ below (pQi Z (fun r Z1 h1 => Z = Z1 ∧ Iv Z h1 ∧ agr [(137, 84), (137, 85), (137, 86), (137, 87), (137, 0)] h h1)) ([.ref (zB Z + 137), .int k, .int what] : List Value).toArray s 0 0 (pA (zB Z))) (F0 m 19 ls []) := by
    intro hJ H locs ls V I A hl gd_19_83
    refine lv_iconst (v := (-1)) hx hb dX12_command_19 (by decide) ?_
    have k_m1 : (-1 : Int32).toInt = -1 := rfl
    exact pe_i M V rfl rfl hr hlk rfl ⟨rfl, I, A.wk (by decide)⟩ ⟨Nat.le_refl _, Nat.le_refl _⟩ dX12_command_20
  refine lv_aload_n hx hb dX12_command_0 rfl (lv_at hl 0 rfl) ?_
  refine lv_iconst (v := 0) hx hb dX12_command_1 (by decide) ?_
  refine pp_i M V 12 0 (sm_this S) pC12 fk12_0 rfl lkF_X12_175 ⟨rfl, rfl⟩ dX12_command_2 (fun H locs V => ?_)
  have A := A.wk (l3 := [(137, 0)]) (by decide)
  have A := A.up (o := 137) (k := 0) (v := (0 : Int32)) (by decide)
  have I := I.up (k := 0) (v := (0 : Int32)) (sm_this S) (pi_full _)
  refine lv_iload_n hx hb dX12_command_5 rfl (lv_at hl 1 rfl) ?_
  refine lv_if_lt (tgt := 19) hx hb dX12_command_6 (by decide) (fun c_6 => ?_) (fun c_6 => ?_)
  · skip
    have k_0 : (0 : Int32).toInt = 0 := rfl
    have c_6 := pi_lt.mp c_6
    exact J_19 _ _ _ _ V I (A.wk (by decide)) (lv_sub hl [0, 1, 2] rfl) (show (h 137 83).toInt + (0) ≤ (h 137 83).toInt ∧ (h 137 83).toInt ≤ (h 137 83).toInt + (0) by omega) 
  · skip
    have k_0 : (0 : Int32).toInt = 0 := rfl
    have c_6 := pi_lt' c_6
    refine lv_iload_n hx hb dX12_command_9 rfl (lv_at hl 2 rfl) ?_
    refine lv_if_lt (tgt := 19) hx hb dX12_command_10 (by decide) (fun c_10 => ?_) (fun c_10 => ?_)
    · skip
      have c_10 := pi_lt.mp c_10
      exact J_19 _ _ _ _ V I (A.wk (by decide)) (lv_sub hl [0, 1, 2] rfl) (show (h 137 83).toInt + (0) ≤ (h 137 83).toInt ∧ (h 137 83).toInt ≤ (h 137 83).toInt + (0) by omega) 
    · skip
      have c_10 := pi_lt' c_10
      refine lv_iload_n hx hb dX12_command_13 rfl (lv_at hl 2 rfl) ?_
      refine lv_bipush (v := 7) hx hb dX12_command_14 (by decide) ?_
      refine lv_icmp_le (tgt := 21) hx hb dX12_command_16 (by decide) (fun c_16 => ?_) (fun c_16 => ?_)
      · skip
        have k_7 : (7 : Int32).toInt = 7 := rfl
        have c_16 := pi_le.mp c_16
        refine lv_iconst (v := 0) hx hb dX12_command_21 (by decide) ?_
        refine lv_istore_n (lv' := [(3, .int (0 : Int32)), (0, .ref (zB Z + 137)), (1, .int k), (2, .int what)]) hx hb dX12_command_22 rfl hl (by decide) rfl (fun ls hl => ?_)
        exact J_23 _ (0 : Int32) _ _ _ _ V I (A.wk (by decide)) (lv_sub hl [1, 2, 3, 0] rfl) (by omega) (by omega) (by omega) (show (h 137 83).toInt + (0) ≤ (h 137 83).toInt ∧ (h 137 83).toInt ≤ (h 137 83).toInt + (0) by omega) (Nat.lt_succ_self _) 
      · skip
        have k_7 : (7 : Int32).toInt = 7 := rfl
        have c_16 := pi_le' c_16
        exact J_19 _ _ _ _ V I (A.wk (by decide)) (lv_sub hl [0, 1, 2] rfl) (show (h 137 83).toInt + (0) ≤ (h 137 83).toInt ∧ (h 137 83).toInt ≤ (h 137 83).toInt + (0) by omega) 
theorem dX12_index_0 : decode cX12_index 0 = .ok (.aload_n 0, 1) := by decide +kernel
theorem dX12_index_1 : decode cX12_index 1 = .ok (.iconst 0, 1) := by decide +kernel
theorem dX12_index_2 : decode cX12_index 2 = .ok (.putfield 175, 3) := by decide +kernel
theorem dX12_index_5 : decode cX12_index 5 = .ok (.iload_n 1, 1) := by decide +kernel
theorem dX12_index_6 : decode cX12_index 6 = .ok (.ifCond .lt 14, 3) := by decide +kernel
theorem dX12_index_9 : decode cX12_index 9 = .ok (.iload_n 1, 1) := by decide +kernel
theorem dX12_index_10 : decode cX12_index 10 = .ok (.bipush 6, 2) := by decide +kernel
theorem dX12_index_12 : decode cX12_index 12 = .ok (.aload_n 0, 1) := by decide +kernel
theorem dX12_index_13 : decode cX12_index 13 = .ok (.getfield 307, 3) := by decide +kernel
theorem dX12_index_16 : decode cX12_index 16 = .ok (.imul, 1) := by decide +kernel
theorem dX12_index_17 : decode cX12_index 17 = .ok (.if_icmp .lt 5, 3) := by decide +kernel
theorem dX12_index_20 : decode cX12_index 20 = .ok (.iconst (-1), 1) := by decide +kernel
theorem dX12_index_21 : decode cX12_index 21 = .ok (.ireturn, 1) := by decide +kernel
theorem dX12_index_22 : decode cX12_index 22 = .ok (.aload_n 0, 1) := by decide +kernel
theorem dX12_index_23 : decode cX12_index 23 = .ok (.iload_n 1, 1) := by decide +kernel
theorem dX12_index_24 : decode cX12_index 24 = .ok (.bipush 6, 2) := by decide +kernel
theorem dX12_index_26 : decode cX12_index 26 = .ok (.idiv, 1) := by decide +kernel
theorem dX12_index_27 : decode cX12_index 27 = .ok (.invokevirtual 409, 3) := by decide +kernel
theorem dX12_index_30 : decode cX12_index 30 = .ok (.iload_n 1, 1) := by decide +kernel
theorem dX12_index_31 : decode cX12_index 31 = .ok (.bipush 6, 2) := by decide +kernel
theorem dX12_index_33 : decode cX12_index 33 = .ok (.irem, 1) := by decide +kernel
theorem dX12_index_34 : decode cX12_index 34 = .ok (.istore_n 2, 1) := by decide +kernel
theorem dX12_index_35 : decode cX12_index 35 = .ok (.iconst 4, 1) := by decide +kernel
theorem dX12_index_36 : decode cX12_index 36 = .ok (.iload_n 1, 1) := by decide +kernel
theorem dX12_index_37 : decode cX12_index 37 = .ok (.bipush 6, 2) := by decide +kernel
theorem dX12_index_39 : decode cX12_index 39 = .ok (.idiv, 1) := by decide +kernel
theorem dX12_index_40 : decode cX12_index 40 = .ok (.imul, 1) := by decide +kernel
theorem dX12_index_41 : decode cX12_index 41 = .ok (.aload_n 0, 1) := by decide +kernel
theorem dX12_index_42 : decode cX12_index 42 = .ok (.getfield 397, 3) := by decide +kernel
theorem dX12_index_45 : decode cX12_index 45 = .ok (.isub, 1) := by decide +kernel
theorem dX12_index_46 : decode cX12_index 46 = .ok (.aload_n 0, 1) := by decide +kernel
theorem dX12_index_47 : decode cX12_index 47 = .ok (.getfield 403, 3) := by decide +kernel
theorem dX12_index_50 : decode cX12_index 50 = .ok (.isub, 1) := by decide +kernel
theorem dX12_index_51 : decode cX12_index 51 = .ok (.iload_n 2, 1) := by decide +kernel
theorem dX12_index_52 : decode cX12_index 52 = .ok (.iconst 3, 1) := by decide +kernel
theorem dX12_index_53 : decode cX12_index 53 = .ok (.if_icmp .ge 7, 3) := by decide +kernel
theorem dX12_index_56 : decode cX12_index 56 = .ok (.iload_n 2, 1) := by decide +kernel
theorem dX12_index_57 : decode cX12_index 57 = .ok (.goto 15, 3) := by decide +kernel
theorem dX12_index_60 : decode cX12_index 60 = .ok (.iload_n 2, 1) := by decide +kernel
theorem dX12_index_61 : decode cX12_index 61 = .ok (.iconst 3, 1) := by decide +kernel
theorem dX12_index_62 : decode cX12_index 62 = .ok (.if_icmp .ne 7, 3) := by decide +kernel
theorem dX12_index_65 : decode cX12_index 65 = .ok (.iconst 0, 1) := by decide +kernel
theorem dX12_index_66 : decode cX12_index 66 = .ok (.goto 6, 3) := by decide +kernel
theorem dX12_index_69 : decode cX12_index 69 = .ok (.iload_n 2, 1) := by decide +kernel
theorem dX12_index_70 : decode cX12_index 70 = .ok (.iconst 2, 1) := by decide +kernel
theorem dX12_index_71 : decode cX12_index 71 = .ok (.isub, 1) := by decide +kernel
theorem dX12_index_72 : decode cX12_index 72 = .ok (.iadd, 1) := by decide +kernel
theorem dX12_index_73 : decode cX12_index 73 = .ok (.ireturn, 1) := by decide +kernel
set_option maxHeartbeats 4000000 in
set_option maxRecDepth 100000 in
theorem m_X12_index (l : Launch) {Z : pZ} (S : pSh Z) {h : pH} (I : Iv Z h) (k : Int32)  : pMet l yX12_index cX12_index 3 (some .int) 1 0 0 26 Z h [.ref (zB Z + 137), .int k] (pQi Z (fun r Z1 h1 => Z = Z1 ∧ Iv Z h1 ∧ agr [(137, 84), (137, 85), (137, 86), (137, 87), (137, 0)] h h1)) := by
  refine pOfW (lv := [(0, .ref (zB Z + 137)), (1, .int k)]) (by decide) (Nat.le_of_ble_eq_true rfl) rfl ?_
  intro p e s m below meth c ls M hr hlk hnm V hl
  have hx := M.1.1
  have hb := M.1.2.1
  have A : agr [] h h := agr.rf
  have i_83 : 0 ≤ (h 137 83).toInt ∧ (h 137 83).toInt ≤ 7000 := I.get (sm_this S) 83
  have J_20 : ∀ (hJ : pH) (H : Heap) (locs : List Loc) (ls : Array Slot), pV Z hJ s.heap H locs → Iv Z hJ → agr [(137, 0)] h hJ → lv_has ls 3 [(0, .ref (zB Z + 137)), (1, .int k)] → ((h 137 83).toInt + (0) ≤ (hJ 137 83).toInt ∧ (hJ 137 83).toInt ≤ (h 137 83).toInt + (0)) → W p l e (pRm 1 0 0 26) s m ([.ref (zB Z + 137), .int k] : List Value).toArray below meth c H locs 0 0 (MQ below (pQi Z (fun r Z1 h1 => Z = Z1 ∧ Iv Z h1 ∧ agr [(137, 84), (137, 85), (137, 86), (137, 87), (137, 0)] h h1)) ([.ref (zB Z + 137), .int k] : List Value).toArray s 0 0 (pA (zB Z))) (F0 m 20 ls []) := by
    intro hJ H locs ls V I A hl gd_20_83
    refine lv_iconst (v := (-1)) hx hb dX12_index_20 (by decide) ?_
    have k_m1 : (-1 : Int32).toInt = -1 := rfl
    exact pe_i M V rfl rfl hr hlk rfl ⟨rfl, I, A.wk (by decide)⟩ ⟨Nat.le_refl _, Nat.le_refl _⟩ dX12_index_21
  refine lv_aload_n hx hb dX12_index_0 rfl (lv_at hl 0 rfl) ?_
  refine lv_iconst (v := 0) hx hb dX12_index_1 (by decide) ?_
  refine pp_i M V 12 0 (sm_this S) pC12 fk12_0 rfl lkF_X12_175 ⟨rfl, rfl⟩ dX12_index_2 (fun H locs V => ?_)
  have A := A.wk (l3 := [(137, 0)]) (by decide)
  have A := A.up (o := 137) (k := 0) (v := (0 : Int32)) (by decide)
  have I := I.up (k := 0) (v := (0 : Int32)) (sm_this S) (pi_full _)
  refine lv_iload_n hx hb dX12_index_5 rfl (lv_at hl 1 rfl) ?_
  refine lv_if_lt (tgt := 20) hx hb dX12_index_6 (by decide) (fun c_6 => ?_) (fun c_6 => ?_)
  · skip
    have k_0 : (0 : Int32).toInt = 0 := rfl
    have c_6 := pi_lt.mp c_6
    exact J_20 _ _ _ _ V I (A.wk (by decide)) (lv_sub hl [0, 1] rfl) (show (h 137 83).toInt + (0) ≤ (h 137 83).toInt ∧ (h 137 83).toInt ≤ (h 137 83).toInt + (0) by omega) 
  · skip
    have k_0 : (0 : Int32).toInt = 0 := rfl
    have c_6 := pi_lt' c_6
    refine lv_iload_n hx hb dX12_index_9 rfl (lv_at hl 1 rfl) ?_
    refine lv_bipush (v := 6) hx hb dX12_index_10 (by decide) ?_
    refine lv_aload_n hx hb dX12_index_12 rfl (lv_at hl 0 rfl) ?_
    refine pg_i M V 12 83 (sm_this S) pC12 fk12_83 lkF_X12_307 dX12_index_13 ?_
    refine lv_topi (fun v1 ev1 => ?_)
    have tv1 : 0 ≤ v1.toInt ∧ v1.toInt ≤ 7000 := by rw [ev1]; exact I.get (sm_this S) 83
    have uv1 : v1.toInt = (h 137 83).toInt := congrArg Int32.toInt ev1
    refine lv_imul hx hb dX12_index_16 ?_
    refine lv_topi (fun v2 ev2 => ?_)
    refine lv_icmp_lt (tgt := 22) hx hb dX12_index_17 (by decide) (fun c_17 => ?_) (fun c_17 => ?_)
    · skip
      have k_6 : (6 : Int32).toInt = 6 := rfl
      have tv2 : v2.toInt = 6 * v1.toInt := by rw [ev2]; have z9 := pi_mul (x := (6 : Int32)) (y := v1); rw [k_6] at z9; exact z9 (by omega)
      have c_17 := pi_lt.mp c_17
      refine lv_aload_n hx hb dX12_index_22 rfl (lv_at hl 0 rfl) ?_
      refine lv_iload_n hx hb dX12_index_23 rfl (lv_at hl 1 rfl) ?_
      refine lv_bipush (v := 6) hx hb dX12_index_24 (by decide) ?_
      refine lv_idiv hx hb dX12_index_26 (by decide) ?_
      refine lv_topi (fun v3 ev3 => ?_)
      have tv3 : v3.toInt = k.toInt / 6 := by rw [ev3]; have z9 := pi_div (x := k) (y := (6 : Int32)); rw [k_6] at z9; exact z9 (by omega) (by omega)
      refine pk_v (pr_V M V (m_X12_walk l S I v3 (show v3.toInt < (h 137 83).toInt by omega) (show (h 137 83).toInt ≤ 7000 by omega)) km_X12_walk (sm_this S) pC12 lkM_X12_409 rfl hl.1 rfl (Nat.le_of_ble_eq_true rfl) ⟨Nat.le_of_ble_eq_true rfl, Nat.le_of_ble_eq_true rfl⟩ ⟨Nat.le_of_ble_eq_true rfl, Nat.le_of_ble_eq_true rfl⟩ dX12_index_27) V (fun Zr4 hr4 H locs pr4 _ _ V => ?_)
      obtain ⟨rfl, I, pA_r4⟩ := pr4
      have A := A.wk (l3 := [(137, 0), (137, 84), (137, 85), (137, 86), (137, 87)]) (by decide)
      have A := A.tr pA_r4 (by decide)
      have w_r4_83 : (hr4 137 83).toInt = (h 137 83).toInt := congrArg Int32.toInt (pA_r4.get 137 83 (by decide))
      refine lv_iload_n hx hb dX12_index_30 rfl (lv_at hl 1 rfl) ?_
      refine lv_bipush (v := 6) hx hb dX12_index_31 (by decide) ?_
      refine lv_irem hx hb dX12_index_33 (by decide) ?_
      refine lv_topi (fun v5 ev5 => ?_)
      refine lv_istore_n (lv' := [(2, .int v5), (0, .ref (zB Z + 137)), (1, .int k)]) hx hb dX12_index_34 rfl hl (by decide) rfl (fun ls hl => ?_)
      refine lv_iconst (v := 4) hx hb dX12_index_35 (by decide) ?_
      refine lv_iload_n hx hb dX12_index_36 rfl (lv_at hl 2 rfl) ?_
      refine lv_bipush (v := 6) hx hb dX12_index_37 (by decide) ?_
      refine lv_idiv hx hb dX12_index_39 (by decide) ?_
      refine lv_topi (fun v6 ev6 => ?_)
      refine lv_imul hx hb dX12_index_40 ?_
      refine lv_topi (fun v7 ev7 => ?_)
      refine lv_aload_n hx hb dX12_index_41 rfl (lv_at hl 1 rfl) ?_
      refine pg_i M V 12 84 (sm_this S) pC12 fk12_84 lkF_X12_397 dX12_index_42 ?_
      refine lv_topi (fun v8 ev8 => ?_)
      refine lv_isub hx hb dX12_index_45 ?_
      refine lv_topi (fun v9 ev9 => ?_)
      refine lv_aload_n hx hb dX12_index_46 rfl (lv_at hl 1 rfl) ?_
      refine pg_i M V 12 86 (sm_this S) pC12 fk12_86 lkF_X12_403 dX12_index_47 ?_
      refine lv_topi (fun v10 ev10 => ?_)
      refine lv_isub hx hb dX12_index_50 ?_
      refine lv_topi (fun v11 ev11 => ?_)
      refine lv_iload_n hx hb dX12_index_51 rfl (lv_at hl 0 rfl) ?_
      refine lv_iconst (v := 3) hx hb dX12_index_52 (by decide) ?_
      refine lv_icmp_ge (tgt := 60) hx hb dX12_index_53 (by decide) (fun c_53 => ?_) (fun c_53 => ?_)
      · skip
        have k_3 : (3 : Int32).toInt = 3 := rfl
        have c_53 := pi_le.mp c_53
        refine lv_iload_n hx hb dX12_index_60 rfl (lv_at hl 0 rfl) ?_
        refine lv_iconst (v := 3) hx hb dX12_index_61 (by decide) ?_
        refine lv_icmp_ne (tgt := 69) hx hb dX12_index_62 (by decide) (fun c_62 => ?_) (fun c_62 => ?_)
        · skip
          have c_62 := pi_ne c_62
          refine lv_iload_n hx hb dX12_index_69 rfl (lv_at hl 0 rfl) ?_
          refine lv_iconst (v := 2) hx hb dX12_index_70 (by decide) ?_
          refine lv_isub hx hb dX12_index_71 ?_
          refine lv_topi (fun v12 ev12 => ?_)
          refine lv_iadd hx hb dX12_index_72 ?_
          refine lv_topi (fun v13 ev13 => ?_)
          exact pe_i M V rfl rfl hr hlk rfl ⟨rfl, I, A.wk (by decide)⟩ ⟨Nat.le_refl _, Nat.le_refl _⟩ dX12_index_73
        · skip
          have c_62 := pi_eq.mp c_62
          refine lv_iconst (v := 0) hx hb dX12_index_65 (by decide) ?_
          refine lv_goto (tgt := 72) hx hb dX12_index_66 (by decide) ?_
          refine lv_iadd hx hb dX12_index_72 ?_
          refine lv_topi (fun v14 ev14 => ?_)
          exact pe_i M V rfl rfl hr hlk rfl ⟨rfl, I, A.wk (by decide)⟩ ⟨Nat.le_refl _, Nat.le_refl _⟩ dX12_index_73
      · skip
        have k_3 : (3 : Int32).toInt = 3 := rfl
        have c_53 := pi_le' c_53
        refine lv_iload_n hx hb dX12_index_56 rfl (lv_at hl 0 rfl) ?_
        refine lv_goto (tgt := 72) hx hb dX12_index_57 (by decide) ?_
        refine lv_iadd hx hb dX12_index_72 ?_
        refine lv_topi (fun v15 ev15 => ?_)
        exact pe_i M V rfl rfl hr hlk rfl ⟨rfl, I, A.wk (by decide)⟩ ⟨Nat.le_refl _, Nat.le_refl _⟩ dX12_index_73
    · skip
      have k_6 : (6 : Int32).toInt = 6 := rfl
      have tv2 : v2.toInt = 6 * v1.toInt := by rw [ev2]; have z9 := pi_mul (x := (6 : Int32)) (y := v1); rw [k_6] at z9; exact z9 (by omega)
      have c_17 := pi_lt' c_17
      exact J_20 _ _ _ _ V I (A.wk (by decide)) (lv_sub hl [0, 1] rfl) (show (h 137 83).toInt + (0) ≤ (h 137 83).toInt ∧ (h 137 83).toInt ≤ (h 137 83).toInt + (0) by omega) 
