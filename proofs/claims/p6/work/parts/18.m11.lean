theorem dX12_copyList_0 : decode cX12_copyList 0 = .ok (.iconst 0, 1) := by decide +kernel
theorem dX12_copyList_1 : decode cX12_copyList 1 = .ok (.istore_n 2, 1) := by decide +kernel
theorem dX12_copyList_2 : decode cX12_copyList 2 = .ok (.iload_n 2, 1) := by decide +kernel
theorem dX12_copyList_3 : decode cX12_copyList 3 = .ok (.aload_n 0, 1) := by decide +kernel
theorem dX12_copyList_4 : decode cX12_copyList 4 = .ok (.getfield 288, 3) := by decide +kernel
theorem dX12_copyList_7 : decode cX12_copyList 7 = .ok (.if_icmp .ge 74, 3) := by decide +kernel
theorem dX12_copyList_10 : decode cX12_copyList 10 = .ok (.aload_n 0, 1) := by decide +kernel
theorem dX12_copyList_11 : decode cX12_copyList 11 = .ok (.getfield 169, 3) := by decide +kernel
theorem dX12_copyList_14 : decode cX12_copyList 14 = .ok (.bipush 11, 2) := by decide +kernel
theorem dX12_copyList_16 : decode cX12_copyList 16 = .ok (.iload_n 2, 1) := by decide +kernel
theorem dX12_copyList_17 : decode cX12_copyList 17 = .ok (.imul, 1) := by decide +kernel
theorem dX12_copyList_18 : decode cX12_copyList 18 = .ok (.iaload, 1) := by decide +kernel
theorem dX12_copyList_19 : decode cX12_copyList 19 = .ok (.iload_n 1, 1) := by decide +kernel
theorem dX12_copyList_20 : decode cX12_copyList 20 = .ok (.if_icmp .eq 6, 3) := by decide +kernel
theorem dX12_copyList_23 : decode cX12_copyList 23 = .ok (.goto 52, 3) := by decide +kernel
theorem dX12_copyList_26 : decode cX12_copyList 26 = .ok (.iconst 0, 1) := by decide +kernel
theorem dX12_copyList_27 : decode cX12_copyList 27 = .ok (.istore_n 3, 1) := by decide +kernel
theorem dX12_copyList_28 : decode cX12_copyList 28 = .ok (.iload_n 3, 1) := by decide +kernel
theorem dX12_copyList_29 : decode cX12_copyList 29 = .ok (.bipush 11, 2) := by decide +kernel
theorem dX12_copyList_31 : decode cX12_copyList 31 = .ok (.if_icmp .ge 34, 3) := by decide +kernel
theorem dX12_copyList_34 : decode cX12_copyList 34 = .ok (.aload_n 0, 1) := by decide +kernel
theorem dX12_copyList_35 : decode cX12_copyList 35 = .ok (.getfield 172, 3) := by decide +kernel
theorem dX12_copyList_38 : decode cX12_copyList 38 = .ok (.bipush 11, 2) := by decide +kernel
theorem dX12_copyList_40 : decode cX12_copyList 40 = .ok (.aload_n 0, 1) := by decide +kernel
theorem dX12_copyList_41 : decode cX12_copyList 41 = .ok (.getfield 307, 3) := by decide +kernel
theorem dX12_copyList_44 : decode cX12_copyList 44 = .ok (.imul, 1) := by decide +kernel
theorem dX12_copyList_45 : decode cX12_copyList 45 = .ok (.iload_n 3, 1) := by decide +kernel
theorem dX12_copyList_46 : decode cX12_copyList 46 = .ok (.iadd, 1) := by decide +kernel
theorem dX12_copyList_47 : decode cX12_copyList 47 = .ok (.aload_n 0, 1) := by decide +kernel
theorem dX12_copyList_48 : decode cX12_copyList 48 = .ok (.getfield 169, 3) := by decide +kernel
theorem dX12_copyList_51 : decode cX12_copyList 51 = .ok (.bipush 11, 2) := by decide +kernel
theorem dX12_copyList_53 : decode cX12_copyList 53 = .ok (.iload_n 2, 1) := by decide +kernel
theorem dX12_copyList_54 : decode cX12_copyList 54 = .ok (.imul, 1) := by decide +kernel
theorem dX12_copyList_55 : decode cX12_copyList 55 = .ok (.iload_n 3, 1) := by decide +kernel
theorem dX12_copyList_56 : decode cX12_copyList 56 = .ok (.iadd, 1) := by decide +kernel
theorem dX12_copyList_57 : decode cX12_copyList 57 = .ok (.iaload, 1) := by decide +kernel
theorem dX12_copyList_58 : decode cX12_copyList 58 = .ok (.iastore, 1) := by decide +kernel
theorem dX12_copyList_59 : decode cX12_copyList 59 = .ok (.iinc 3 1, 3) := by decide +kernel
theorem dX12_copyList_62 : decode cX12_copyList 62 = .ok (.goto (-34), 3) := by decide +kernel
theorem dX12_copyList_65 : decode cX12_copyList 65 = .ok (.aload_n 0, 1) := by decide +kernel
theorem dX12_copyList_66 : decode cX12_copyList 66 = .ok (.dup, 1) := by decide +kernel
theorem dX12_copyList_67 : decode cX12_copyList 67 = .ok (.getfield 307, 3) := by decide +kernel
theorem dX12_copyList_70 : decode cX12_copyList 70 = .ok (.iconst 1, 1) := by decide +kernel
theorem dX12_copyList_71 : decode cX12_copyList 71 = .ok (.iadd, 1) := by decide +kernel
theorem dX12_copyList_72 : decode cX12_copyList 72 = .ok (.putfield 307, 3) := by decide +kernel
theorem dX12_copyList_75 : decode cX12_copyList 75 = .ok (.iinc 2 1, 3) := by decide +kernel
theorem dX12_copyList_78 : decode cX12_copyList 78 = .ok (.goto (-76), 3) := by decide +kernel
theorem dX12_copyList_81 : decode cX12_copyList 81 = .ok (.return_, 1) := by decide +kernel
set_option maxHeartbeats 4000000 in
set_option maxRecDepth 100000 in
theorem m_X12_copyList (l : Launch) {Z : pZ} (S : pSh Z) {h : pH} (I : Iv Z h) (w : Int32) (hd : (h 137 83).toInt + cntW (h 186) w (h 137 82).toNatClampNeg ≤ 7000) : pMet l yX12_copyList cX12_copyList 4 none 0 0 0 0 Z h [.ref (zB Z + 137), .int w] (pQv Z (fun Z1 h1 => Z = Z1 ∧ Iv Z h1 ∧ agr [(137, 83), (187, 1000)] h h1 ∧ ((h1 137 83).toInt = (h 137 83).toInt + cntW (h 186) w (h 137 82).toNatClampNeg))) := by
  refine pOfW (lv := [(0, .ref (zB Z + 137)), (1, .int w)]) (by decide) (Nat.le_of_ble_eq_true rfl) rfl ?_
  intro p e s m below meth c ls M hr hlk hnm V hl
  have hx := M.1.1
  have hb := M.1.2.1
  have A : agr [] h h := agr.rf
  have i_83 : 0 ≤ (h 137 83).toInt ∧ (h 137 83).toInt ≤ 7000 := I.get (sm_this S) 83
  have i_82 : 0 ≤ (h 137 82).toInt ∧ (h 137 82).toInt ≤ 7000 := I.get (sm_this S) 82
  have J_2 : ∀ (n9 : Nat) (x2_2 : Int32) (hJ : pH) (H : Heap) (locs : List Loc) (ls : Array Slot), pV Z hJ s.heap H locs → Iv Z hJ → agr [(137, 83), (187, 1000)] h hJ → lv_has ls 4 [(0, .ref (zB Z + 137)), (1, .int w), (2, .int x2_2)] → (0 ≤ x2_2.toInt ∧ x2_2.toInt ≤ 7000) → ((h 137 82).toInt + (0) ≤ (hJ 137 82).toInt ∧ (hJ 137 82).toInt ≤ (h 137 82).toInt + (0)) → ((hJ 137 83).toInt = (h 137 83).toInt + cntW (h 186) w x2_2.toNatClampNeg) → (x2_2.toInt ≤ (h 137 82).toInt) → (7000 - x2_2.toInt).toNat < n9 → W p l e (pRm 0 0 0 0) s m ([.ref (zB Z + 137), .int w] : List Value).toArray below meth c H locs 0 0 (MQ below (pQv Z (fun Z1 h1 => Z = Z1 ∧ Iv Z h1 ∧ agr [(137, 83), (187, 1000)] h h1 ∧ ((h1 137 83).toInt = (h 137 83).toInt + cntW (h 186) w (h 137 82).toNatClampNeg))) ([.ref (zB Z + 137), .int w] : List Value).toArray s 0 0 (pA (zB Z))) (F0 m 2 ls []) := by
    intro n9
    induction n9 with
    | zero => intro x2_2 hJ H locs ls V I A hl g_2_2 gd_2_82 gc gl hm9; exact absurd hm9 (Nat.not_lt_zero _)
    | succ n9 ih_2 =>
      intro x2_2 hJ H locs ls V I A hl g_2_2 gd_2_82 gc gl hm9
      have J_28 : ∀ (n9 : Nat) (x28_3 : Int32) (hJ : pH) (H : Heap) (locs : List Loc) (ls : Array Slot), pV Z hJ s.heap H locs → Iv Z hJ → agr [(137, 83), (187, 1000)] h hJ → lv_has ls 4 [(0, .ref (zB Z + 137)), (1, .int w), (2, .int x2_2), (3, .int x28_3)] → (0 ≤ x2_2.toInt ∧ x2_2.toInt ≤ 6999) → (0 ≤ x28_3.toInt ∧ x28_3.toInt ≤ 11) → ((h 137 82).toInt + (0) ≤ (hJ 137 82).toInt ∧ (hJ 137 82).toInt ≤ (h 137 82).toInt + (0)) → ((hJ 137 83).toInt = (h 137 83).toInt + cntW (h 186) w x2_2.toNatClampNeg) → (h 186 (11 * x2_2.toNatClampNeg) = w) → ((hJ 137 83).toInt ≤ 6999) → (x2_2.toInt < (h 137 82).toInt) → (11 - x28_3.toInt).toNat < n9 → W p l e (pRm 0 0 0 0) s m ([.ref (zB Z + 137), .int w] : List Value).toArray below meth c H locs 0 0 (MQ below (pQv Z (fun Z1 h1 => Z = Z1 ∧ Iv Z h1 ∧ agr [(137, 83), (187, 1000)] h h1 ∧ ((h1 137 83).toInt = (h 137 83).toInt + cntW (h 186) w (h 137 82).toNatClampNeg))) ([.ref (zB Z + 137), .int w] : List Value).toArray s 0 0 (pA (zB Z))) (F0 m 28 ls []) := by
        intro n9
        induction n9 with
        | zero => intro x28_3 hJ H locs ls V I A hl g_28_2 g_28_3 gd_28_82 e28 e28b e28c e28d hm9; exact absurd hm9 (Nat.not_lt_zero _)
        | succ n9 ih_28 =>
          intro x28_3 hJ H locs ls V I A hl g_28_2 g_28_3 gd_28_82 e28 e28b e28c e28d hm9
          refine lv_iload_n hx hb dX12_copyList_28 rfl (lv_at hl 3 rfl) ?_
          refine lv_bipush (v := 11) hx hb dX12_copyList_29 (by decide) ?_
          refine lv_icmp_ge (tgt := 65) hx hb dX12_copyList_31 (by decide) (fun c_31 => ?_) (fun c_31 => ?_)
          · skip
            have k_11 : (11 : Int32).toInt = 11 := rfl
            have c_31 := pi_le.mp c_31
            refine lv_aload_n hx hb dX12_copyList_65 rfl (lv_at hl 0 rfl) ?_
            refine lv_dup hx hb dX12_copyList_66 rfl ?_
            refine pg_i M V 12 83 (sm_this S) pC12 fk12_83 lkF_X12_307 dX12_copyList_67 ?_
            refine lv_topi (fun v1 ev1 => ?_)
            have tv1 : 0 ≤ v1.toInt ∧ v1.toInt ≤ 7000 := by rw [ev1]; exact I.get (sm_this S) 83
            have uv1 : v1.toInt = (hJ 137 83).toInt := congrArg Int32.toInt ev1
            refine lv_iconst (v := 1) hx hb dX12_copyList_70 (by decide) ?_
            refine lv_iadd hx hb dX12_copyList_71 ?_
            refine lv_topi (fun v2 ev2 => ?_)
            refine pp_i M V 12 83 (sm_this S) pC12 fk12_83 rfl lkF_X12_307 ⟨rfl, rfl⟩ dX12_copyList_72 (fun H locs V => ?_)
            have A := A.up (o := 137) (k := 83) (v := v2) (by decide)
            have k_1 : (1 : Int32).toInt = 1 := rfl
            have tv2 : v2.toInt = v1.toInt + 1 := by rw [ev2]; have z9 := pi_add (x := v1) (y := (1 : Int32)); rw [k_1] at z9; exact z9 (by omega)
            have I := I.up (k := 83) (v := v2) (sm_this S) (show (0 : Int) ≤ v2.toInt ∧ v2.toInt ≤ (7000 : Int) by omega)
            obtain ⟨v3, ev3⟩ : ∃ y : Int32, y = x2_2 + 1 := ⟨_, rfl⟩
            refine lv_iinc (v := v3) (lv' := [(2, .int v3), (0, .ref (zB Z + 137)), (1, .int w), (3, .int x28_3)]) hx hb dX12_copyList_75 hl (k := 2) rfl (by rw [ev3]; rfl) (by decide) rfl (fun ls hl => ?_)
            refine lv_goto (tgt := 2) hx hb dX12_copyList_78 (by decide) ?_
            have tv3 : v3.toInt = x2_2.toInt + 1 := by rw [ev3]; have z9 := pi_add (x := x2_2) (y := (1 : Int32)); rw [k_1] at z9; exact z9 (by omega)
            exact ih_2 v3 _ _ _ _ V I (A.wk (by decide)) (lv_sub hl [1, 2, 0] rfl) (by omega) (show (h 137 82).toInt + (0) ≤ (hJ 137 82).toInt ∧ (hJ 137 82).toInt ≤ (h 137 82).toInt + (0) by omega) (show v2.toInt = (h 137 83).toInt + cntW (h 186) w v3.toNatClampNeg by rw [cntW_y (q := x2_2) (by omega) (by omega) e28b]; omega) (by omega) (by omega) 
          · skip
            have k_11 : (11 : Int32).toInt = 11 := rfl
            have c_31 := pi_le' c_31
            refine lv_aload_n hx hb dX12_copyList_34 rfl (lv_at hl 0 rfl) ?_
            refine pg_r M V 12 81 (sm_this S) pC12 fk12_81 (sm_drawing S).2.2 lkF_X12_172 dX12_copyList_35 ?_
            refine lv_bipush (v := 11) hx hb dX12_copyList_38 (by decide) ?_
            refine lv_aload_n hx hb dX12_copyList_40 rfl (lv_at hl 0 rfl) ?_
            refine pg_i M V 12 83 (sm_this S) pC12 fk12_83 lkF_X12_307 dX12_copyList_41 ?_
            refine lv_topi (fun v4 ev4 => ?_)
            have tv4 : 0 ≤ v4.toInt ∧ v4.toInt ≤ 7000 := by rw [ev4]; exact I.get (sm_this S) 83
            have uv4 : v4.toInt = (hJ 137 83).toInt := congrArg Int32.toInt ev4
            refine lv_imul hx hb dX12_copyList_44 ?_
            refine lv_topi (fun v5 ev5 => ?_)
            refine lv_iload_n hx hb dX12_copyList_45 rfl (lv_at hl 3 rfl) ?_
            refine lv_iadd hx hb dX12_copyList_46 ?_
            refine lv_topi (fun v6 ev6 => ?_)
            refine lv_aload_n hx hb dX12_copyList_47 rfl (lv_at hl 0 rfl) ?_
            refine pg_r M V 12 80 (sm_this S) pC12 fk12_80 (sm_quads S).2.2 lkF_X12_169 dX12_copyList_48 ?_
            refine lv_bipush (v := 11) hx hb dX12_copyList_51 (by decide) ?_
            refine lv_iload_n hx hb dX12_copyList_53 rfl (lv_at hl 2 rfl) ?_
            refine lv_imul hx hb dX12_copyList_54 ?_
            refine lv_topi (fun v7 ev7 => ?_)
            refine lv_iload_n hx hb dX12_copyList_55 rfl (lv_at hl 3 rfl) ?_
            refine lv_iadd hx hb dX12_copyList_56 ?_
            refine lv_topi (fun v8 ev8 => ?_)
            have tv7 : v7.toInt = 11 * x2_2.toInt := by rw [ev7]; have z9 := pi_mul (x := (11 : Int32)) (y := x2_2); rw [k_11] at z9; exact z9 (by omega)
            have tv8 : v8.toInt = v7.toInt + x28_3.toInt := by rw [ev8]; exact pi_add (by omega)
            refine pa_i M V (sm_quads S).1 (by rw [(sm_quads S).2.1]; exact pi_in (by omega)) dX12_copyList_57 ?_
            refine lv_topi (fun v9 ev9 => ?_)
            have tv5 : v5.toInt = 11 * v4.toInt := by rw [ev5]; have z9 := pi_mul (x := (11 : Int32)) (y := v4); rw [k_11] at z9; exact z9 (by omega)
            have tv6 : v6.toInt = v5.toInt + x28_3.toInt := by rw [ev6]; exact pi_add (by omega)
            refine ps_i M V (sm_drawing S).1 (by rw [(sm_drawing S).2.1]; exact pi_in (by omega)) dX12_copyList_58 (fun H locs V => ?_)
            have A := A.upA (o := 187) (k := v6.toNatClampNeg) (v := v9) (by decide)
            have I := I.up (k := v6.toNatClampNeg) (v := v9) (sm_drawing S).1 (pi_full _)
            obtain ⟨v10, ev10⟩ : ∃ y : Int32, y = x28_3 + 1 := ⟨_, rfl⟩
            refine lv_iinc (v := v10) (lv' := [(3, .int v10), (0, .ref (zB Z + 137)), (1, .int w), (2, .int x2_2)]) hx hb dX12_copyList_59 hl (k := 3) rfl (by rw [ev10]; rfl) (by decide) rfl (fun ls hl => ?_)
            refine lv_goto (tgt := 28) hx hb dX12_copyList_62 (by decide) ?_
            have k_1 : (1 : Int32).toInt = 1 := rfl
            have tv10 : v10.toInt = x28_3.toInt + 1 := by rw [ev10]; have z9 := pi_add (x := x28_3) (y := (1 : Int32)); rw [k_1] at z9; exact z9 (by omega)
            exact ih_28 v10 _ _ _ _ V I (A.wk (by decide)) (lv_sub hl [1, 2, 3, 0] rfl) (by omega) (by omega) (show (h 137 82).toInt + (0) ≤ (hJ 137 82).toInt ∧ (hJ 137 82).toInt ≤ (h 137 82).toInt + (0) by omega) (show (hJ 137 83).toInt = _ by omega) e28b (show (hJ 137 83).toInt ≤ 6999 by omega) (by omega) (by omega) 
      refine lv_iload_n hx hb dX12_copyList_2 rfl (lv_at hl 2 rfl) ?_
      refine lv_aload_n hx hb dX12_copyList_3 rfl (lv_at hl 0 rfl) ?_
      refine pg_i M V 12 82 (sm_this S) pC12 fk12_82 lkF_X12_288 dX12_copyList_4 ?_
      refine lv_topi (fun v11 ev11 => ?_)
      have tv11 : 0 ≤ v11.toInt ∧ v11.toInt ≤ 7000 := by rw [ev11]; exact I.get (sm_this S) 82
      have uv11 : v11.toInt = (hJ 137 82).toInt := congrArg Int32.toInt ev11
      refine lv_icmp_ge (tgt := 81) hx hb dX12_copyList_7 (by decide) (fun c_7 => ?_) (fun c_7 => ?_)
      · skip
        have c_7 := pi_le.mp c_7
        exact pe_v M V rfl rfl hr hlk ⟨rfl, I, A.wk (by decide), (show (hJ 137 83).toInt = (h 137 83).toInt + cntW (h 186) w (h 137 82).toNatClampNeg by rw [show (h 137 82).toNatClampNeg = x2_2.toNatClampNeg from by have c1 := pi_cl (x := h 137 82) (by omega); have c2 := pi_cl (x := x2_2) (by omega); omega]; omega)⟩ ⟨Nat.le_refl _, Nat.le_refl _⟩ dX12_copyList_81
      · skip
        have c_7 := pi_le' c_7
        refine lv_aload_n hx hb dX12_copyList_10 rfl (lv_at hl 0 rfl) ?_
        refine pg_r M V 12 80 (sm_this S) pC12 fk12_80 (sm_quads S).2.2 lkF_X12_169 dX12_copyList_11 ?_
        refine lv_bipush (v := 11) hx hb dX12_copyList_14 (by decide) ?_
        refine lv_iload_n hx hb dX12_copyList_16 rfl (lv_at hl 2 rfl) ?_
        refine lv_imul hx hb dX12_copyList_17 ?_
        refine lv_topi (fun v12 ev12 => ?_)
        have k_11 : (11 : Int32).toInt = 11 := rfl
        have tv12 : v12.toInt = 11 * x2_2.toInt := by rw [ev12]; have z9 := pi_mul (x := (11 : Int32)) (y := x2_2); rw [k_11] at z9; exact z9 (by omega)
        refine pa_i M V (sm_quads S).1 (by rw [(sm_quads S).2.1]; exact pi_in (by omega)) dX12_copyList_18 ?_
        refine lv_topi (fun v13 ev13 => ?_)
        refine lv_iload_n hx hb dX12_copyList_19 rfl (lv_at hl 1 rfl) ?_
        refine lv_icmp_eq (tgt := 26) hx hb dX12_copyList_20 (by decide) (fun c_20 => ?_) (fun c_20 => ?_)
        · skip
          have c_20 := pi_eq.mp c_20
          refine lv_iconst (v := 0) hx hb dX12_copyList_26 (by decide) ?_
          refine lv_istore_n (lv' := [(3, .int (0 : Int32)), (0, .ref (zB Z + 137)), (1, .int w), (2, .int x2_2)]) hx hb dX12_copyList_27 rfl hl (by decide) rfl (fun ls hl => ?_)
          have k_0 : (0 : Int32).toInt = 0 := rfl
          exact J_28 _ (0 : Int32) _ _ _ _ V I (A.wk (by decide)) (lv_sub hl [1, 2, 3, 0] rfl) (by omega) (by omega) (show (h 137 82).toInt + (0) ≤ (hJ 137 82).toInt ∧ (hJ 137 82).toInt ≤ (h 137 82).toInt + (0) by omega) (show (hJ 137 83).toInt = _ by omega) (by rw [← congrFun (A.row 186 (by decide)) _, ← clamp_m (u := v12) (by omega) (by omega), ← ev13]; exact pi_eq.mpr c_20) (show (hJ 137 83).toInt ≤ 6999 by have z9 := cntW_lt (qd := h 186) (w := w) (q := x2_2) (n := h 137 82) (by omega) (by omega) (by rw [← congrFun (A.row 186 (by decide)) _, ← clamp_m (u := v12) (by omega) (by omega), ← ev13]; exact pi_eq.mpr c_20); omega) (by omega) (Nat.lt_succ_self _) 
        · skip
          have c_20 := pi_ne c_20
          refine lv_goto (tgt := 75) hx hb dX12_copyList_23 (by decide) ?_
          obtain ⟨v14, ev14⟩ : ∃ y : Int32, y = x2_2 + 1 := ⟨_, rfl⟩
          refine lv_iinc (v := v14) (lv' := [(2, .int v14), (0, .ref (zB Z + 137)), (1, .int w)]) hx hb dX12_copyList_75 hl (k := 2) rfl (by rw [ev14]; rfl) (by decide) rfl (fun ls hl => ?_)
          refine lv_goto (tgt := 2) hx hb dX12_copyList_78 (by decide) ?_
          have k_1 : (1 : Int32).toInt = 1 := rfl
          have tv14 : v14.toInt = x2_2.toInt + 1 := by rw [ev14]; have z9 := pi_add (x := x2_2) (y := (1 : Int32)); rw [k_1] at z9; exact z9 (by omega)
          exact ih_2 v14 _ _ _ _ V I (A.wk (by decide)) (lv_sub hl [1, 2, 0] rfl) (by omega) (show (h 137 82).toInt + (0) ≤ (hJ 137 82).toInt ∧ (hJ 137 82).toInt ≤ (h 137 82).toInt + (0) by omega) (show (hJ 137 83).toInt = (h 137 83).toInt + cntW (h 186) w v14.toNatClampNeg by rw [cntW_n (q := x2_2) (by omega) (by omega) (by rw [← congrFun (A.row 186 (by decide)) _, ← clamp_m (u := v12) (by omega) (by omega), ← ev13]; exact fun z9 => c_20 (pi_eq.mp z9))]; omega) (by omega) (by omega) 
  refine lv_iconst (v := 0) hx hb dX12_copyList_0 (by decide) ?_
  refine lv_istore_n (lv' := [(2, .int (0 : Int32)), (0, .ref (zB Z + 137)), (1, .int w)]) hx hb dX12_copyList_1 rfl hl (by decide) rfl (fun ls hl => ?_)
  have k_0 : (0 : Int32).toInt = 0 := rfl
  exact J_2 _ (0 : Int32) _ _ _ _ V I (A.wk (by decide)) (lv_sub hl [1, 2, 0] rfl) (by omega) (show (h 137 82).toInt + (0) ≤ (h 137 82).toInt ∧ (h 137 82).toInt ≤ (h 137 82).toInt + (0) by omega) (show (h 137 83).toInt = (h 137 83).toInt + cntW (h 186) w (0 : Int32).toNatClampNeg by show _ = _ + (0 : Int); omega) (by omega) (Nat.lt_succ_self _) 
