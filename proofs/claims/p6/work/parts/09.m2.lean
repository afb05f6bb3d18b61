theorem dX12_find_0 : decode cX12_find 0 = .ok (.iconst 0, 1) := by decide +kernel
theorem dX12_find_1 : decode cX12_find 1 = .ok (.istore_n 2, 1) := by decide +kernel
theorem dX12_find_2 : decode cX12_find 2 = .ok (.iload_n 2, 1) := by decide +kernel
theorem dX12_find_3 : decode cX12_find 3 = .ok (.aload_n 0, 1) := by decide +kernel
theorem dX12_find_4 : decode cX12_find 4 = .ok (.getfield 362, 3) := by decide +kernel
theorem dX12_find_7 : decode cX12_find 7 = .ok (.if_icmp .ge 21, 3) := by decide +kernel
theorem dX12_find_10 : decode cX12_find 10 = .ok (.aload_n 0, 1) := by decide +kernel
theorem dX12_find_11 : decode cX12_find 11 = .ok (.getfield 153, 3) := by decide +kernel
theorem dX12_find_14 : decode cX12_find 14 = .ok (.iload_n 2, 1) := by decide +kernel
theorem dX12_find_15 : decode cX12_find 15 = .ok (.iaload, 1) := by decide +kernel
theorem dX12_find_16 : decode cX12_find 16 = .ok (.iload_n 1, 1) := by decide +kernel
theorem dX12_find_17 : decode cX12_find 17 = .ok (.if_icmp .ne 5, 3) := by decide +kernel
theorem dX12_find_20 : decode cX12_find 20 = .ok (.iload_n 2, 1) := by decide +kernel
theorem dX12_find_21 : decode cX12_find 21 = .ok (.ireturn, 1) := by decide +kernel
theorem dX12_find_22 : decode cX12_find 22 = .ok (.iinc 2 1, 3) := by decide +kernel
theorem dX12_find_25 : decode cX12_find 25 = .ok (.goto (-23), 3) := by decide +kernel
theorem dX12_find_28 : decode cX12_find 28 = .ok (.iconst (-1), 1) := by decide +kernel
theorem dX12_find_29 : decode cX12_find 29 = .ok (.ireturn, 1) := by decide +kernel
set_option maxHeartbeats 4000000 in
set_option maxRecDepth 100000 in
theorem m_X12_find (l : Launch) {Z : pZ} (S : pSh Z) {h : pH} (I : Iv Z h) (id : Int32)  : pMet l yX12_find cX12_find 3 (some .int) 0 0 0 0 Z h [.ref (zB Z + 137), .int id] (pQi Z (fun r Z1 h1 => Z = Z1 ∧ Iv Z h1 ∧ agr [] h h1 ∧ (-1 ≤ r.toInt ∧ r.toInt ≤ 39) ∧ (isF h id r))) := by
  refine pOfW (lv := [(0, .ref (zB Z + 137)), (1, .int id)]) (by decide) (Nat.le_of_ble_eq_true rfl) rfl ?_
  intro p e s m below meth c ls M hr hlk hnm V hl
  have hx := M.1.1
  have hb := M.1.2.1
  have A : agr [] h h := agr.rf
  have J_2 : ∀ (n9 : Nat) (x2_2 : Int32) (hJ : pH) (H : Heap) (locs : List Loc) (ls : Array Slot), pV Z hJ s.heap H locs → Iv Z hJ → agr [] h hJ → lv_has ls 3 [(0, .ref (zB Z + 137)), (1, .int id), (2, .int x2_2)] → (0 ≤ x2_2.toInt ∧ x2_2.toInt ≤ 40) → (∀ j : Nat, (j : Int) < x2_2.toInt → ¬ hJ 181 j = id) → (40 - x2_2.toInt).toNat < n9 → W p l e (pRm 0 0 0 0) s m ([.ref (zB Z + 137), .int id] : List Value).toArray below meth c H locs 0 0 (MQ below (pQi Z (fun r Z1 h1 => Z = Z1 ∧ Iv Z h1 ∧ agr [] h h1 ∧ (-1 ≤ r.toInt ∧ r.toInt ≤ 39) ∧ (isF h id r))) ([.ref (zB Z + 137), .int id] : List Value).toArray s 0 0 (pA (zB Z))) (F0 m 2 ls []) := by
    intro n9
    induction n9 with
    | zero => intro x2_2 hJ H locs ls V I A hl g_2_2 gf hm9; exact absurd hm9 (Nat.not_lt_zero _)
    | succ n9 ih_2 =>
      intro x2_2 hJ H locs ls V I A hl g_2_2 gf hm9
      refine lv_iload_n hx hb dX12_find_2 rfl (lv_at hl 2 rfl) ?_
      refine lv_aload_n hx hb dX12_find_3 rfl (lv_at hl 0 rfl) ?_
      refine pg_i M V 12 79 (sm_this S) pC12 fk12_79 lkF_X12_362 dX12_find_4 ?_
      refine lv_topi (fun v1 ev1 => ?_)
      have tv1 : 0 ≤ v1.toInt ∧ v1.toInt ≤ 40 := by rw [ev1]; exact I.get (sm_this S) 79
      refine lv_icmp_ge (tgt := 28) hx hb dX12_find_7 (by decide) (fun c_7 => ?_) (fun c_7 => ?_)
      · skip
        have c_7 := pi_le.mp c_7
        refine lv_iconst (v := (-1)) hx hb dX12_find_28 (by decide) ?_
        have k_m1 : (-1 : Int32).toInt = -1 := rfl
        exact pe_i M V rfl rfl hr hlk rfl ⟨rfl, I, A.wk (by decide), by omega, mF_none A gf (by rw [← ev1]; omega) k_m1⟩ ⟨Nat.le_refl _, Nat.le_refl _⟩ dX12_find_29
      · skip
        have c_7 := pi_le' c_7
        refine lv_aload_n hx hb dX12_find_10 rfl (lv_at hl 0 rfl) ?_
        refine pg_r M V 12 74 (sm_this S) pC12 fk12_74 (sm_keptId S).2.2 lkF_X12_153 dX12_find_11 ?_
        refine lv_iload_n hx hb dX12_find_14 rfl (lv_at hl 2 rfl) ?_
        refine pa_i M V (sm_keptId S).1 (by rw [(sm_keptId S).2.1]; exact pi_in (by omega)) dX12_find_15 ?_
        refine lv_topi (fun v2 ev2 => ?_)
        refine lv_iload_n hx hb dX12_find_16 rfl (lv_at hl 1 rfl) ?_
        refine lv_icmp_ne (tgt := 22) hx hb dX12_find_17 (by decide) (fun c_17 => ?_) (fun c_17 => ?_)
        · skip
          have c_17 := pi_ne c_17
          obtain ⟨v3, ev3⟩ : ∃ y : Int32, y = x2_2 + 1 := ⟨_, rfl⟩
          refine lv_iinc (v := v3) (lv' := [(2, .int v3), (0, .ref (zB Z + 137)), (1, .int id)]) hx hb dX12_find_22 hl (k := 2) rfl (by rw [ev3]; rfl) (by decide) rfl (fun ls hl => ?_)
          refine lv_goto (tgt := 2) hx hb dX12_find_25 (by decide) ?_
          have k_1 : (1 : Int32).toInt = 1 := rfl
          have tv3 : v3.toInt = x2_2.toInt + 1 := by rw [ev3]; have z9 := pi_add (x := x2_2) (y := (1 : Int32)); rw [k_1] at z9; exact z9 (by omega)
          exact ih_2 v3 _ _ _ _ V I (A.wk (by decide)) (lv_sub hl [1, 2, 0] rfl) (by omega) (mF_step gf (by omega) (by omega) (by rw [← ev2]; exact fun z9 => c_17 (pi_eq.mp z9))) (by omega) 
        · skip
          have c_17 := pi_eq.mp c_17
          refine lv_iload_n hx hb dX12_find_20 rfl (lv_at hl 2 rfl) ?_
          exact pe_i M V rfl rfl hr hlk rfl ⟨rfl, I, A.wk (by decide), by omega, mF_some A gf (by omega) (by rw [← ev1]; omega) (by rw [← ev2]; exact pi_eq.mpr c_17)⟩ ⟨Nat.le_refl _, Nat.le_refl _⟩ dX12_find_21
  refine lv_iconst (v := 0) hx hb dX12_find_0 (by decide) ?_
  refine lv_istore_n (lv' := [(2, .int (0 : Int32)), (0, .ref (zB Z + 137)), (1, .int id)]) hx hb dX12_find_1 rfl hl (by decide) rfl (fun ls hl => ?_)
  have k_0 : (0 : Int32).toInt = 0 := rfl
  exact J_2 _ (0 : Int32) _ _ _ _ V I (A.wk (by decide)) (lv_sub hl [1, 2, 0] rfl) (by omega) (fun j hj => by omega) (Nat.lt_succ_self _) 
theorem dX12_wasTold_0 : decode cX12_wasTold 0 = .ok (.iconst 0, 1) := by decide +kernel
theorem dX12_wasTold_1 : decode cX12_wasTold 1 = .ok (.istore_n 2, 1) := by decide +kernel
theorem dX12_wasTold_2 : decode cX12_wasTold 2 = .ok (.iconst 0, 1) := by decide +kernel
theorem dX12_wasTold_3 : decode cX12_wasTold 3 = .ok (.istore_n 3, 1) := by decide +kernel
theorem dX12_wasTold_4 : decode cX12_wasTold 4 = .ok (.iload_n 3, 1) := by decide +kernel
theorem dX12_wasTold_5 : decode cX12_wasTold 5 = .ok (.aload_n 0, 1) := by decide +kernel
theorem dX12_wasTold_6 : decode cX12_wasTold 6 = .ok (.getfield 267, 3) := by decide +kernel
theorem dX12_wasTold_9 : decode cX12_wasTold 9 = .ok (.if_icmp .ge 29, 3) := by decide +kernel
theorem dX12_wasTold_12 : decode cX12_wasTold 12 = .ok (.iload_n 2, 1) := by decide +kernel
theorem dX12_wasTold_13 : decode cX12_wasTold 13 = .ok (.ifCond .ne 13, 3) := by decide +kernel
theorem dX12_wasTold_16 : decode cX12_wasTold 16 = .ok (.aload_n 0, 1) := by decide +kernel
theorem dX12_wasTold_17 : decode cX12_wasTold 17 = .ok (.getfield 30, 3) := by decide +kernel
theorem dX12_wasTold_20 : decode cX12_wasTold 20 = .ok (.iload_n 3, 1) := by decide +kernel
theorem dX12_wasTold_21 : decode cX12_wasTold 21 = .ok (.iaload, 1) := by decide +kernel
theorem dX12_wasTold_22 : decode cX12_wasTold 22 = .ok (.iload_n 1, 1) := by decide +kernel
theorem dX12_wasTold_23 : decode cX12_wasTold 23 = .ok (.if_icmp .ne 7, 3) := by decide +kernel
theorem dX12_wasTold_26 : decode cX12_wasTold 26 = .ok (.iconst 1, 1) := by decide +kernel
theorem dX12_wasTold_27 : decode cX12_wasTold 27 = .ok (.goto 4, 3) := by decide +kernel
theorem dX12_wasTold_30 : decode cX12_wasTold 30 = .ok (.iconst 0, 1) := by decide +kernel
theorem dX12_wasTold_31 : decode cX12_wasTold 31 = .ok (.istore_n 2, 1) := by decide +kernel
theorem dX12_wasTold_32 : decode cX12_wasTold 32 = .ok (.iinc 3 1, 3) := by decide +kernel
theorem dX12_wasTold_35 : decode cX12_wasTold 35 = .ok (.goto (-31), 3) := by decide +kernel
theorem dX12_wasTold_38 : decode cX12_wasTold 38 = .ok (.iload_n 2, 1) := by decide +kernel
theorem dX12_wasTold_39 : decode cX12_wasTold 39 = .ok (.ireturn, 1) := by decide +kernel
set_option maxHeartbeats 4000000 in
set_option maxRecDepth 100000 in
theorem m_X12_wasTold (l : Launch) {Z : pZ} (S : pSh Z) {h : pH} (I : Iv Z h) (id : Int32)  : pMet l yX12_wasTold cX12_wasTold 4 (some .boolean) 0 0 0 0 Z h [.ref (zB Z + 137), .int id] (pQi Z (fun r Z1 h1 => Z = Z1 ∧ Iv Z h1 ∧ agr [] h h1 ∧ (r.toInt = 0 ∨ r.toInt = 1))) := by
  refine pOfW (lv := [(0, .ref (zB Z + 137)), (1, .int id)]) (by decide) (Nat.le_of_ble_eq_true rfl) rfl ?_
  intro p e s m below meth c ls M hr hlk hnm V hl
  have hx := M.1.1
  have hb := M.1.2.1
  have A : agr [] h h := agr.rf
  have J_4 : ∀ (n9 : Nat) (x4_2 : Int32) (x4_3 : Int32) (hJ : pH) (H : Heap) (locs : List Loc) (ls : Array Slot), pV Z hJ s.heap H locs → Iv Z hJ → agr [] h hJ → lv_has ls 4 [(0, .ref (zB Z + 137)), (1, .int id), (2, .int x4_2), (3, .int x4_3)] → (0 ≤ x4_2.toInt ∧ x4_2.toInt ≤ 1) → (0 ≤ x4_3.toInt ∧ x4_3.toInt ≤ 600) → (600 - x4_3.toInt).toNat < n9 → W p l e (pRm 0 0 0 0) s m ([.ref (zB Z + 137), .int id] : List Value).toArray below meth c H locs 0 0 (MQ below (pQi Z (fun r Z1 h1 => Z = Z1 ∧ Iv Z h1 ∧ agr [] h h1 ∧ (r.toInt = 0 ∨ r.toInt = 1))) ([.ref (zB Z + 137), .int id] : List Value).toArray s 0 0 (pA (zB Z))) (F0 m 4 ls []) := by
    intro n9
    induction n9 with
    | zero => intro x4_2 x4_3 hJ H locs ls V I A hl g_4_2 g_4_3 hm9; exact absurd hm9 (Nat.not_lt_zero _)
    | succ n9 ih_4 =>
      intro x4_2 x4_3 hJ H locs ls V I A hl g_4_2 g_4_3 hm9
      have J_31 : ∀ (y31_0 : Int32) (hJ : pH) (H : Heap) (locs : List Loc) (ls : Array Slot), pV Z hJ s.heap H locs → Iv Z hJ → agr [] h hJ → lv_has ls 4 [(0, .ref (zB Z + 137)), (1, .int id), (2, .int x4_2), (3, .int x4_3)] → (0 ≤ x4_2.toInt ∧ x4_2.toInt ≤ 1) → (0 ≤ x4_3.toInt ∧ x4_3.toInt ≤ 599) → (0 ≤ y31_0.toInt ∧ y31_0.toInt ≤ 1) → W p l e (pRm 0 0 0 0) s m ([.ref (zB Z + 137), .int id] : List Value).toArray below meth c H locs 0 0 (MQ below (pQi Z (fun r Z1 h1 => Z = Z1 ∧ Iv Z h1 ∧ agr [] h h1 ∧ (r.toInt = 0 ∨ r.toInt = 1))) ([.ref (zB Z + 137), .int id] : List Value).toArray s 0 0 (pA (zB Z))) (F0 m 31 ls [.int y31_0]) := by
        intro y31_0 hJ H locs ls V I A hl g_31_2 g_31_3 gs_31_0
        refine lv_istore_n (lv' := [(2, .int y31_0), (0, .ref (zB Z + 137)), (1, .int id), (3, .int x4_3)]) hx hb dX12_wasTold_31 rfl hl (by decide) rfl (fun ls hl => ?_)
        obtain ⟨v1, ev1⟩ : ∃ y : Int32, y = x4_3 + 1 := ⟨_, rfl⟩
        refine lv_iinc (v := v1) (lv' := [(3, .int v1), (2, .int y31_0), (0, .ref (zB Z + 137)), (1, .int id)]) hx hb dX12_wasTold_32 hl (k := 3) rfl (by rw [ev1]; rfl) (by decide) rfl (fun ls hl => ?_)
        refine lv_goto (tgt := 4) hx hb dX12_wasTold_35 (by decide) ?_
        have k_1 : (1 : Int32).toInt = 1 := rfl
        have tv1 : v1.toInt = x4_3.toInt + 1 := by rw [ev1]; have z9 := pi_add (x := x4_3) (y := (1 : Int32)); rw [k_1] at z9; exact z9 (by omega)
        exact ih_4 y31_0 v1 _ _ _ _ V I (A.wk (by decide)) (lv_sub hl [2, 3, 1, 0] rfl) (by omega) (by omega) (by omega) 
      have J_26 : ∀ (hJ : pH) (H : Heap) (locs : List Loc) (ls : Array Slot), pV Z hJ s.heap H locs → Iv Z hJ → agr [] h hJ → lv_has ls 4 [(0, .ref (zB Z + 137)), (1, .int id), (2, .int x4_2), (3, .int x4_3)] → (0 ≤ x4_2.toInt ∧ x4_2.toInt ≤ 1) → (0 ≤ x4_3.toInt ∧ x4_3.toInt ≤ 599) → W p l e (pRm 0 0 0 0) s m ([.ref (zB Z + 137), .int id] : List Value).toArray below meth c H locs 0 0 (MQ below (pQi Z (fun r Z1 h1 => Z = Z1 ∧ Iv Z h1 ∧ agr [] h h1 ∧ (r.toInt = 0 ∨ r.toInt = 1))) ([.ref (zB Z + 137), .int id] : List Value).toArray s 0 0 (pA (zB Z))) (F0 m 26 ls []) := by
        intro hJ H locs ls V I A hl g_26_2 g_26_3
        refine lv_iconst (v := 1) hx hb dX12_wasTold_26 (by decide) ?_
        refine lv_goto (tgt := 31) hx hb dX12_wasTold_27 (by decide) ?_
        have k_1 : (1 : Int32).toInt = 1 := rfl
        exact J_31 (1 : Int32) _ _ _ _ V I (A.wk (by decide)) (lv_sub hl [0, 1, 2, 3] rfl) (by omega) (by omega) (by omega) 
      refine lv_iload_n hx hb dX12_wasTold_4 rfl (lv_at hl 3 rfl) ?_
      refine lv_aload_n hx hb dX12_wasTold_5 rfl (lv_at hl 0 rfl) ?_
      refine pg_i M V 12 25 (sm_this S) pC12 fk12_25 lkF_X12_267 dX12_wasTold_6 ?_
      refine lv_topi (fun v2 ev2 => ?_)
      have tv2 : 0 ≤ v2.toInt ∧ v2.toInt ≤ 600 := by rw [ev2]; exact I.get (sm_this S) 25
      refine lv_icmp_ge (tgt := 38) hx hb dX12_wasTold_9 (by decide) (fun c_9 => ?_) (fun c_9 => ?_)
      · skip
        have c_9 := pi_le.mp c_9
        refine lv_iload_n hx hb dX12_wasTold_38 rfl (lv_at hl 2 rfl) ?_
        exact pe_i M V rfl rfl hr hlk (pn_z (pi_z (by omega))).1 ⟨rfl, I, A.wk (by decide), by omega⟩ ⟨Nat.le_refl _, Nat.le_refl _⟩ dX12_wasTold_39
      · skip
        have c_9 := pi_le' c_9
        refine lv_iload_n hx hb dX12_wasTold_12 rfl (lv_at hl 2 rfl) ?_
        refine lv_if_ne (tgt := 26) hx hb dX12_wasTold_13 (by decide) (fun c_13 => ?_) (fun c_13 => ?_)
        · skip
          have k_0 : (0 : Int32).toInt = 0 := rfl
          have c_13 := pi_ne c_13
          exact J_26 _ _ _ _ V I (A.wk (by decide)) (lv_sub hl [0, 1, 2, 3] rfl) (by omega) (by omega) 
        · skip
          have k_0 : (0 : Int32).toInt = 0 := rfl
          have c_13 := pi_eq.mp c_13
          refine lv_aload_n hx hb dX12_wasTold_16 rfl (lv_at hl 0 rfl) ?_
          refine pg_r M V 12 24 (sm_this S) pC12 fk12_24 (sm_told S).2.2 lkF_X12_30 dX12_wasTold_17 ?_
          refine lv_iload_n hx hb dX12_wasTold_20 rfl (lv_at hl 3 rfl) ?_
          refine pa_i M V (sm_told S).1 (by rw [(sm_told S).2.1]; exact pi_in (by omega)) dX12_wasTold_21 ?_
          refine lv_topi (fun v3 ev3 => ?_)
          refine lv_iload_n hx hb dX12_wasTold_22 rfl (lv_at hl 1 rfl) ?_
          refine lv_icmp_ne (tgt := 30) hx hb dX12_wasTold_23 (by decide) (fun c_23 => ?_) (fun c_23 => ?_)
          · skip
            have c_23 := pi_ne c_23
            refine lv_iconst (v := 0) hx hb dX12_wasTold_30 (by decide) ?_
            exact J_31 (0 : Int32) _ _ _ _ V I (A.wk (by decide)) (lv_sub hl [0, 1, 2, 3] rfl) (by omega) (by omega) (by omega) 
          · skip
            have c_23 := pi_eq.mp c_23
            exact J_26 _ _ _ _ V I (A.wk (by decide)) (lv_sub hl [0, 1, 2, 3] rfl) (by omega) (by omega) 
  refine lv_iconst (v := 0) hx hb dX12_wasTold_0 (by decide) ?_
  refine lv_istore_n (lv' := [(2, .int (0 : Int32)), (0, .ref (zB Z + 137)), (1, .int id)]) hx hb dX12_wasTold_1 rfl hl (by decide) rfl (fun ls hl => ?_)
  refine lv_iconst (v := 0) hx hb dX12_wasTold_2 (by decide) ?_
  refine lv_istore_n (lv' := [(3, .int (0 : Int32)), (2, .int (0 : Int32)), (0, .ref (zB Z + 137)), (1, .int id)]) hx hb dX12_wasTold_3 rfl hl (by decide) rfl (fun ls hl => ?_)
  have k_0 : (0 : Int32).toInt = 0 := rfl
  exact J_4 _ (0 : Int32) (0 : Int32) _ _ _ _ V I (A.wk (by decide)) (lv_sub hl [2, 3, 1, 0] rfl) (by omega) (by omega) (Nat.lt_succ_self _) 
theorem dX12_hasBehaved_0 : decode cX12_hasBehaved 0 = .ok (.iconst 0, 1) := by decide +kernel
theorem dX12_hasBehaved_1 : decode cX12_hasBehaved 1 = .ok (.istore_n 2, 1) := by decide +kernel
theorem dX12_hasBehaved_2 : decode cX12_hasBehaved 2 = .ok (.iconst 0, 1) := by decide +kernel
theorem dX12_hasBehaved_3 : decode cX12_hasBehaved 3 = .ok (.istore_n 3, 1) := by decide +kernel
theorem dX12_hasBehaved_4 : decode cX12_hasBehaved 4 = .ok (.iload_n 3, 1) := by decide +kernel
theorem dX12_hasBehaved_5 : decode cX12_hasBehaved 5 = .ok (.aload_n 0, 1) := by decide +kernel
theorem dX12_hasBehaved_6 : decode cX12_hasBehaved 6 = .ok (.getfield 270, 3) := by decide +kernel
theorem dX12_hasBehaved_9 : decode cX12_hasBehaved 9 = .ok (.if_icmp .ge 29, 3) := by decide +kernel
theorem dX12_hasBehaved_12 : decode cX12_hasBehaved 12 = .ok (.iload_n 2, 1) := by decide +kernel
theorem dX12_hasBehaved_13 : decode cX12_hasBehaved 13 = .ok (.ifCond .ne 13, 3) := by decide +kernel
theorem dX12_hasBehaved_16 : decode cX12_hasBehaved 16 = .ok (.aload_n 0, 1) := by decide +kernel
theorem dX12_hasBehaved_17 : decode cX12_hasBehaved 17 = .ok (.getfield 33, 3) := by decide +kernel
theorem dX12_hasBehaved_20 : decode cX12_hasBehaved 20 = .ok (.iload_n 3, 1) := by decide +kernel
theorem dX12_hasBehaved_21 : decode cX12_hasBehaved 21 = .ok (.iaload, 1) := by decide +kernel
theorem dX12_hasBehaved_22 : decode cX12_hasBehaved 22 = .ok (.iload_n 1, 1) := by decide +kernel
theorem dX12_hasBehaved_23 : decode cX12_hasBehaved 23 = .ok (.if_icmp .ne 7, 3) := by decide +kernel
theorem dX12_hasBehaved_26 : decode cX12_hasBehaved 26 = .ok (.iconst 1, 1) := by decide +kernel
theorem dX12_hasBehaved_27 : decode cX12_hasBehaved 27 = .ok (.goto 4, 3) := by decide +kernel
theorem dX12_hasBehaved_30 : decode cX12_hasBehaved 30 = .ok (.iconst 0, 1) := by decide +kernel
theorem dX12_hasBehaved_31 : decode cX12_hasBehaved 31 = .ok (.istore_n 2, 1) := by decide +kernel
theorem dX12_hasBehaved_32 : decode cX12_hasBehaved 32 = .ok (.iinc 3 1, 3) := by decide +kernel
theorem dX12_hasBehaved_35 : decode cX12_hasBehaved 35 = .ok (.goto (-31), 3) := by decide +kernel
theorem dX12_hasBehaved_38 : decode cX12_hasBehaved 38 = .ok (.iload_n 2, 1) := by decide +kernel
theorem dX12_hasBehaved_39 : decode cX12_hasBehaved 39 = .ok (.ireturn, 1) := by decide +kernel
set_option maxHeartbeats 4000000 in
set_option maxRecDepth 100000 in
theorem m_X12_hasBehaved (l : Launch) {Z : pZ} (S : pSh Z) {h : pH} (I : Iv Z h) (id : Int32)  : pMet l yX12_hasBehaved cX12_hasBehaved 4 (some .boolean) 0 0 0 0 Z h [.ref (zB Z + 137), .int id] (pQi Z (fun r Z1 h1 => Z = Z1 ∧ Iv Z h1 ∧ agr [] h h1 ∧ (r.toInt = 0 ∨ r.toInt = 1))) := by
  refine pOfW (lv := [(0, .ref (zB Z + 137)), (1, .int id)]) (by decide) (Nat.le_of_ble_eq_true rfl) rfl ?_
  intro p e s m below meth c ls M hr hlk hnm V hl
  have hx := M.1.1
  have hb := M.1.2.1
  have A : agr [] h h := agr.rf
  have J_4 : ∀ (n9 : Nat) (x4_2 : Int32) (x4_3 : Int32) (hJ : pH) (H : Heap) (locs : List Loc) (ls : Array Slot), pV Z hJ s.heap H locs → Iv Z hJ → agr [] h hJ → lv_has ls 4 [(0, .ref (zB Z + 137)), (1, .int id), (2, .int x4_2), (3, .int x4_3)] → (0 ≤ x4_2.toInt ∧ x4_2.toInt ≤ 1) → (0 ≤ x4_3.toInt ∧ x4_3.toInt ≤ 600) → (600 - x4_3.toInt).toNat < n9 → W p l e (pRm 0 0 0 0) s m ([.ref (zB Z + 137), .int id] : List Value).toArray below meth c H locs 0 0 (MQ below (pQi Z (fun r Z1 h1 => Z = Z1 ∧ Iv Z h1 ∧ agr [] h h1 ∧ (r.toInt = 0 ∨ r.toInt = 1))) ([.ref (zB Z + 137), .int id] : List Value).toArray s 0 0 (pA (zB Z))) (F0 m 4 ls []) := by
    intro n9
    induction n9 with
    | zero => intro x4_2 x4_3 hJ H locs ls V I A hl g_4_2 g_4_3 hm9; exact absurd hm9 (Nat.not_lt_zero _)
    | succ n9 ih_4 =>
      intro x4_2 x4_3 hJ H locs ls V I A hl g_4_2 g_4_3 hm9
      have J_31 : ∀ (y31_0 : Int32) (hJ : pH) (H : Heap) (locs : List Loc) (ls : Array Slot), pV Z hJ s.heap H locs → Iv Z hJ → agr [] h hJ → lv_has ls 4 [(0, .ref (zB Z + 137)), (1, .int id), (2, .int x4_2), (3, .int x4_3)] → (0 ≤ x4_2.toInt ∧ x4_2.toInt ≤ 1) → (0 ≤ x4_3.toInt ∧ x4_3.toInt ≤ 599) → (0 ≤ y31_0.toInt ∧ y31_0.toInt ≤ 1) → W p l e (pRm 0 0 0 0) s m ([.ref (zB Z + 137), .int id] : List Value).toArray below meth c H locs 0 0 (MQ below (pQi Z (fun r Z1 h1 => Z = Z1 ∧ Iv Z h1 ∧ agr [] h h1 ∧ (r.toInt = 0 ∨ r.toInt = 1))) ([.ref (zB Z + 137), .int id] : List Value).toArray s 0 0 (pA (zB Z))) (F0 m 31 ls [.int y31_0]) := by
        intro y31_0 hJ H locs ls V I A hl g_31_2 g_31_3 gs_31_0
        refine lv_istore_n (lv' := [(2, .int y31_0), (0, .ref (zB Z + 137)), (1, .int id), (3, .int x4_3)]) hx hb dX12_hasBehaved_31 rfl hl (by decide) rfl (fun ls hl => ?_)
        obtain ⟨v1, ev1⟩ : ∃ y : Int32, y = x4_3 + 1 := ⟨_, rfl⟩
        refine lv_iinc (v := v1) (lv' := [(3, .int v1), (2, .int y31_0), (0, .ref (zB Z + 137)), (1, .int id)]) hx hb dX12_hasBehaved_32 hl (k := 3) rfl (by rw [ev1]; rfl) (by decide) rfl (fun ls hl => ?_)
        refine lv_goto (tgt := 4) hx hb dX12_hasBehaved_35 (by decide) ?_
        have k_1 : (1 : Int32).toInt = 1 := rfl
        have tv1 : v1.toInt = x4_3.toInt + 1 := by rw [ev1]; have z9 := pi_add (x := x4_3) (y := (1 : Int32)); rw [k_1] at z9; exact z9 (by omega)
        exact ih_4 y31_0 v1 _ _ _ _ V I (A.wk (by decide)) (lv_sub hl [2, 3, 1, 0] rfl) (by omega) (by omega) (by omega) 
      have J_26 : ∀ (hJ : pH) (H : Heap) (locs : List Loc) (ls : Array Slot), pV Z hJ s.heap H locs → Iv Z hJ → agr [] h hJ → lv_has ls 4 [(0, .ref (zB Z + 137)), (1, .int id), (2, .int x4_2), (3, .int x4_3)] → (0 ≤ x4_2.toInt ∧ x4_2.toInt ≤ 1) → (0 ≤ x4_3.toInt ∧ x4_3.toInt ≤ 599) → W p l e (pRm 0 0 0 0) s m ([.ref (zB Z + 137), .int id] : List Value).toArray below meth c H locs 0 0 (MQ below (pQi Z (fun r Z1 h1 => Z = Z1 ∧ Iv Z h1 ∧ agr [] h h1 ∧ (r.toInt = 0 ∨ r.toInt = 1))) ([.ref (zB Z + 137), .int id] : List Value).toArray s 0 0 (pA (zB Z))) (F0 m 26 ls []) := by
        intro hJ H locs ls V I A hl g_26_2 g_26_3
        refine lv_iconst (v := 1) hx hb dX12_hasBehaved_26 (by decide) ?_
        refine lv_goto (tgt := 31) hx hb dX12_hasBehaved_27 (by decide) ?_
        have k_1 : (1 : Int32).toInt = 1 := rfl
        exact J_31 (1 : Int32) _ _ _ _ V I (A.wk (by decide)) (lv_sub hl [0, 1, 2, 3] rfl) (by omega) (by omega) (by omega) 
      refine lv_iload_n hx hb dX12_hasBehaved_4 rfl (lv_at hl 3 rfl) ?_
      refine lv_aload_n hx hb dX12_hasBehaved_5 rfl (lv_at hl 0 rfl) ?_
      refine pg_i M V 12 27 (sm_this S) pC12 fk12_27 lkF_X12_270 dX12_hasBehaved_6 ?_
      refine lv_topi (fun v2 ev2 => ?_)
      have tv2 : 0 ≤ v2.toInt ∧ v2.toInt ≤ 600 := by rw [ev2]; exact I.get (sm_this S) 27
      refine lv_icmp_ge (tgt := 38) hx hb dX12_hasBehaved_9 (by decide) (fun c_9 => ?_) (fun c_9 => ?_)
      · skip
        have c_9 := pi_le.mp c_9
        refine lv_iload_n hx hb dX12_hasBehaved_38 rfl (lv_at hl 2 rfl) ?_
        exact pe_i M V rfl rfl hr hlk (pn_z (pi_z (by omega))).1 ⟨rfl, I, A.wk (by decide), by omega⟩ ⟨Nat.le_refl _, Nat.le_refl _⟩ dX12_hasBehaved_39
      · skip
        have c_9 := pi_le' c_9
        refine lv_iload_n hx hb dX12_hasBehaved_12 rfl (lv_at hl 2 rfl) ?_
        refine lv_if_ne (tgt := 26) hx hb dX12_hasBehaved_13 (by decide) (fun c_13 => ?_) (fun c_13 => ?_)
        · skip
          have k_0 : (0 : Int32).toInt = 0 := rfl
          have c_13 := pi_ne c_13
          exact J_26 _ _ _ _ V I (A.wk (by decide)) (lv_sub hl [0, 1, 2, 3] rfl) (by omega) (by omega) 
        · skip
          have k_0 : (0 : Int32).toInt = 0 := rfl
          have c_13 := pi_eq.mp c_13
          refine lv_aload_n hx hb dX12_hasBehaved_16 rfl (lv_at hl 0 rfl) ?_
          refine pg_r M V 12 26 (sm_this S) pC12 fk12_26 (sm_behaved S).2.2 lkF_X12_33 dX12_hasBehaved_17 ?_
          refine lv_iload_n hx hb dX12_hasBehaved_20 rfl (lv_at hl 3 rfl) ?_
          refine pa_i M V (sm_behaved S).1 (by rw [(sm_behaved S).2.1]; exact pi_in (by omega)) dX12_hasBehaved_21 ?_
          refine lv_topi (fun v3 ev3 => ?_)
          refine lv_iload_n hx hb dX12_hasBehaved_22 rfl (lv_at hl 1 rfl) ?_
          refine lv_icmp_ne (tgt := 30) hx hb dX12_hasBehaved_23 (by decide) (fun c_23 => ?_) (fun c_23 => ?_)
          · skip
            have c_23 := pi_ne c_23
            refine lv_iconst (v := 0) hx hb dX12_hasBehaved_30 (by decide) ?_
            exact J_31 (0 : Int32) _ _ _ _ V I (A.wk (by decide)) (lv_sub hl [0, 1, 2, 3] rfl) (by omega) (by omega) (by omega) 
          · skip
            have c_23 := pi_eq.mp c_23
            exact J_26 _ _ _ _ V I (A.wk (by decide)) (lv_sub hl [0, 1, 2, 3] rfl) (by omega) (by omega) 
  refine lv_iconst (v := 0) hx hb dX12_hasBehaved_0 (by decide) ?_
  refine lv_istore_n (lv' := [(2, .int (0 : Int32)), (0, .ref (zB Z + 137)), (1, .int id)]) hx hb dX12_hasBehaved_1 rfl hl (by decide) rfl (fun ls hl => ?_)
  refine lv_iconst (v := 0) hx hb dX12_hasBehaved_2 (by decide) ?_
  refine lv_istore_n (lv' := [(3, .int (0 : Int32)), (2, .int (0 : Int32)), (0, .ref (zB Z + 137)), (1, .int id)]) hx hb dX12_hasBehaved_3 rfl hl (by decide) rfl (fun ls hl => ?_)
  have k_0 : (0 : Int32).toInt = 0 := rfl
  exact J_4 _ (0 : Int32) (0 : Int32) _ _ _ _ V I (A.wk (by decide)) (lv_sub hl [2, 3, 1, 0] rfl) (by omega) (by omega) (Nat.lt_succ_self _) 
theorem dX12_fails_0 : decode cX12_fails 0 = .ok (.aload_n 0, 1) := by decide +kernel
theorem dX12_fails_1 : decode cX12_fails 1 = .ok (.iload_n 1, 1) := by decide +kernel
theorem dX12_fails_2 : decode cX12_fails 2 = .ok (.putfield 175, 3) := by decide +kernel
theorem dX12_fails_5 : decode cX12_fails 5 = .ok (.aload_n 0, 1) := by decide +kernel
theorem dX12_fails_6 : decode cX12_fails 6 = .ok (.getfield 236, 3) := by decide +kernel
theorem dX12_fails_9 : decode cX12_fails 9 = .ok (.ifCond .ne 5, 3) := by decide +kernel
theorem dX12_fails_12 : decode cX12_fails 12 = .ok (.iconst 0, 1) := by decide +kernel
theorem dX12_fails_13 : decode cX12_fails 13 = .ok (.ireturn, 1) := by decide +kernel
theorem dX12_fails_14 : decode cX12_fails 14 = .ok (.aload_n 0, 1) := by decide +kernel
theorem dX12_fails_15 : decode cX12_fails 15 = .ok (.iconst 0, 1) := by decide +kernel
theorem dX12_fails_16 : decode cX12_fails 16 = .ok (.putfield 236, 3) := by decide +kernel
theorem dX12_fails_19 : decode cX12_fails 19 = .ok (.aload_n 0, 1) := by decide +kernel
theorem dX12_fails_20 : decode cX12_fails 20 = .ok (.iconst 0, 1) := by decide +kernel
theorem dX12_fails_21 : decode cX12_fails 21 = .ok (.putfield 255, 3) := by decide +kernel
theorem dX12_fails_24 : decode cX12_fails 24 = .ok (.aload_n 0, 1) := by decide +kernel
theorem dX12_fails_25 : decode cX12_fails 25 = .ok (.iconst 0, 1) := by decide +kernel
theorem dX12_fails_26 : decode cX12_fails 26 = .ok (.putfield 264, 3) := by decide +kernel
theorem dX12_fails_29 : decode cX12_fails 29 = .ok (.aload_n 0, 1) := by decide +kernel
theorem dX12_fails_30 : decode cX12_fails 30 = .ok (.iconst 0, 1) := by decide +kernel
theorem dX12_fails_31 : decode cX12_fails 31 = .ok (.putfield 291, 3) := by decide +kernel
theorem dX12_fails_34 : decode cX12_fails 34 = .ok (.aload_n 0, 1) := by decide +kernel
theorem dX12_fails_35 : decode cX12_fails 35 = .ok (.iconst 0, 1) := by decide +kernel
theorem dX12_fails_36 : decode cX12_fails 36 = .ok (.putfield 294, 3) := by decide +kernel
theorem dX12_fails_39 : decode cX12_fails 39 = .ok (.aload_n 0, 1) := by decide +kernel
theorem dX12_fails_40 : decode cX12_fails 40 = .ok (.iconst (-1), 1) := by decide +kernel
theorem dX12_fails_41 : decode cX12_fails 41 = .ok (.putfield 26, 3) := by decide +kernel
theorem dX12_fails_44 : decode cX12_fails 44 = .ok (.aload_n 0, 1) := by decide +kernel
theorem dX12_fails_45 : decode cX12_fails 45 = .ok (.iconst (-1), 1) := by decide +kernel
theorem dX12_fails_46 : decode cX12_fails 46 = .ok (.putfield 69, 3) := by decide +kernel
theorem dX12_fails_49 : decode cX12_fails 49 = .ok (.aload_n 0, 1) := by decide +kernel
theorem dX12_fails_50 : decode cX12_fails 50 = .ok (.iconst 0, 1) := by decide +kernel
theorem dX12_fails_51 : decode cX12_fails 51 = .ok (.putfield 246, 3) := by decide +kernel
theorem dX12_fails_54 : decode cX12_fails 54 = .ok (.aload_n 0, 1) := by decide +kernel
theorem dX12_fails_55 : decode cX12_fails 55 = .ok (.iconst 0, 1) := by decide +kernel
theorem dX12_fails_56 : decode cX12_fails 56 = .ok (.putfield 279, 3) := by decide +kernel
theorem dX12_fails_59 : decode cX12_fails 59 = .ok (.aload_n 0, 1) := by decide +kernel
theorem dX12_fails_60 : decode cX12_fails 60 = .ok (.iconst 0, 1) := by decide +kernel
theorem dX12_fails_61 : decode cX12_fails 61 = .ok (.putfield 282, 3) := by decide +kernel
theorem dX12_fails_64 : decode cX12_fails 64 = .ok (.aload_n 0, 1) := by decide +kernel
theorem dX12_fails_65 : decode cX12_fails 65 = .ok (.iconst 0, 1) := by decide +kernel
theorem dX12_fails_66 : decode cX12_fails 66 = .ok (.putfield 285, 3) := by decide +kernel
theorem dX12_fails_69 : decode cX12_fails 69 = .ok (.aload_n 0, 1) := by decide +kernel
theorem dX12_fails_70 : decode cX12_fails 70 = .ok (.iconst (-1), 1) := by decide +kernel
theorem dX12_fails_71 : decode cX12_fails 71 = .ok (.putfield 144, 3) := by decide +kernel
theorem dX12_fails_74 : decode cX12_fails 74 = .ok (.iconst 0, 1) := by decide +kernel
theorem dX12_fails_75 : decode cX12_fails 75 = .ok (.istore_n 2, 1) := by decide +kernel
theorem dX12_fails_76 : decode cX12_fails 76 = .ok (.iload_n 2, 1) := by decide +kernel
theorem dX12_fails_77 : decode cX12_fails 77 = .ok (.bipush 9, 2) := by decide +kernel
theorem dX12_fails_79 : decode cX12_fails 79 = .ok (.if_icmp .ge 16, 3) := by decide +kernel
theorem dX12_fails_82 : decode cX12_fails 82 = .ok (.aload_n 0, 1) := by decide +kernel
theorem dX12_fails_83 : decode cX12_fails 83 = .ok (.getfield 60, 3) := by decide +kernel
theorem dX12_fails_86 : decode cX12_fails 86 = .ok (.iload_n 2, 1) := by decide +kernel
theorem dX12_fails_87 : decode cX12_fails 87 = .ok (.iconst 0, 1) := by decide +kernel
theorem dX12_fails_88 : decode cX12_fails 88 = .ok (.bastore, 1) := by decide +kernel
theorem dX12_fails_89 : decode cX12_fails 89 = .ok (.iinc 2 1, 3) := by decide +kernel
theorem dX12_fails_92 : decode cX12_fails 92 = .ok (.goto (-16), 3) := by decide +kernel
theorem dX12_fails_95 : decode cX12_fails 95 = .ok (.iconst 0, 1) := by decide +kernel
theorem dX12_fails_96 : decode cX12_fails 96 = .ok (.ireturn, 1) := by decide +kernel
set_option maxHeartbeats 4000000 in
set_option maxRecDepth 100000 in
theorem m_X12_fails (l : Launch) {Z : pZ} (S : pSh Z) {h : pH} (I : Iv Z h) (code : Int32)  : pMet l yX12_fails cX12_fails 3 (some .int) 0 0 0 0 Z h [.ref (zB Z + 137), .int code] (pQi Z (fun r Z1 h1 => Z = Z1 ∧ Iv Z h1 ∧ agr [(137, 0), (137, 18), (137, 19), (137, 20), (137, 22), (137, 21), (137, 23), (137, 40), (137, 48), (137, 56), (137, 58), (137, 70), (137, 71), (153, 1000)] h h1 ∧ (r.toInt = 0) ∧ (mS h → mS h1))) := by
  refine pOfW (lv := [(0, .ref (zB Z + 137)), (1, .int code)]) (by decide) (Nat.le_of_ble_eq_true rfl) rfl ?_
  intro p e s m below meth c ls M hr hlk hnm V hl
  have hx := M.1.1
  have hb := M.1.2.1
  have A : agr [] h h := agr.rf
  have i_56 : 0 ≤ (h 137 56).toInt ∧ (h 137 56).toInt ≤ 40 := I.get (sm_this S) 56
  have i_70 : 0 ≤ (h 137 70).toInt ∧ (h 137 70).toInt ≤ 40 := I.get (sm_this S) 70
  have i_58 : 0 ≤ (h 137 58).toInt ∧ (h 137 58).toInt ≤ 40 := I.get (sm_this S) 58
  have J_76 : ∀ (n9 : Nat) (x76_2 : Int32) (hJ : pH) (H : Heap) (locs : List Loc) (ls : Array Slot), pV Z hJ s.heap H locs → Iv Z hJ → agr [(137, 0), (137, 18), (137, 19), (137, 20), (137, 21), (137, 22), (137, 23), (137, 40), (137, 48), (137, 56), (137, 58), (137, 70), (137, 71), (153, 1000)] h hJ → lv_has ls 3 [(0, .ref (zB Z + 137)), (1, .int code), (2, .int x76_2)] → (0 ≤ x76_2.toInt ∧ x76_2.toInt ≤ 9) → (0 ≤ (hJ 137 56).toInt ∧ (hJ 137 56).toInt ≤ 0) → (0 ≤ (hJ 137 70).toInt ∧ (hJ 137 70).toInt ≤ 0) → (0 ≤ (hJ 137 58).toInt ∧ (hJ 137 58).toInt ≤ 0) → (9 - x76_2.toInt).toNat < n9 → W p l e (pRm 0 0 0 0) s m ([.ref (zB Z + 137), .int code] : List Value).toArray below meth c H locs 0 0 (MQ below (pQi Z (fun r Z1 h1 => Z = Z1 ∧ Iv Z h1 ∧ agr [(137, 0), (137, 18), (137, 19), (137, 20), (137, 22), (137, 21), (137, 23), (137, 40), (137, 48), (137, 56), (137, 58), (137, 70), (137, 71), (153, 1000)] h h1 ∧ (r.toInt = 0) ∧ (mS h → mS h1))) ([.ref (zB Z + 137), .int code] : List Value).toArray s 0 0 (pA (zB Z))) (F0 m 76 ls []) := by
    intro n9
    induction n9 with
    | zero => intro x76_2 hJ H locs ls V I A hl g_76_2 gd_76_56 gd_76_70 gd_76_58 hm9; exact absurd hm9 (Nat.not_lt_zero _)
    | succ n9 ih_76 =>
      intro x76_2 hJ H locs ls V I A hl g_76_2 gd_76_56 gd_76_70 gd_76_58 hm9
      refine lv_iload_n hx hb dX12_fails_76 rfl (lv_at hl 2 rfl) ?_
      refine lv_bipush (v := 9) hx hb dX12_fails_77 (by decide) ?_
      refine lv_icmp_ge (tgt := 95) hx hb dX12_fails_79 (by decide) (fun c_79 => ?_) (fun c_79 => ?_)
      · skip
        have k_9 : (9 : Int32).toInt = 9 := rfl
        have c_79 := pi_le.mp c_79
        refine lv_iconst (v := 0) hx hb dX12_fails_95 (by decide) ?_
        have k_0 : (0 : Int32).toInt = 0 := rfl
        exact pe_i M V rfl rfl hr hlk rfl ⟨rfl, I, A.wk (by decide), by omega, (fun _ => mS.zero (by omega) (by omega) (by omega))⟩ ⟨Nat.le_refl _, Nat.le_refl _⟩ dX12_fails_96
      · skip
        have k_9 : (9 : Int32).toInt = 9 := rfl
        have c_79 := pi_le' c_79
        refine lv_aload_n hx hb dX12_fails_82 rfl (lv_at hl 0 rfl) ?_
        refine pg_r M V 12 37 (sm_this S) pC12 fk12_37 (sm_here S).2.2 lkF_X12_60 dX12_fails_83 ?_
        refine lv_iload_n hx hb dX12_fails_86 rfl (lv_at hl 2 rfl) ?_
        refine lv_iconst (v := 0) hx hb dX12_fails_87 (by decide) ?_
        have k_0 : (0 : Int32).toInt = 0 := rfl
        refine ps_z M V (sm_here S).1 (by rw [(sm_here S).2.1]; exact pi_in (by omega)) (pi_z (by omega)) dX12_fails_88 (fun H locs V => ?_)
        have A := A.upA (o := 153) (k := x76_2.toNatClampNeg) (v := (0 : Int32)) (by decide)
        have I := I.up (k := x76_2.toNatClampNeg) (v := (0 : Int32)) (sm_here S).1 (show (0 : Int) ≤ (0 : Int32).toInt ∧ (0 : Int32).toInt ≤ (1 : Int) by omega)
        obtain ⟨v1, ev1⟩ : ∃ y : Int32, y = x76_2 + 1 := ⟨_, rfl⟩
        refine lv_iinc (v := v1) (lv' := [(2, .int v1), (0, .ref (zB Z + 137)), (1, .int code)]) hx hb dX12_fails_89 hl (k := 2) rfl (by rw [ev1]; rfl) (by decide) rfl (fun ls hl => ?_)
        refine lv_goto (tgt := 76) hx hb dX12_fails_92 (by decide) ?_
        have k_1 : (1 : Int32).toInt = 1 := rfl
        have tv1 : v1.toInt = x76_2.toInt + 1 := by rw [ev1]; have z9 := pi_add (x := x76_2) (y := (1 : Int32)); rw [k_1] at z9; exact z9 (by omega)
        exact ih_76 v1 _ _ _ _ V I (A.wk (by decide)) (lv_sub hl [1, 2, 0] rfl) (by omega) (show 0 ≤ (hJ 137 56).toInt ∧ (hJ 137 56).toInt ≤ 0 by omega) (show 0 ≤ (hJ 137 70).toInt ∧ (hJ 137 70).toInt ≤ 0 by omega) (show 0 ≤ (hJ 137 58).toInt ∧ (hJ 137 58).toInt ≤ 0 by omega) (by omega) 
  refine lv_aload_n hx hb dX12_fails_0 rfl (lv_at hl 0 rfl) ?_
  refine lv_iload_n hx hb dX12_fails_1 rfl (lv_at hl 1 rfl) ?_
  refine pp_i M V 12 0 (sm_this S) pC12 fk12_0 rfl lkF_X12_175 ⟨rfl, rfl⟩ dX12_fails_2 (fun H locs V => ?_)
  have A := A.wk (l3 := [(137, 0)]) (by decide)
  have A := A.up (o := 137) (k := 0) (v := code) (by decide)
  have I := I.up (k := 0) (v := code) (sm_this S) (pi_full _)
  refine lv_aload_n hx hb dX12_fails_5 rfl (lv_at hl 0 rfl) ?_
  refine pg_i M V 12 18 (sm_this S) pC12 fk12_18 lkF_X12_236 dX12_fails_6 ?_
  refine lv_topi (fun v2 ev2 => ?_)
  have tv2 : 0 ≤ v2.toInt ∧ v2.toInt ≤ 1 := by rw [ev2]; exact I.get (sm_this S) 18
  refine lv_if_ne (tgt := 14) hx hb dX12_fails_9 (by decide) (fun c_9 => ?_) (fun c_9 => ?_)
  · skip
    have k_0 : (0 : Int32).toInt = 0 := rfl
    have c_9 := pi_ne c_9
    refine lv_aload_n hx hb dX12_fails_14 rfl (lv_at hl 0 rfl) ?_
    refine lv_iconst (v := 0) hx hb dX12_fails_15 (by decide) ?_
    have z_16 : (0 : Int32) = 0 ∨ (0 : Int32) = 1 := pi_z (by omega)
    refine pp_i M V 12 18 (sm_this S) pC12 fk12_18 rfl lkF_X12_236 ⟨(pn_z z_16).1, (pn_z z_16).2.1⟩ dX12_fails_16 (fun H locs V => ?_)
    have A := A.wk (l3 := [(137, 0), (137, 18)]) (by decide)
    have A := A.up (o := 137) (k := 18) (v := (0 : Int32)) (by decide)
    have I := I.up (k := 18) (v := (0 : Int32)) (sm_this S) (show (0 : Int) ≤ (0 : Int32).toInt ∧ (0 : Int32).toInt ≤ (1 : Int) by omega)
    refine lv_aload_n hx hb dX12_fails_19 rfl (lv_at hl 0 rfl) ?_
    refine lv_iconst (v := 0) hx hb dX12_fails_20 (by decide) ?_
    refine pp_i M V 12 19 (sm_this S) pC12 fk12_19 rfl lkF_X12_255 ⟨rfl, rfl⟩ dX12_fails_21 (fun H locs V => ?_)
    have A := A.wk (l3 := [(137, 0), (137, 18), (137, 19)]) (by decide)
    have A := A.up (o := 137) (k := 19) (v := (0 : Int32)) (by decide)
    have I := I.up (k := 19) (v := (0 : Int32)) (sm_this S) (pi_full _)
    refine lv_aload_n hx hb dX12_fails_24 rfl (lv_at hl 0 rfl) ?_
    refine lv_iconst (v := 0) hx hb dX12_fails_25 (by decide) ?_
    refine pp_i M V 12 20 (sm_this S) pC12 fk12_20 rfl lkF_X12_264 ⟨rfl, rfl⟩ dX12_fails_26 (fun H locs V => ?_)
    have A := A.wk (l3 := [(137, 0), (137, 18), (137, 19), (137, 20)]) (by decide)
    have A := A.up (o := 137) (k := 20) (v := (0 : Int32)) (by decide)
    have I := I.up (k := 20) (v := (0 : Int32)) (sm_this S) (pi_full _)
    refine lv_aload_n hx hb dX12_fails_29 rfl (lv_at hl 0 rfl) ?_
    refine lv_iconst (v := 0) hx hb dX12_fails_30 (by decide) ?_
    refine pp_i M V 12 22 (sm_this S) pC12 fk12_22 rfl lkF_X12_291 ⟨rfl, rfl⟩ dX12_fails_31 (fun H locs V => ?_)
    have A := A.wk (l3 := [(137, 0), (137, 18), (137, 19), (137, 20), (137, 22)]) (by decide)
    have A := A.up (o := 137) (k := 22) (v := (0 : Int32)) (by decide)
    have I := I.up (k := 22) (v := (0 : Int32)) (sm_this S) (pi_full _)
    refine lv_aload_n hx hb dX12_fails_34 rfl (lv_at hl 0 rfl) ?_
    refine lv_iconst (v := 0) hx hb dX12_fails_35 (by decide) ?_
    refine pp_i M V 12 21 (sm_this S) pC12 fk12_21 rfl lkF_X12_294 ⟨rfl, rfl⟩ dX12_fails_36 (fun H locs V => ?_)
    have A := A.wk (l3 := [(137, 0), (137, 18), (137, 19), (137, 20), (137, 22), (137, 21)]) (by decide)
    have A := A.up (o := 137) (k := 21) (v := (0 : Int32)) (by decide)
    have I := I.up (k := 21) (v := (0 : Int32)) (sm_this S) (pi_full _)
    refine lv_aload_n hx hb dX12_fails_39 rfl (lv_at hl 0 rfl) ?_
    refine lv_iconst (v := (-1)) hx hb dX12_fails_40 (by decide) ?_
    refine pp_i M V 12 23 (sm_this S) pC12 fk12_23 rfl lkF_X12_26 ⟨rfl, rfl⟩ dX12_fails_41 (fun H locs V => ?_)
    have A := A.wk (l3 := [(137, 0), (137, 18), (137, 19), (137, 20), (137, 22), (137, 21), (137, 23)]) (by decide)
    have A := A.up (o := 137) (k := 23) (v := (-1 : Int32)) (by decide)
    have k_m1 : (-1 : Int32).toInt = -1 := rfl
    have I := I.up (k := 23) (v := (-1 : Int32)) (sm_this S) (show (-1 : Int) ≤ (-1 : Int32).toInt ∧ (-1 : Int32).toInt ≤ (8 : Int) by omega)
    refine lv_aload_n hx hb dX12_fails_44 rfl (lv_at hl 0 rfl) ?_
    refine lv_iconst (v := (-1)) hx hb dX12_fails_45 (by decide) ?_
    refine pp_i M V 12 40 (sm_this S) pC12 fk12_40 rfl lkF_X12_69 ⟨rfl, rfl⟩ dX12_fails_46 (fun H locs V => ?_)
    have A := A.wk (l3 := [(137, 0), (137, 18), (137, 19), (137, 20), (137, 22), (137, 21), (137, 23), (137, 40)]) (by decide)
    have A := A.up (o := 137) (k := 40) (v := (-1 : Int32)) (by decide)
    have I := I.up (k := 40) (v := (-1 : Int32)) (sm_this S) (pi_full _)
    refine lv_aload_n hx hb dX12_fails_49 rfl (lv_at hl 0 rfl) ?_
    refine lv_iconst (v := 0) hx hb dX12_fails_50 (by decide) ?_
    refine pp_i M V 12 48 (sm_this S) pC12 fk12_48 rfl lkF_X12_246 ⟨rfl, rfl⟩ dX12_fails_51 (fun H locs V => ?_)
    have A := A.wk (l3 := [(137, 0), (137, 18), (137, 19), (137, 20), (137, 22), (137, 21), (137, 23), (137, 40), (137, 48)]) (by decide)
    have A := A.up (o := 137) (k := 48) (v := (0 : Int32)) (by decide)
    have I := I.up (k := 48) (v := (0 : Int32)) (sm_this S) (show (0 : Int) ≤ (0 : Int32).toInt ∧ (0 : Int32).toInt ≤ (8 : Int) by omega)
    refine lv_aload_n hx hb dX12_fails_54 rfl (lv_at hl 0 rfl) ?_
    refine lv_iconst (v := 0) hx hb dX12_fails_55 (by decide) ?_
    refine pp_i M V 12 56 (sm_this S) pC12 fk12_56 rfl lkF_X12_279 ⟨rfl, rfl⟩ dX12_fails_56 (fun H locs V => ?_)
    have A := A.wk (l3 := [(137, 0), (137, 18), (137, 19), (137, 20), (137, 22), (137, 21), (137, 23), (137, 40), (137, 48), (137, 56)]) (by decide)
    have A := A.up (o := 137) (k := 56) (v := (0 : Int32)) (by decide)
    have I := I.up (k := 56) (v := (0 : Int32)) (sm_this S) (show (0 : Int) ≤ (0 : Int32).toInt ∧ (0 : Int32).toInt ≤ (40 : Int) by omega)
    refine lv_aload_n hx hb dX12_fails_59 rfl (lv_at hl 0 rfl) ?_
    refine lv_iconst (v := 0) hx hb dX12_fails_60 (by decide) ?_
    refine pp_i M V 12 58 (sm_this S) pC12 fk12_58 rfl lkF_X12_282 ⟨rfl, rfl⟩ dX12_fails_61 (fun H locs V => ?_)
    have A := A.wk (l3 := [(137, 0), (137, 18), (137, 19), (137, 20), (137, 22), (137, 21), (137, 23), (137, 40), (137, 48), (137, 56), (137, 58)]) (by decide)
    have A := A.up (o := 137) (k := 58) (v := (0 : Int32)) (by decide)
    have I := I.up (k := 58) (v := (0 : Int32)) (sm_this S) (show (0 : Int) ≤ (0 : Int32).toInt ∧ (0 : Int32).toInt ≤ (40 : Int) by omega)
    refine lv_aload_n hx hb dX12_fails_64 rfl (lv_at hl 0 rfl) ?_
    refine lv_iconst (v := 0) hx hb dX12_fails_65 (by decide) ?_
    refine pp_i M V 12 70 (sm_this S) pC12 fk12_70 rfl lkF_X12_285 ⟨rfl, rfl⟩ dX12_fails_66 (fun H locs V => ?_)
    have A := A.wk (l3 := [(137, 0), (137, 18), (137, 19), (137, 20), (137, 22), (137, 21), (137, 23), (137, 40), (137, 48), (137, 56), (137, 58), (137, 70)]) (by decide)
    have A := A.up (o := 137) (k := 70) (v := (0 : Int32)) (by decide)
    have I := I.up (k := 70) (v := (0 : Int32)) (sm_this S) (show (0 : Int) ≤ (0 : Int32).toInt ∧ (0 : Int32).toInt ≤ (40 : Int) by omega)
    refine lv_aload_n hx hb dX12_fails_69 rfl (lv_at hl 0 rfl) ?_
    refine lv_iconst (v := (-1)) hx hb dX12_fails_70 (by decide) ?_
    refine pp_i M V 12 71 (sm_this S) pC12 fk12_71 rfl lkF_X12_144 ⟨rfl, rfl⟩ dX12_fails_71 (fun H locs V => ?_)
    have A := A.wk (l3 := [(137, 0), (137, 18), (137, 19), (137, 20), (137, 22), (137, 21), (137, 23), (137, 40), (137, 48), (137, 56), (137, 58), (137, 70), (137, 71)]) (by decide)
    have A := A.up (o := 137) (k := 71) (v := (-1 : Int32)) (by decide)
    have I := I.up (k := 71) (v := (-1 : Int32)) (sm_this S) (show (-1 : Int) ≤ (-1 : Int32).toInt ∧ (-1 : Int32).toInt ≤ (8 : Int) by omega)
    refine lv_iconst (v := 0) hx hb dX12_fails_74 (by decide) ?_
    refine lv_istore_n (lv' := [(2, .int (0 : Int32)), (0, .ref (zB Z + 137)), (1, .int code)]) hx hb dX12_fails_75 rfl hl (by decide) rfl (fun ls hl => ?_)
    exact J_76 _ (0 : Int32) _ _ _ _ V I (A.wk (by decide)) (lv_sub hl [1, 2, 0] rfl) (by omega) (show 0 ≤ (0 : Int32).toInt ∧ (0 : Int32).toInt ≤ 0 by omega) (show 0 ≤ (0 : Int32).toInt ∧ (0 : Int32).toInt ≤ 0 by omega) (show 0 ≤ (0 : Int32).toInt ∧ (0 : Int32).toInt ≤ 0 by omega) (Nat.lt_succ_self _) 
  · skip
    have k_0 : (0 : Int32).toInt = 0 := rfl
    have c_9 := pi_eq.mp c_9
    refine lv_iconst (v := 0) hx hb dX12_fails_12 (by decide) ?_
    exact pe_i M V rfl rfl hr hlk rfl ⟨rfl, I, A.wk (by decide), by omega, (fun a9 => a9.congr rfl rfl rfl rfl rfl rfl rfl)⟩ ⟨Nat.le_refl _, Nat.le_refl _⟩ dX12_fails_13
theorem dX12_breaks_0 : decode cX12_breaks 0 = .ok (.aload_n 0, 1) := by decide +kernel
theorem dX12_breaks_1 : decode cX12_breaks 1 = .ok (.iconst 1, 1) := by decide +kernel
theorem dX12_breaks_2 : decode cX12_breaks 2 = .ok (.invokevirtual 297, 3) := by decide +kernel
theorem dX12_breaks_5 : decode cX12_breaks 5 = .ok (.ireturn, 1) := by decide +kernel
set_option maxHeartbeats 4000000 in
set_option maxRecDepth 100000 in
theorem m_X12_breaks (l : Launch) {Z : pZ} (S : pSh Z) {h : pH} (I : Iv Z h)  : pMet l yX12_breaks cX12_breaks 1 (some .int) 1 0 0 22 Z h [.ref (zB Z + 137)] (pQi Z (fun r Z1 h1 => Z = Z1 ∧ Iv Z h1 ∧ agr [(137, 0), (137, 18), (137, 19), (137, 20), (137, 22), (137, 21), (137, 23), (137, 40), (137, 48), (137, 56), (137, 58), (137, 70), (137, 71), (153, 1000)] h h1 ∧ (r.toInt = 0) ∧ (mS h → mS h1))) := by
  refine pOfW (lv := [(0, .ref (zB Z + 137))]) (by decide) (Nat.le_of_ble_eq_true rfl) rfl ?_
  intro p e s m below meth c ls M hr hlk hnm V hl
  have hx := M.1.1
  have hb := M.1.2.1
  have A : agr [] h h := agr.rf
  refine lv_aload_n hx hb dX12_breaks_0 rfl (lv_at hl 0 rfl) ?_
  refine lv_iconst (v := 1) hx hb dX12_breaks_1 (by decide) ?_
  refine pk_i (pr_V M V (m_X12_fails l S I (1 : Int32) ) km_X12_fails (sm_this S) pC12 lkM_X12_297 rfl hl.1 rfl (Nat.le_of_ble_eq_true rfl) ⟨Nat.le_of_ble_eq_true rfl, Nat.le_of_ble_eq_true rfl⟩ ⟨Nat.le_of_ble_eq_true rfl, Nat.le_of_ble_eq_true rfl⟩ dX12_breaks_2) V (fun r1 Zr1 hr1 H locs pr1 _ _ V => ?_)
  obtain ⟨rfl, I, pA_r1, fr1_0, fr1_1⟩ := pr1
  have A := A.wk (l3 := [(137, 0), (137, 18), (137, 19), (137, 20), (137, 22), (137, 21), (137, 23), (137, 40), (137, 48), (137, 56), (137, 58), (137, 70), (137, 71), (153, 1000)]) (by decide)
  have A := A.tr pA_r1 (by decide)
  exact pe_i M V rfl rfl hr hlk rfl ⟨rfl, I, A.wk (by decide), by omega, fr1_1⟩ ⟨Nat.le_refl _, Nat.le_refl _⟩ dX12_breaks_5
theorem dX12_openThing_0 : decode cX12_openThing 0 = .ok (.aload_n 0, 1) := by decide +kernel
theorem dX12_openThing_1 : decode cX12_openThing 1 = .ok (.getfield 93, 3) := by decide +kernel
theorem dX12_openThing_4 : decode cX12_openThing 4 = .ok (.aload_n 0, 1) := by decide +kernel
theorem dX12_openThing_5 : decode cX12_openThing 5 = .ok (.getfield 279, 3) := by decide +kernel
theorem dX12_openThing_8 : decode cX12_openThing 8 = .ok (.iload_n 1, 1) := by decide +kernel
theorem dX12_openThing_9 : decode cX12_openThing 9 = .ok (.iastore, 1) := by decide +kernel
theorem dX12_openThing_10 : decode cX12_openThing 10 = .ok (.aload_n 0, 1) := by decide +kernel
theorem dX12_openThing_11 : decode cX12_openThing 11 = .ok (.getfield 96, 3) := by decide +kernel
theorem dX12_openThing_14 : decode cX12_openThing 14 = .ok (.aload_n 0, 1) := by decide +kernel
theorem dX12_openThing_15 : decode cX12_openThing 15 = .ok (.getfield 279, 3) := by decide +kernel
theorem dX12_openThing_18 : decode cX12_openThing 18 = .ok (.aload_n 0, 1) := by decide +kernel
theorem dX12_openThing_19 : decode cX12_openThing 19 = .ok (.getfield 282, 3) := by decide +kernel
theorem dX12_openThing_22 : decode cX12_openThing 22 = .ok (.iastore, 1) := by decide +kernel
theorem dX12_openThing_23 : decode cX12_openThing 23 = .ok (.aload_n 0, 1) := by decide +kernel
theorem dX12_openThing_24 : decode cX12_openThing 24 = .ok (.getfield 102, 3) := by decide +kernel
theorem dX12_openThing_27 : decode cX12_openThing 27 = .ok (.aload_n 0, 1) := by decide +kernel
theorem dX12_openThing_28 : decode cX12_openThing 28 = .ok (.getfield 279, 3) := by decide +kernel
theorem dX12_openThing_31 : decode cX12_openThing 31 = .ok (.iload_n 2, 1) := by decide +kernel
theorem dX12_openThing_32 : decode cX12_openThing 32 = .ok (.iastore, 1) := by decide +kernel
theorem dX12_openThing_33 : decode cX12_openThing 33 = .ok (.aload_n 0, 1) := by decide +kernel
theorem dX12_openThing_34 : decode cX12_openThing 34 = .ok (.getfield 105, 3) := by decide +kernel
theorem dX12_openThing_37 : decode cX12_openThing 37 = .ok (.aload_n 0, 1) := by decide +kernel
theorem dX12_openThing_38 : decode cX12_openThing 38 = .ok (.getfield 279, 3) := by decide +kernel
theorem dX12_openThing_41 : decode cX12_openThing 41 = .ok (.iload_n 3, 1) := by decide +kernel
theorem dX12_openThing_42 : decode cX12_openThing 42 = .ok (.iastore, 1) := by decide +kernel
theorem dX12_openThing_43 : decode cX12_openThing 43 = .ok (.iconst 0, 1) := by decide +kernel
theorem dX12_openThing_44 : decode cX12_openThing 44 = .ok (.istore 4, 2) := by decide +kernel
theorem dX12_openThing_46 : decode cX12_openThing 46 = .ok (.iload 4, 2) := by decide +kernel
theorem dX12_openThing_48 : decode cX12_openThing 48 = .ok (.iconst 4, 1) := by decide +kernel
theorem dX12_openThing_49 : decode cX12_openThing 49 = .ok (.if_icmp .ge 30, 3) := by decide +kernel
theorem dX12_openThing_52 : decode cX12_openThing 52 = .ok (.aload_n 0, 1) := by decide +kernel
theorem dX12_openThing_53 : decode cX12_openThing 53 = .ok (.getfield 99, 3) := by decide +kernel
theorem dX12_openThing_56 : decode cX12_openThing 56 = .ok (.iconst 4, 1) := by decide +kernel
theorem dX12_openThing_57 : decode cX12_openThing 57 = .ok (.aload_n 0, 1) := by decide +kernel
theorem dX12_openThing_58 : decode cX12_openThing 58 = .ok (.getfield 279, 3) := by decide +kernel
theorem dX12_openThing_61 : decode cX12_openThing 61 = .ok (.imul, 1) := by decide +kernel
theorem dX12_openThing_62 : decode cX12_openThing 62 = .ok (.iload 4, 2) := by decide +kernel
theorem dX12_openThing_64 : decode cX12_openThing 64 = .ok (.iadd, 1) := by decide +kernel
theorem dX12_openThing_65 : decode cX12_openThing 65 = .ok (.aload_n 0, 1) := by decide +kernel
theorem dX12_openThing_66 : decode cX12_openThing 66 = .ok (.getfield 147, 3) := by decide +kernel
theorem dX12_openThing_69 : decode cX12_openThing 69 = .ok (.iload 4, 2) := by decide +kernel
theorem dX12_openThing_71 : decode cX12_openThing 71 = .ok (.iaload, 1) := by decide +kernel
theorem dX12_openThing_72 : decode cX12_openThing 72 = .ok (.iastore, 1) := by decide +kernel
theorem dX12_openThing_73 : decode cX12_openThing 73 = .ok (.iinc 4 1, 3) := by decide +kernel
theorem dX12_openThing_76 : decode cX12_openThing 76 = .ok (.goto (-30), 3) := by decide +kernel
theorem dX12_openThing_79 : decode cX12_openThing 79 = .ok (.aload_n 0, 1) := by decide +kernel
theorem dX12_openThing_80 : decode cX12_openThing 80 = .ok (.dup, 1) := by decide +kernel
theorem dX12_openThing_81 : decode cX12_openThing 81 = .ok (.getfield 279, 3) := by decide +kernel
theorem dX12_openThing_84 : decode cX12_openThing 84 = .ok (.iconst 1, 1) := by decide +kernel
theorem dX12_openThing_85 : decode cX12_openThing 85 = .ok (.iadd, 1) := by decide +kernel
theorem dX12_openThing_86 : decode cX12_openThing 86 = .ok (.putfield 279, 3) := by decide +kernel
theorem dX12_openThing_89 : decode cX12_openThing 89 = .ok (.return_, 1) := by decide +kernel
set_option maxHeartbeats 4000000 in
set_option maxRecDepth 100000 in
theorem m_X12_openThing (l : Launch) {Z : pZ} (S : pSh Z) {h : pH} (I : Iv Z h) (kind : Int32) (area : Int32) (number : Int32) (hk : 0 ≤ kind.toInt ∧ kind.toInt ≤ 4) (ha : -1 ≤ area.toInt ∧ area.toInt ≤ 39) (hn : 0 ≤ number.toInt ∧ number.toInt ≤ 8) (ho : (h 137 56).toInt ≤ 39) : pMet l yX12_openThing cX12_openThing 5 none 0 0 0 0 Z h [.ref (zB Z + 137), .int kind, .int area, .int number] (pQv Z (fun Z1 h1 => Z = Z1 ∧ Iv Z h1 ∧ agr [(137, 56), (162, 1000), (163, 1000), (165, 1000), (166, 1000), (164, 1000)] h h1 ∧ (h1 162 = upd (h 162) (h 137 56).toNatClampNeg kind) ∧ (h1 163 = upd (h 163) (h 137 56).toNatClampNeg (h 137 58)) ∧ (h1 165 = upd (h 165) (h 137 56).toNatClampNeg area) ∧ (h1 166 = upd (h 166) (h 137 56).toNatClampNeg number) ∧ ((h 137 56).toInt + (1) ≤ (h1 137 56).toInt ∧ (h1 137 56).toInt ≤ (h 137 56).toInt + (1)))) := by
  refine pOfW (lv := [(0, .ref (zB Z + 137)), (1, .int kind), (2, .int area), (3, .int number)]) (by decide) (Nat.le_of_ble_eq_true rfl) rfl ?_
  intro p e s m below meth c ls M hr hlk hnm V hl
  have hx := M.1.1
  have hb := M.1.2.1
  have A : agr [] h h := agr.rf
  have i_56 : 0 ≤ (h 137 56).toInt ∧ (h 137 56).toInt ≤ 40 := I.get (sm_this S) 56
  have J_46 : ∀ (n9 : Nat) (x46_4 : Int32) (hJ : pH) (H : Heap) (locs : List Loc) (ls : Array Slot), pV Z hJ s.heap H locs → Iv Z hJ → agr [(162, 1000), (163, 1000), (164, 1000), (165, 1000), (166, 1000)] h hJ → lv_has ls 5 [(0, .ref (zB Z + 137)), (1, .int kind), (2, .int area), (3, .int number), (4, .int x46_4)] → (0 ≤ x46_4.toInt ∧ x46_4.toInt ≤ 4) → ((h 137 56).toInt + (0) ≤ (hJ 137 56).toInt ∧ (hJ 137 56).toInt ≤ (h 137 56).toInt + (0)) → (hJ 162 = upd (h 162) (h 137 56).toNatClampNeg kind) → (hJ 163 = upd (h 163) (h 137 56).toNatClampNeg (h 137 58)) → (hJ 165 = upd (h 165) (h 137 56).toNatClampNeg area) → (hJ 166 = upd (h 166) (h 137 56).toNatClampNeg number) → (4 - x46_4.toInt).toNat < n9 → W p l e (pRm 0 0 0 0) s m ([.ref (zB Z + 137), .int kind, .int area, .int number] : List Value).toArray below meth c H locs 0 0 (MQ below (pQv Z (fun Z1 h1 => Z = Z1 ∧ Iv Z h1 ∧ agr [(137, 56), (162, 1000), (163, 1000), (165, 1000), (166, 1000), (164, 1000)] h h1 ∧ (h1 162 = upd (h 162) (h 137 56).toNatClampNeg kind) ∧ (h1 163 = upd (h 163) (h 137 56).toNatClampNeg (h 137 58)) ∧ (h1 165 = upd (h 165) (h 137 56).toNatClampNeg area) ∧ (h1 166 = upd (h 166) (h 137 56).toNatClampNeg number) ∧ ((h 137 56).toInt + (1) ≤ (h1 137 56).toInt ∧ (h1 137 56).toInt ≤ (h 137 56).toInt + (1)))) ([.ref (zB Z + 137), .int kind, .int area, .int number] : List Value).toArray s 0 0 (pA (zB Z))) (F0 m 46 ls []) := by
    intro n9
    induction n9 with
    | zero => intro x46_4 hJ H locs ls V I A hl g_46_4 gd_46_56 gr162 gr163 gr165 gr166 hm9; exact absurd hm9 (Nat.not_lt_zero _)
    | succ n9 ih_46 =>
      intro x46_4 hJ H locs ls V I A hl g_46_4 gd_46_56 gr162 gr163 gr165 gr166 hm9
      refine lv_iload hx hb dX12_openThing_46 (lv_at hl 4 rfl) ?_
      refine lv_iconst (v := 4) hx hb dX12_openThing_48 (by decide) ?_
      refine lv_icmp_ge (tgt := 79) hx hb dX12_openThing_49 (by decide) (fun c_49 => ?_) (fun c_49 => ?_)
      · skip
        have k_4 : (4 : Int32).toInt = 4 := rfl
        have c_49 := pi_le.mp c_49
        refine lv_aload_n hx hb dX12_openThing_79 rfl (lv_at hl 0 rfl) ?_
        refine lv_dup hx hb dX12_openThing_80 rfl ?_
        refine pg_i M V 12 56 (sm_this S) pC12 fk12_56 lkF_X12_279 dX12_openThing_81 ?_
        refine lv_topi (fun v1 ev1 => ?_)
        have tv1 : 0 ≤ v1.toInt ∧ v1.toInt ≤ 40 := by rw [ev1]; exact I.get (sm_this S) 56
        have uv1 : v1.toInt = (hJ 137 56).toInt := congrArg Int32.toInt ev1
        refine lv_iconst (v := 1) hx hb dX12_openThing_84 (by decide) ?_
        refine lv_iadd hx hb dX12_openThing_85 ?_
        refine lv_topi (fun v2 ev2 => ?_)
        refine pp_i M V 12 56 (sm_this S) pC12 fk12_56 rfl lkF_X12_279 ⟨rfl, rfl⟩ dX12_openThing_86 (fun H locs V => ?_)
        have A := A.wk (l3 := [(162, 1000), (163, 1000), (164, 1000), (165, 1000), (166, 1000), (137, 56)]) (by decide)
        have A := A.up (o := 137) (k := 56) (v := v2) (by decide)
        have k_1 : (1 : Int32).toInt = 1 := rfl
        have tv2 : v2.toInt = v1.toInt + 1 := by rw [ev2]; have z9 := pi_add (x := v1) (y := (1 : Int32)); rw [k_1] at z9; exact z9 (by omega)
        have I := I.up (k := 56) (v := v2) (sm_this S) (show (0 : Int) ≤ v2.toInt ∧ v2.toInt ≤ (40 : Int) by omega)
        exact pe_v M V rfl rfl hr hlk ⟨rfl, I, A.wk (by decide), gr162, gr163, gr165, gr166, (show (h 137 56).toInt + (1) ≤ v2.toInt ∧ v2.toInt ≤ (h 137 56).toInt + (1) by omega)⟩ ⟨Nat.le_refl _, Nat.le_refl _⟩ dX12_openThing_89
      · skip
        have k_4 : (4 : Int32).toInt = 4 := rfl
        have c_49 := pi_le' c_49
        refine lv_aload_n hx hb dX12_openThing_52 rfl (lv_at hl 0 rfl) ?_
        refine pg_r M V 12 53 (sm_this S) pC12 fk12_53 (sm_openClip S).2.2 lkF_X12_99 dX12_openThing_53 ?_
        refine lv_iconst (v := 4) hx hb dX12_openThing_56 (by decide) ?_
        refine lv_aload_n hx hb dX12_openThing_57 rfl (lv_at hl 0 rfl) ?_
        refine pg_i M V 12 56 (sm_this S) pC12 fk12_56 lkF_X12_279 dX12_openThing_58 ?_
        refine lv_topi (fun v3 ev3 => ?_)
        have tv3 : 0 ≤ v3.toInt ∧ v3.toInt ≤ 40 := by rw [ev3]; exact I.get (sm_this S) 56
        have uv3 : v3.toInt = (hJ 137 56).toInt := congrArg Int32.toInt ev3
        refine lv_imul hx hb dX12_openThing_61 ?_
        refine lv_topi (fun v4 ev4 => ?_)
        refine lv_iload hx hb dX12_openThing_62 (lv_at hl 4 rfl) ?_
        refine lv_iadd hx hb dX12_openThing_64 ?_
        refine lv_topi (fun v5 ev5 => ?_)
        refine lv_aload_n hx hb dX12_openThing_65 rfl (lv_at hl 0 rfl) ?_
        refine pg_r M V 12 72 (sm_this S) pC12 fk12_72 (sm_clip S).2.2 lkF_X12_147 dX12_openThing_66 ?_
        refine lv_iload hx hb dX12_openThing_69 (lv_at hl 4 rfl) ?_
        refine pa_i M V (sm_clip S).1 (by rw [(sm_clip S).2.1]; exact pi_in (by omega)) dX12_openThing_71 ?_
        refine lv_topi (fun v6 ev6 => ?_)
        have tv4 : v4.toInt = 4 * v3.toInt := by rw [ev4]; have z9 := pi_mul (x := (4 : Int32)) (y := v3); rw [k_4] at z9; exact z9 (by omega)
        have tv5 : v5.toInt = v4.toInt + x46_4.toInt := by rw [ev5]; exact pi_add (by omega)
        refine ps_i M V (sm_openClip S).1 (by rw [(sm_openClip S).2.1]; exact pi_in (by omega)) dX12_openThing_72 (fun H locs V => ?_)
        have A := A.upA (o := 164) (k := v5.toNatClampNeg) (v := v6) (by decide)
        have I := I.up (k := v5.toNatClampNeg) (v := v6) (sm_openClip S).1 (pi_full _)
        obtain ⟨v7, ev7⟩ : ∃ y : Int32, y = x46_4 + 1 := ⟨_, rfl⟩
        refine lv_iinc (v := v7) (lv' := [(4, .int v7), (0, .ref (zB Z + 137)), (1, .int kind), (2, .int area), (3, .int number)]) hx hb dX12_openThing_73 hl (k := 4) rfl (by rw [ev7]; rfl) (by decide) rfl (fun ls hl => ?_)
        refine lv_goto (tgt := 46) hx hb dX12_openThing_76 (by decide) ?_
        have k_1 : (1 : Int32).toInt = 1 := rfl
        have tv7 : v7.toInt = x46_4.toInt + 1 := by rw [ev7]; have z9 := pi_add (x := x46_4) (y := (1 : Int32)); rw [k_1] at z9; exact z9 (by omega)
        exact ih_46 v7 _ _ _ _ V I (A.wk (by decide)) (lv_sub hl [1, 2, 3, 4, 0] rfl) (by omega) (show (h 137 56).toInt + (0) ≤ (hJ 137 56).toInt ∧ (hJ 137 56).toInt ≤ (h 137 56).toInt + (0) by omega) gr162 gr163 gr165 gr166 (by omega) 
  refine lv_aload_n hx hb dX12_openThing_0 rfl (lv_at hl 0 rfl) ?_
  refine pg_r M V 12 51 (sm_this S) pC12 fk12_51 (sm_openKind S).2.2 lkF_X12_93 dX12_openThing_1 ?_
  refine lv_aload_n hx hb dX12_openThing_4 rfl (lv_at hl 0 rfl) ?_
  refine pg_i M V 12 56 (sm_this S) pC12 fk12_56 lkF_X12_279 dX12_openThing_5 ?_
  refine lv_topi (fun v8 ev8 => ?_)
  have tv8 : 0 ≤ v8.toInt ∧ v8.toInt ≤ 40 := by rw [ev8]; exact I.get (sm_this S) 56
  have uv8 : v8.toInt = (h 137 56).toInt := congrArg Int32.toInt ev8
  refine lv_iload_n hx hb dX12_openThing_8 rfl (lv_at hl 1 rfl) ?_
  refine ps_i M V (sm_openKind S).1 (by rw [(sm_openKind S).2.1]; exact pi_in (by omega)) dX12_openThing_9 (fun H locs V => ?_)
  have A := A.wk (l3 := [(162, 1000)]) (by decide)
  have A := A.upA (o := 162) (k := v8.toNatClampNeg) (v := kind) (by decide)
  have I := I.up (k := v8.toNatClampNeg) (v := kind) (sm_openKind S).1 (show (0 : Int) ≤ kind.toInt ∧ kind.toInt ≤ (4 : Int) by omega)
  refine lv_aload_n hx hb dX12_openThing_10 rfl (lv_at hl 0 rfl) ?_
  refine pg_r M V 12 52 (sm_this S) pC12 fk12_52 (sm_openPile S).2.2 lkF_X12_96 dX12_openThing_11 ?_
  refine lv_aload_n hx hb dX12_openThing_14 rfl (lv_at hl 0 rfl) ?_
  refine pg_iv M V 12 56 (v := v8) (sm_this S) pC12 fk12_56 ev8.symm lkF_X12_279 dX12_openThing_15 ?_
  refine lv_aload_n hx hb dX12_openThing_18 rfl (lv_at hl 0 rfl) ?_
  refine pg_i M V 12 58 (sm_this S) pC12 fk12_58 lkF_X12_282 dX12_openThing_19 ?_
  refine lv_topi (fun v9 ev9 => ?_)
  have tv9 : 0 ≤ v9.toInt ∧ v9.toInt ≤ 40 := by rw [ev9]; exact I.get (sm_this S) 58
  refine ps_i M V (sm_openPile S).1 (by rw [(sm_openPile S).2.1]; exact pi_in (by omega)) dX12_openThing_22 (fun H locs V => ?_)
  have A := A.wk (l3 := [(162, 1000), (163, 1000)]) (by decide)
  have A := A.upA (o := 163) (k := v8.toNatClampNeg) (v := v9) (by decide)
  have I := I.up (k := v8.toNatClampNeg) (v := v9) (sm_openPile S).1 (show (0 : Int) ≤ v9.toInt ∧ v9.toInt ≤ (40 : Int) by omega)
  refine lv_aload_n hx hb dX12_openThing_23 rfl (lv_at hl 0 rfl) ?_
  refine pg_r M V 12 54 (sm_this S) pC12 fk12_54 (sm_openArea S).2.2 lkF_X12_102 dX12_openThing_24 ?_
  refine lv_aload_n hx hb dX12_openThing_27 rfl (lv_at hl 0 rfl) ?_
  refine pg_iv M V 12 56 (v := v8) (sm_this S) pC12 fk12_56 ev8.symm lkF_X12_279 dX12_openThing_28 ?_
  refine lv_iload_n hx hb dX12_openThing_31 rfl (lv_at hl 2 rfl) ?_
  refine ps_i M V (sm_openArea S).1 (by rw [(sm_openArea S).2.1]; exact pi_in (by omega)) dX12_openThing_32 (fun H locs V => ?_)
  have A := A.wk (l3 := [(162, 1000), (163, 1000), (165, 1000)]) (by decide)
  have A := A.upA (o := 165) (k := v8.toNatClampNeg) (v := area) (by decide)
  have I := I.up (k := v8.toNatClampNeg) (v := area) (sm_openArea S).1 (show (-1 : Int) ≤ area.toInt ∧ area.toInt ≤ (39 : Int) by omega)
  refine lv_aload_n hx hb dX12_openThing_33 rfl (lv_at hl 0 rfl) ?_
  refine pg_r M V 12 55 (sm_this S) pC12 fk12_55 (sm_openNumber S).2.2 lkF_X12_105 dX12_openThing_34 ?_
  refine lv_aload_n hx hb dX12_openThing_37 rfl (lv_at hl 0 rfl) ?_
  refine pg_iv M V 12 56 (v := v8) (sm_this S) pC12 fk12_56 ev8.symm lkF_X12_279 dX12_openThing_38 ?_
  refine lv_iload_n hx hb dX12_openThing_41 rfl (lv_at hl 3 rfl) ?_
  refine ps_i M V (sm_openNumber S).1 (by rw [(sm_openNumber S).2.1]; exact pi_in (by omega)) dX12_openThing_42 (fun H locs V => ?_)
  have A := A.wk (l3 := [(162, 1000), (163, 1000), (165, 1000), (166, 1000)]) (by decide)
  have A := A.upA (o := 166) (k := v8.toNatClampNeg) (v := number) (by decide)
  have I := I.up (k := v8.toNatClampNeg) (v := number) (sm_openNumber S).1 (show (0 : Int) ≤ number.toInt ∧ number.toInt ≤ (8 : Int) by omega)
  refine lv_iconst (v := 0) hx hb dX12_openThing_43 (by decide) ?_
  refine lv_istore (lv' := [(4, .int (0 : Int32)), (0, .ref (zB Z + 137)), (1, .int kind), (2, .int area), (3, .int number)]) hx hb dX12_openThing_44 hl (by decide) rfl (fun ls hl => ?_)
  have k_0 : (0 : Int32).toInt = 0 := rfl
  exact J_46 _ (0 : Int32) _ _ _ _ V I (A.wk (by decide)) (lv_sub hl [1, 2, 3, 4, 0] rfl) (by omega) (show (h 137 56).toInt + (0) ≤ (h 137 56).toInt ∧ (h 137 56).toInt ≤ (h 137 56).toInt + (0) by omega) (by rw [← (show v8 = h 137 56 from ev8)]; rfl) (by rw [← (show v8 = h 137 56 from ev8), ← (show v9 = h 137 58 from ev9)]; rfl) (by rw [← (show v8 = h 137 56 from ev8)]; rfl) (by rw [← (show v8 = h 137 56 from ev8)]; rfl) (Nat.lt_succ_self _) 
