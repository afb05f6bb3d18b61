theorem dX5_isDownHere_0 : decode cX5_isDownHere 0 = .ok (.iload_n 1, 1) := by decide +kernel
theorem dX5_isDownHere_1 : decode cX5_isDownHere 1 = .ok (.iconst 0, 1) := by decide +kernel
theorem dX5_isDownHere_2 : decode cX5_isDownHere 2 = .ok (.iconst 5, 1) := by decide +kernel
theorem dX5_isDownHere_3 : decode cX5_isDownHere 3 = .ok (.invokestatic 101, 3) := by decide +kernel
theorem dX5_isDownHere_6 : decode cX5_isDownHere 6 = .ok (.ifCond .eq 16, 3) := by decide +kernel
theorem dX5_isDownHere_9 : decode cX5_isDownHere 9 = .ok (.aload_n 0, 1) := by decide +kernel
theorem dX5_isDownHere_10 : decode cX5_isDownHere 10 = .ok (.getfield 22, 3) := by decide +kernel
theorem dX5_isDownHere_13 : decode cX5_isDownHere 13 = .ok (.iload_n 1, 1) := by decide +kernel
theorem dX5_isDownHere_14 : decode cX5_isDownHere 14 = .ok (.baload, 1) := by decide +kernel
theorem dX5_isDownHere_15 : decode cX5_isDownHere 15 = .ok (.ifCond .eq 7, 3) := by decide +kernel
theorem dX5_isDownHere_18 : decode cX5_isDownHere 18 = .ok (.iconst 1, 1) := by decide +kernel
theorem dX5_isDownHere_19 : decode cX5_isDownHere 19 = .ok (.goto 4, 3) := by decide +kernel
theorem dX5_isDownHere_22 : decode cX5_isDownHere 22 = .ok (.iconst 0, 1) := by decide +kernel
theorem dX5_isDownHere_23 : decode cX5_isDownHere 23 = .ok (.ireturn, 1) := by decide +kernel
set_option maxHeartbeats 4000000 in
set_option maxRecDepth 100000 in
theorem m_X5_isDownHere (l : Launch) {Z : pZ} (S : pSh Z) {h : pH} (I : Iv Z h) (key : Int32)  : pMet l yX5_isDownHere cX5_isDownHere 2 (some .boolean) 1 0 0 22 Z h [.ref (zB Z + 1), .int key] (pQi Z (fun r Z1 h1 => Z = Z1 ∧ Iv Z h1 ∧ agrD [] h h1 ∧ (r.toInt = 0 ∨ r.toInt = 1))) := by
  refine pOfW (lv := [(0, .ref (zB Z + 1)), (1, .int key)]) (by decide) (Nat.le_of_ble_eq_true rfl) rfl ?_
  intro p e s m below meth c ls M hr hlk hnm V hl
  have hx := M.1.1
  have hb := M.1.2.1
  have A : agrD [] h h := agrD.rf
  have J_23 : ∀ (y23_0 : Int32) (hJ : pH) (H : Heap) (locs : List Loc) (ls : Array Slot), pV Z hJ s.heap H locs → Iv Z hJ → agrD [] h hJ → lv_has ls 2 [(0, .ref (zB Z + 1)), (1, .int key)] → (0 ≤ y23_0.toInt ∧ y23_0.toInt ≤ 1) → W p l e (pRm 1 0 0 22) s m ([.ref (zB Z + 1), .int key] : List Value).toArray below meth c H locs 0 0 (MQ below (pQi Z (fun r Z1 h1 => Z = Z1 ∧ Iv Z h1 ∧ agrD [] h h1 ∧ (r.toInt = 0 ∨ r.toInt = 1))) ([.ref (zB Z + 1), .int key] : List Value).toArray s 0 0 (pA (zB Z))) (F0 m 23 ls [.int y23_0]) := by
    intro y23_0 hJ H locs ls V I A hl gs_23_0
    exact pe_i M V rfl rfl hr hlk (pn_z (pi_z (by omega))).1 ⟨rfl, I, A.wk (by decide), by omega⟩ ⟨Nat.le_refl _, Nat.le_refl _⟩ dX5_isDownHere_23
  have J_22 : ∀ (hJ : pH) (H : Heap) (locs : List Loc) (ls : Array Slot), pV Z hJ s.heap H locs → Iv Z hJ → agrD [] h hJ → lv_has ls 2 [(0, .ref (zB Z + 1)), (1, .int key)] → W p l e (pRm 1 0 0 22) s m ([.ref (zB Z + 1), .int key] : List Value).toArray below meth c H locs 0 0 (MQ below (pQi Z (fun r Z1 h1 => Z = Z1 ∧ Iv Z h1 ∧ agrD [] h h1 ∧ (r.toInt = 0 ∨ r.toInt = 1))) ([.ref (zB Z + 1), .int key] : List Value).toArray s 0 0 (pA (zB Z))) (F0 m 22 ls []) := by
    intro hJ H locs ls V I A hl
    refine lv_iconst (v := 0) hx hb dX5_isDownHere_22 (by decide) ?_
    have k_0 : (0 : Int32).toInt = 0 := rfl
    exact J_23 (0 : Int32) _ _ _ _ V I (A.wk (by decide)) (lv_sub hl [0, 1] rfl) (by omega) 
  refine lv_iload_n hx hb dX5_isDownHere_0 rfl (lv_at hl 1 rfl) ?_
  refine lv_iconst (v := 0) hx hb dX5_isDownHere_1 (by decide) ?_
  refine lv_iconst (v := 5) hx hb dX5_isDownHere_2 (by decide) ?_
  have k_0 : (0 : Int32).toInt = 0 := rfl
  have k_5 : (5 : Int32).toInt = 5 := rfl
  refine pk_i (pr_SN M V (m_X11_isWithin l (Z := Z) (h := _) key (0 : Int32) (5 : Int32)) km_X11_isWithin lkN_X5_101 rfl hl.1 rfl (Nat.le_of_ble_eq_true rfl) ⟨Nat.le_of_ble_eq_true rfl, Nat.le_of_ble_eq_true rfl⟩ ⟨Nat.le_of_ble_eq_true rfl, Nat.le_of_ble_eq_true rfl⟩ dX5_isDownHere_3) V (fun r1 Zr1 hr1 H locs pr1 _ _ V => ?_)
  obtain ⟨rfl, rfl, fr1_0⟩ := pr1
  refine lv_if_eq (tgt := 22) hx hb dX5_isDownHere_6 (by decide) (fun c_6 => ?_) (fun c_6 => ?_)
  · skip
    have c_6 := pi_eq.mp c_6
    exact J_22 _ _ _ _ V I (A.wk (by decide)) (lv_sub hl [0, 1] rfl) 
  · skip
    have c_6 := pi_ne c_6
    refine lv_aload_n hx hb dX5_isDownHere_9 rfl (lv_at hl 0 rfl) ?_
    refine pg_r M V 5 2 (c_is_1 S) pC5 fk5_2 (c_r_1_2 S) lkF_X5_22 dX5_isDownHere_10 ?_
    refine lv_iload_n hx hb dX5_isDownHere_13 rfl (lv_at hl 1 rfl) ?_
    refine pa_z M V (c_is_7 S) (by rw [c_n_7 S]; exact pi_in (by omega)) dX5_isDownHere_14 ?_
    refine lv_topi (fun v2 ev2 => ?_)
    have tv2 : 0 ≤ v2.toInt ∧ v2.toInt ≤ 1 := by rw [ev2]; exact I.get (c_is_7 S) _
    refine lv_if_eq (tgt := 22) hx hb dX5_isDownHere_15 (by decide) (fun c_15 => ?_) (fun c_15 => ?_)
    · skip
      have c_15 := pi_eq.mp c_15
      exact J_22 _ _ _ _ V I (A.wk (by decide)) (lv_sub hl [0, 1] rfl) 
    · skip
      have c_15 := pi_ne c_15
      refine lv_iconst (v := 1) hx hb dX5_isDownHere_18 (by decide) ?_
      refine lv_goto (tgt := 23) hx hb dX5_isDownHere_19 (by decide) ?_
      have k_1 : (1 : Int32).toInt = 1 := rfl
      exact J_23 (1 : Int32) _ _ _ _ V I (A.wk (by decide)) (lv_sub hl [0, 1] rfl) (by omega) 
theorem dX5_isUpHere_0 : decode cX5_isUpHere 0 = .ok (.iload_n 1, 1) := by decide +kernel
theorem dX5_isUpHere_1 : decode cX5_isUpHere 1 = .ok (.iconst 0, 1) := by decide +kernel
theorem dX5_isUpHere_2 : decode cX5_isUpHere 2 = .ok (.iconst 5, 1) := by decide +kernel
theorem dX5_isUpHere_3 : decode cX5_isUpHere 3 = .ok (.invokestatic 101, 3) := by decide +kernel
theorem dX5_isUpHere_6 : decode cX5_isUpHere 6 = .ok (.ifCond .eq 16, 3) := by decide +kernel
theorem dX5_isUpHere_9 : decode cX5_isUpHere 9 = .ok (.aload_n 0, 1) := by decide +kernel
theorem dX5_isUpHere_10 : decode cX5_isUpHere 10 = .ok (.getfield 25, 3) := by decide +kernel
theorem dX5_isUpHere_13 : decode cX5_isUpHere 13 = .ok (.iload_n 1, 1) := by decide +kernel
theorem dX5_isUpHere_14 : decode cX5_isUpHere 14 = .ok (.baload, 1) := by decide +kernel
theorem dX5_isUpHere_15 : decode cX5_isUpHere 15 = .ok (.ifCond .eq 7, 3) := by decide +kernel
theorem dX5_isUpHere_18 : decode cX5_isUpHere 18 = .ok (.iconst 1, 1) := by decide +kernel
theorem dX5_isUpHere_19 : decode cX5_isUpHere 19 = .ok (.goto 4, 3) := by decide +kernel
theorem dX5_isUpHere_22 : decode cX5_isUpHere 22 = .ok (.iconst 0, 1) := by decide +kernel
theorem dX5_isUpHere_23 : decode cX5_isUpHere 23 = .ok (.ireturn, 1) := by decide +kernel
set_option maxHeartbeats 4000000 in
set_option maxRecDepth 100000 in
theorem m_X5_isUpHere (l : Launch) {Z : pZ} (S : pSh Z) {h : pH} (I : Iv Z h) (key : Int32)  : pMet l yX5_isUpHere cX5_isUpHere 2 (some .boolean) 1 0 0 22 Z h [.ref (zB Z + 1), .int key] (pQi Z (fun r Z1 h1 => Z = Z1 ∧ Iv Z h1 ∧ agrD [] h h1 ∧ (r.toInt = 0 ∨ r.toInt = 1))) := by
  refine pOfW (lv := [(0, .ref (zB Z + 1)), (1, .int key)]) (by decide) (Nat.le_of_ble_eq_true rfl) rfl ?_
  intro p e s m below meth c ls M hr hlk hnm V hl
  have hx := M.1.1
  have hb := M.1.2.1
  have A : agrD [] h h := agrD.rf
  have J_23 : ∀ (y23_0 : Int32) (hJ : pH) (H : Heap) (locs : List Loc) (ls : Array Slot), pV Z hJ s.heap H locs → Iv Z hJ → agrD [] h hJ → lv_has ls 2 [(0, .ref (zB Z + 1)), (1, .int key)] → (0 ≤ y23_0.toInt ∧ y23_0.toInt ≤ 1) → W p l e (pRm 1 0 0 22) s m ([.ref (zB Z + 1), .int key] : List Value).toArray below meth c H locs 0 0 (MQ below (pQi Z (fun r Z1 h1 => Z = Z1 ∧ Iv Z h1 ∧ agrD [] h h1 ∧ (r.toInt = 0 ∨ r.toInt = 1))) ([.ref (zB Z + 1), .int key] : List Value).toArray s 0 0 (pA (zB Z))) (F0 m 23 ls [.int y23_0]) := by
    intro y23_0 hJ H locs ls V I A hl gs_23_0
    exact pe_i M V rfl rfl hr hlk (pn_z (pi_z (by omega))).1 ⟨rfl, I, A.wk (by decide), by omega⟩ ⟨Nat.le_refl _, Nat.le_refl _⟩ dX5_isUpHere_23
  have J_22 : ∀ (hJ : pH) (H : Heap) (locs : List Loc) (ls : Array Slot), pV Z hJ s.heap H locs → Iv Z hJ → agrD [] h hJ → lv_has ls 2 [(0, .ref (zB Z + 1)), (1, .int key)] → W p l e (pRm 1 0 0 22) s m ([.ref (zB Z + 1), .int key] : List Value).toArray below meth c H locs 0 0 (MQ below (pQi Z (fun r Z1 h1 => Z = Z1 ∧ Iv Z h1 ∧ agrD [] h h1 ∧ (r.toInt = 0 ∨ r.toInt = 1))) ([.ref (zB Z + 1), .int key] : List Value).toArray s 0 0 (pA (zB Z))) (F0 m 22 ls []) := by
    intro hJ H locs ls V I A hl
    refine lv_iconst (v := 0) hx hb dX5_isUpHere_22 (by decide) ?_
    have k_0 : (0 : Int32).toInt = 0 := rfl
    exact J_23 (0 : Int32) _ _ _ _ V I (A.wk (by decide)) (lv_sub hl [0, 1] rfl) (by omega) 
  refine lv_iload_n hx hb dX5_isUpHere_0 rfl (lv_at hl 1 rfl) ?_
  refine lv_iconst (v := 0) hx hb dX5_isUpHere_1 (by decide) ?_
  refine lv_iconst (v := 5) hx hb dX5_isUpHere_2 (by decide) ?_
  have k_0 : (0 : Int32).toInt = 0 := rfl
  have k_5 : (5 : Int32).toInt = 5 := rfl
  refine pk_i (pr_SN M V (m_X11_isWithin l (Z := Z) (h := _) key (0 : Int32) (5 : Int32)) km_X11_isWithin lkN_X5_101 rfl hl.1 rfl (Nat.le_of_ble_eq_true rfl) ⟨Nat.le_of_ble_eq_true rfl, Nat.le_of_ble_eq_true rfl⟩ ⟨Nat.le_of_ble_eq_true rfl, Nat.le_of_ble_eq_true rfl⟩ dX5_isUpHere_3) V (fun r1 Zr1 hr1 H locs pr1 _ _ V => ?_)
  obtain ⟨rfl, rfl, fr1_0⟩ := pr1
  refine lv_if_eq (tgt := 22) hx hb dX5_isUpHere_6 (by decide) (fun c_6 => ?_) (fun c_6 => ?_)
  · skip
    have c_6 := pi_eq.mp c_6
    exact J_22 _ _ _ _ V I (A.wk (by decide)) (lv_sub hl [0, 1] rfl) 
  · skip
    have c_6 := pi_ne c_6
    refine lv_aload_n hx hb dX5_isUpHere_9 rfl (lv_at hl 0 rfl) ?_
    refine pg_r M V 5 3 (c_is_1 S) pC5 fk5_3 (c_r_1_3 S) lkF_X5_25 dX5_isUpHere_10 ?_
    refine lv_iload_n hx hb dX5_isUpHere_13 rfl (lv_at hl 1 rfl) ?_
    refine pa_z M V (c_is_8 S) (by rw [c_n_8 S]; exact pi_in (by omega)) dX5_isUpHere_14 ?_
    refine lv_topi (fun v2 ev2 => ?_)
    have tv2 : 0 ≤ v2.toInt ∧ v2.toInt ≤ 1 := by rw [ev2]; exact I.get (c_is_8 S) _
    refine lv_if_eq (tgt := 22) hx hb dX5_isUpHere_15 (by decide) (fun c_15 => ?_) (fun c_15 => ?_)
    · skip
      have c_15 := pi_eq.mp c_15
      exact J_22 _ _ _ _ V I (A.wk (by decide)) (lv_sub hl [0, 1] rfl) 
    · skip
      have c_15 := pi_ne c_15
      refine lv_iconst (v := 1) hx hb dX5_isUpHere_18 (by decide) ?_
      refine lv_goto (tgt := 23) hx hb dX5_isUpHere_19 (by decide) ?_
      have k_1 : (1 : Int32).toInt = 1 := rfl
      exact J_23 (1 : Int32) _ _ _ _ V I (A.wk (by decide)) (lv_sub hl [0, 1] rfl) (by omega) 
theorem dX5_isWherePressed_0 : decode cX5_isWherePressed 0 = .ok (.aload_n 0, 1) := by decide +kernel
theorem dX5_isWherePressed_1 : decode cX5_isWherePressed 1 = .ok (.getfield 32, 3) := by decide +kernel
theorem dX5_isWherePressed_4 : decode cX5_isWherePressed 4 = .ok (.aload_n 0, 1) := by decide +kernel
theorem dX5_isWherePressed_5 : decode cX5_isWherePressed 5 = .ok (.getfield 95, 3) := by decide +kernel
theorem dX5_isWherePressed_8 : decode cX5_isWherePressed 8 = .ok (.if_icmp .ne 18, 3) := by decide +kernel
theorem dX5_isWherePressed_11 : decode cX5_isWherePressed 11 = .ok (.aload_n 0, 1) := by decide +kernel
theorem dX5_isWherePressed_12 : decode cX5_isWherePressed 12 = .ok (.getfield 36, 3) := by decide +kernel
theorem dX5_isWherePressed_15 : decode cX5_isWherePressed 15 = .ok (.aload_n 0, 1) := by decide +kernel
theorem dX5_isWherePressed_16 : decode cX5_isWherePressed 16 = .ok (.getfield 98, 3) := by decide +kernel
theorem dX5_isWherePressed_19 : decode cX5_isWherePressed 19 = .ok (.if_icmp .ne 7, 3) := by decide +kernel
theorem dX5_isWherePressed_22 : decode cX5_isWherePressed 22 = .ok (.iconst 1, 1) := by decide +kernel
theorem dX5_isWherePressed_23 : decode cX5_isWherePressed 23 = .ok (.goto 4, 3) := by decide +kernel
theorem dX5_isWherePressed_26 : decode cX5_isWherePressed 26 = .ok (.iconst 0, 1) := by decide +kernel
theorem dX5_isWherePressed_27 : decode cX5_isWherePressed 27 = .ok (.ireturn, 1) := by decide +kernel
set_option maxHeartbeats 4000000 in
set_option maxRecDepth 100000 in
theorem m_X5_isWherePressed (l : Launch) {Z : pZ} (S : pSh Z) {h : pH} (I : Iv Z h)  : pMet l yX5_isWherePressed cX5_isWherePressed 1 (some .boolean) 0 0 0 0 Z h [.ref (zB Z + 1)] (pQi Z (fun r Z1 h1 => Z = Z1 ∧ Iv Z h1 ∧ agrD [] h h1 ∧ (r.toInt = 0 ∨ r.toInt = 1))) := by
  refine pOfW (lv := [(0, .ref (zB Z + 1))]) (by decide) (Nat.le_of_ble_eq_true rfl) rfl ?_
  intro p e s m below meth c ls M hr hlk hnm V hl
  have hx := M.1.1
  have hb := M.1.2.1
  have A : agrD [] h h := agrD.rf
  have J_27 : ∀ (y27_0 : Int32) (hJ : pH) (H : Heap) (locs : List Loc) (ls : Array Slot), pV Z hJ s.heap H locs → Iv Z hJ → agrD [] h hJ → lv_has ls 1 [(0, .ref (zB Z + 1))] → (0 ≤ y27_0.toInt ∧ y27_0.toInt ≤ 1) → W p l e (pRm 0 0 0 0) s m ([.ref (zB Z + 1)] : List Value).toArray below meth c H locs 0 0 (MQ below (pQi Z (fun r Z1 h1 => Z = Z1 ∧ Iv Z h1 ∧ agrD [] h h1 ∧ (r.toInt = 0 ∨ r.toInt = 1))) ([.ref (zB Z + 1)] : List Value).toArray s 0 0 (pA (zB Z))) (F0 m 27 ls [.int y27_0]) := by
    intro y27_0 hJ H locs ls V I A hl gs_27_0
    exact pe_i M V rfl rfl hr hlk (pn_z (pi_z (by omega))).1 ⟨rfl, I, A.wk (by decide), by omega⟩ ⟨Nat.le_refl _, Nat.le_refl _⟩ dX5_isWherePressed_27
  have J_26 : ∀ (hJ : pH) (H : Heap) (locs : List Loc) (ls : Array Slot), pV Z hJ s.heap H locs → Iv Z hJ → agrD [] h hJ → lv_has ls 1 [(0, .ref (zB Z + 1))] → W p l e (pRm 0 0 0 0) s m ([.ref (zB Z + 1)] : List Value).toArray below meth c H locs 0 0 (MQ below (pQi Z (fun r Z1 h1 => Z = Z1 ∧ Iv Z h1 ∧ agrD [] h h1 ∧ (r.toInt = 0 ∨ r.toInt = 1))) ([.ref (zB Z + 1)] : List Value).toArray s 0 0 (pA (zB Z))) (F0 m 26 ls []) := by
    intro hJ H locs ls V I A hl
    refine lv_iconst (v := 0) hx hb dX5_isWherePressed_26 (by decide) ?_
    have k_0 : (0 : Int32).toInt = 0 := rfl
    exact J_27 (0 : Int32) _ _ _ _ V I (A.wk (by decide)) (lv_sub hl [0] rfl) (by omega) 
  refine lv_aload_n hx hb dX5_isWherePressed_0 rfl (lv_at hl 0 rfl) ?_
  refine pg_i M V 5 7 (c_is_1 S) pC5 fk5_7 lkF_X5_32 dX5_isWherePressed_1 ?_
  refine lv_topi (fun v1 ev1 => ?_)
  refine lv_aload_n hx hb dX5_isWherePressed_4 rfl (lv_at hl 0 rfl) ?_
  refine pg_i M V 5 11 (c_is_1 S) pC5 fk5_11 lkF_X5_95 dX5_isWherePressed_5 ?_
  refine lv_topi (fun v2 ev2 => ?_)
  refine lv_icmp_ne (tgt := 26) hx hb dX5_isWherePressed_8 (by decide) (fun c_8 => ?_) (fun c_8 => ?_)
  · skip
    have c_8 := pi_ne c_8
    exact J_26 _ _ _ _ V I (A.wk (by decide)) (lv_sub hl [0] rfl) 
  · skip
    have c_8 := pi_eq.mp c_8
    refine lv_aload_n hx hb dX5_isWherePressed_11 rfl (lv_at hl 0 rfl) ?_
    refine pg_i M V 5 8 (c_is_1 S) pC5 fk5_8 lkF_X5_36 dX5_isWherePressed_12 ?_
    refine lv_topi (fun v3 ev3 => ?_)
    refine lv_aload_n hx hb dX5_isWherePressed_15 rfl (lv_at hl 0 rfl) ?_
    refine pg_i M V 5 12 (c_is_1 S) pC5 fk5_12 lkF_X5_98 dX5_isWherePressed_16 ?_
    refine lv_topi (fun v4 ev4 => ?_)
    refine lv_icmp_ne (tgt := 26) hx hb dX5_isWherePressed_19 (by decide) (fun c_19 => ?_) (fun c_19 => ?_)
    · skip
      have c_19 := pi_ne c_19
      exact J_26 _ _ _ _ V I (A.wk (by decide)) (lv_sub hl [0] rfl) 
    · skip
      have c_19 := pi_eq.mp c_19
      refine lv_iconst (v := 1) hx hb dX5_isWherePressed_22 (by decide) ?_
      refine lv_goto (tgt := 27) hx hb dX5_isWherePressed_23 (by decide) ?_
      have k_1 : (1 : Int32).toInt = 1 := rfl
      exact J_27 (1 : Int32) _ _ _ _ V I (A.wk (by decide)) (lv_sub hl [0] rfl) (by omega) 
theorem dX5_takePress_0 : decode cX5_takePress 0 = .ok (.aload_n 0, 1) := by decide +kernel
theorem dX5_takePress_1 : decode cX5_takePress 1 = .ok (.getfield 84, 3) := by decide +kernel
theorem dX5_takePress_4 : decode cX5_takePress 4 = .ok (.ifCond .ne 29, 3) := by decide +kernel
theorem dX5_takePress_7 : decode cX5_takePress 7 = .ok (.aload_n 0, 1) := by decide +kernel
theorem dX5_takePress_8 : decode cX5_takePress 8 = .ok (.iconst 1, 1) := by decide +kernel
theorem dX5_takePress_9 : decode cX5_takePress 9 = .ok (.putfield 84, 3) := by decide +kernel
theorem dX5_takePress_12 : decode cX5_takePress 12 = .ok (.aload_n 0, 1) := by decide +kernel
theorem dX5_takePress_13 : decode cX5_takePress 13 = .ok (.iconst 1, 1) := by decide +kernel
theorem dX5_takePress_14 : decode cX5_takePress 14 = .ok (.putfield 74, 3) := by decide +kernel
theorem dX5_takePress_17 : decode cX5_takePress 17 = .ok (.aload_n 0, 1) := by decide +kernel
theorem dX5_takePress_18 : decode cX5_takePress 18 = .ok (.aload_n 0, 1) := by decide +kernel
theorem dX5_takePress_19 : decode cX5_takePress 19 = .ok (.getfield 32, 3) := by decide +kernel
theorem dX5_takePress_22 : decode cX5_takePress 22 = .ok (.putfield 95, 3) := by decide +kernel
theorem dX5_takePress_25 : decode cX5_takePress 25 = .ok (.aload_n 0, 1) := by decide +kernel
theorem dX5_takePress_26 : decode cX5_takePress 26 = .ok (.aload_n 0, 1) := by decide +kernel
theorem dX5_takePress_27 : decode cX5_takePress 27 = .ok (.getfield 36, 3) := by decide +kernel
theorem dX5_takePress_30 : decode cX5_takePress 30 = .ok (.putfield 98, 3) := by decide +kernel
theorem dX5_takePress_33 : decode cX5_takePress 33 = .ok (.return_, 1) := by decide +kernel
set_option maxHeartbeats 4000000 in
set_option maxRecDepth 100000 in
theorem m_X5_takePress (l : Launch) {Z : pZ} (S : pSh Z) {h : pH} (I : Iv Z h)  : pMet l yX5_takePress cX5_takePress 1 none 0 0 0 0 Z h [.ref (zB Z + 1)] (pQv Z (fun Z1 h1 => Z = Z1 ∧ Iv Z h1 ∧ agrD [(1, 1000)] h h1)) := by
  refine pOfW (lv := [(0, .ref (zB Z + 1))]) (by decide) (Nat.le_of_ble_eq_true rfl) rfl ?_
  intro p e s m below meth c ls M hr hlk hnm V hl
  have hx := M.1.1
  have hb := M.1.2.1
  have A : agrD [] h h := agrD.rf
  have J_33 : ∀ (hJ : pH) (H : Heap) (locs : List Loc) (ls : Array Slot), pV Z hJ s.heap H locs → Iv Z hJ → agrD [(1, 11), (1, 12), (1, 13), (1, 14)] h hJ → lv_has ls 1 [(0, .ref (zB Z + 1))] → W p l e (pRm 0 0 0 0) s m ([.ref (zB Z + 1)] : List Value).toArray below meth c H locs 0 0 (MQ below (pQv Z (fun Z1 h1 => Z = Z1 ∧ Iv Z h1 ∧ agrD [(1, 1000)] h h1)) ([.ref (zB Z + 1)] : List Value).toArray s 0 0 (pA (zB Z))) (F0 m 33 ls []) := by
    intro hJ H locs ls V I A hl
    exact pe_v M V rfl rfl hr hlk ⟨rfl, I, A.wk (by decide)⟩ ⟨Nat.le_refl _, Nat.le_refl _⟩ dX5_takePress_33
  refine lv_aload_n hx hb dX5_takePress_0 rfl (lv_at hl 0 rfl) ?_
  refine pg_i M V 5 13 (c_is_1 S) pC5 fk5_13 lkF_X5_84 dX5_takePress_1 ?_
  refine lv_topi (fun v1 ev1 => ?_)
  have tv1 : 0 ≤ v1.toInt ∧ v1.toInt ≤ 1 := by rw [ev1]; exact I.get (c_is_1 S) 13
  refine lv_if_ne (tgt := 33) hx hb dX5_takePress_4 (by decide) (fun c_4 => ?_) (fun c_4 => ?_)
  · skip
    have k_0 : (0 : Int32).toInt = 0 := rfl
    have c_4 := pi_ne c_4
    exact J_33 _ _ _ _ V I (A.wk (by decide)) (lv_sub hl [0] rfl) 
  · skip
    have k_0 : (0 : Int32).toInt = 0 := rfl
    have c_4 := pi_eq.mp c_4
    refine lv_aload_n hx hb dX5_takePress_7 rfl (lv_at hl 0 rfl) ?_
    refine lv_iconst (v := 1) hx hb dX5_takePress_8 (by decide) ?_
    have k_1 : (1 : Int32).toInt = 1 := rfl
    have z_9 : (1 : Int32) = 0 ∨ (1 : Int32) = 1 := pi_z (by omega)
    refine pp_i M V 5 13 (c_is_1 S) pC5 fk5_13 rfl lkF_X5_84 ⟨(pn_z z_9).1, (pn_z z_9).2.1⟩ dX5_takePress_9 (fun H locs V => ?_)
    have A := A.wk (l3 := [(1, 13)]) (by decide)
    have A := A.up (o := 1) (k := 13) (v := (1 : Int32)) (by decide)
    have I := I.up (k := 13) (v := (1 : Int32)) (c_is_1 S) (show (0 : Int) ≤ (1 : Int32).toInt ∧ (1 : Int32).toInt ≤ (1 : Int) by omega)
    refine lv_aload_n hx hb dX5_takePress_12 rfl (lv_at hl 0 rfl) ?_
    refine lv_iconst (v := 1) hx hb dX5_takePress_13 (by decide) ?_
    have z_14 : (1 : Int32) = 0 ∨ (1 : Int32) = 1 := pi_z (by omega)
    refine pp_i M V 5 14 (c_is_1 S) pC5 fk5_14 rfl lkF_X5_74 ⟨(pn_z z_14).1, (pn_z z_14).2.1⟩ dX5_takePress_14 (fun H locs V => ?_)
    have A := A.wk (l3 := [(1, 13), (1, 14)]) (by decide)
    have A := A.up (o := 1) (k := 14) (v := (1 : Int32)) (by decide)
    have I := I.up (k := 14) (v := (1 : Int32)) (c_is_1 S) (show (0 : Int) ≤ (1 : Int32).toInt ∧ (1 : Int32).toInt ≤ (1 : Int) by omega)
    refine lv_aload_n hx hb dX5_takePress_17 rfl (lv_at hl 0 rfl) ?_
    refine lv_aload_n hx hb dX5_takePress_18 rfl (lv_at hl 0 rfl) ?_
    refine pg_i M V 5 7 (c_is_1 S) pC5 fk5_7 lkF_X5_32 dX5_takePress_19 ?_
    refine lv_topi (fun v2 ev2 => ?_)
    refine pp_i M V 5 11 (c_is_1 S) pC5 fk5_11 rfl lkF_X5_95 ⟨rfl, rfl⟩ dX5_takePress_22 (fun H locs V => ?_)
    have A := A.wk (l3 := [(1, 13), (1, 14), (1, 11)]) (by decide)
    have A := A.up (o := 1) (k := 11) (v := v2) (by decide)
    have I := I.up (k := 11) (v := v2) (c_is_1 S) (pi_full _)
    refine lv_aload_n hx hb dX5_takePress_25 rfl (lv_at hl 0 rfl) ?_
    refine lv_aload_n hx hb dX5_takePress_26 rfl (lv_at hl 0 rfl) ?_
    refine pg_i M V 5 8 (c_is_1 S) pC5 fk5_8 lkF_X5_36 dX5_takePress_27 ?_
    refine lv_topi (fun v3 ev3 => ?_)
    refine pp_i M V 5 12 (c_is_1 S) pC5 fk5_12 rfl lkF_X5_98 ⟨rfl, rfl⟩ dX5_takePress_30 (fun H locs V => ?_)
    have A := A.wk (l3 := [(1, 13), (1, 14), (1, 11), (1, 12)]) (by decide)
    have A := A.up (o := 1) (k := 12) (v := v3) (by decide)
    have I := I.up (k := 12) (v := v3) (c_is_1 S) (pi_full _)
    exact J_33 _ _ _ _ V I (A.wk (by decide)) (lv_sub hl [0] rfl) 
theorem dX5_takeLetter_0 : decode cX5_takeLetter 0 = .ok (.aload_n 0, 1) := by decide +kernel
theorem dX5_takeLetter_1 : decode cX5_takeLetter 1 = .ok (.getfield 68, 3) := by decide +kernel
theorem dX5_takeLetter_4 : decode cX5_takeLetter 4 = .ok (.bipush 16, 2) := by decide +kernel
theorem dX5_takeLetter_6 : decode cX5_takeLetter 6 = .ok (.if_icmp .ge 23, 3) := by decide +kernel
theorem dX5_takeLetter_9 : decode cX5_takeLetter 9 = .ok (.aload_n 0, 1) := by decide +kernel
theorem dX5_takeLetter_10 : decode cX5_takeLetter 10 = .ok (.getfield 28, 3) := by decide +kernel
theorem dX5_takeLetter_13 : decode cX5_takeLetter 13 = .ok (.aload_n 0, 1) := by decide +kernel
theorem dX5_takeLetter_14 : decode cX5_takeLetter 14 = .ok (.getfield 68, 3) := by decide +kernel
theorem dX5_takeLetter_17 : decode cX5_takeLetter 17 = .ok (.iload_n 1, 1) := by decide +kernel
theorem dX5_takeLetter_18 : decode cX5_takeLetter 18 = .ok (.iastore, 1) := by decide +kernel
theorem dX5_takeLetter_19 : decode cX5_takeLetter 19 = .ok (.aload_n 0, 1) := by decide +kernel
theorem dX5_takeLetter_20 : decode cX5_takeLetter 20 = .ok (.dup, 1) := by decide +kernel
theorem dX5_takeLetter_21 : decode cX5_takeLetter 21 = .ok (.getfield 68, 3) := by decide +kernel
theorem dX5_takeLetter_24 : decode cX5_takeLetter 24 = .ok (.iconst 1, 1) := by decide +kernel
theorem dX5_takeLetter_25 : decode cX5_takeLetter 25 = .ok (.iadd, 1) := by decide +kernel
theorem dX5_takeLetter_26 : decode cX5_takeLetter 26 = .ok (.putfield 68, 3) := by decide +kernel
theorem dX5_takeLetter_29 : decode cX5_takeLetter 29 = .ok (.return_, 1) := by decide +kernel
set_option maxHeartbeats 4000000 in
set_option maxRecDepth 100000 in
theorem m_X5_takeLetter (l : Launch) {Z : pZ} (S : pSh Z) {h : pH} (I : Iv Z h) (letter : Int32)  : pMet l yX5_takeLetter cX5_takeLetter 2 none 0 0 0 0 Z h [.ref (zB Z + 1), .int letter] (pQv Z (fun Z1 h1 => Z = Z1 ∧ Iv Z h1 ∧ agrD [(1, 5), (9, 1000)] h h1)) := by
  refine pOfW (lv := [(0, .ref (zB Z + 1)), (1, .int letter)]) (by decide) (Nat.le_of_ble_eq_true rfl) rfl ?_
  intro p e s m below meth c ls M hr hlk hnm V hl
  have hx := M.1.1
  have hb := M.1.2.1
  have A : agrD [] h h := agrD.rf
  have J_29 : ∀ (hJ : pH) (H : Heap) (locs : List Loc) (ls : Array Slot), pV Z hJ s.heap H locs → Iv Z hJ → agrD [(1, 5), (9, 1000)] h hJ → lv_has ls 2 [(0, .ref (zB Z + 1)), (1, .int letter)] → W p l e (pRm 0 0 0 0) s m ([.ref (zB Z + 1), .int letter] : List Value).toArray below meth c H locs 0 0 (MQ below (pQv Z (fun Z1 h1 => Z = Z1 ∧ Iv Z h1 ∧ agrD [(1, 5), (9, 1000)] h h1)) ([.ref (zB Z + 1), .int letter] : List Value).toArray s 0 0 (pA (zB Z))) (F0 m 29 ls []) := by
    intro hJ H locs ls V I A hl
    exact pe_v M V rfl rfl hr hlk ⟨rfl, I, A.wk (by decide)⟩ ⟨Nat.le_refl _, Nat.le_refl _⟩ dX5_takeLetter_29
  refine lv_aload_n hx hb dX5_takeLetter_0 rfl (lv_at hl 0 rfl) ?_
  refine pg_i M V 5 5 (c_is_1 S) pC5 fk5_5 lkF_X5_68 dX5_takeLetter_1 ?_
  refine lv_topi (fun v1 ev1 => ?_)
  have tv1 : 0 ≤ v1.toInt ∧ v1.toInt ≤ 16 := by rw [ev1]; exact I.get (c_is_1 S) 5
  refine lv_bipush (v := 16) hx hb dX5_takeLetter_4 (by decide) ?_
  refine lv_icmp_ge (tgt := 29) hx hb dX5_takeLetter_6 (by decide) (fun c_6 => ?_) (fun c_6 => ?_)
  · skip
    have k_16 : (16 : Int32).toInt = 16 := rfl
    have c_6 := pi_le.mp c_6
    exact J_29 _ _ _ _ V I (A.wk (by decide)) (lv_sub hl [0, 1] rfl) 
  · skip
    have k_16 : (16 : Int32).toInt = 16 := rfl
    have c_6 := pi_le' c_6
    refine lv_aload_n hx hb dX5_takeLetter_9 rfl (lv_at hl 0 rfl) ?_
    refine pg_r M V 5 4 (c_is_1 S) pC5 fk5_4 (c_r_1_4 S) lkF_X5_28 dX5_takeLetter_10 ?_
    refine lv_aload_n hx hb dX5_takeLetter_13 rfl (lv_at hl 0 rfl) ?_
    refine pg_iv M V 5 5 (v := v1) (c_is_1 S) pC5 fk5_5 ev1.symm lkF_X5_68 dX5_takeLetter_14 ?_
    refine lv_iload_n hx hb dX5_takeLetter_17 rfl (lv_at hl 1 rfl) ?_
    refine ps_i M V (c_is_9 S) (by rw [c_n_9 S]; exact pi_in (by omega)) dX5_takeLetter_18 (fun H locs V => ?_)
    have A := A.wk (l3 := [(9, 1000)]) (by decide)
    have A := A.upA (o := 9) (k := v1.toNatClampNeg) (v := letter) (by decide)
    have I := I.up (k := v1.toNatClampNeg) (v := letter) (c_is_9 S) (pi_full _)
    refine lv_aload_n hx hb dX5_takeLetter_19 rfl (lv_at hl 0 rfl) ?_
    refine lv_dup hx hb dX5_takeLetter_20 rfl ?_
    refine pg_iv M V 5 5 (v := v1) (c_is_1 S) pC5 fk5_5 ev1.symm lkF_X5_68 dX5_takeLetter_21 ?_
    refine lv_iconst (v := 1) hx hb dX5_takeLetter_24 (by decide) ?_
    refine lv_iadd hx hb dX5_takeLetter_25 ?_
    refine lv_topi (fun v2 ev2 => ?_)
    refine pp_i M V 5 5 (c_is_1 S) pC5 fk5_5 rfl lkF_X5_68 ⟨rfl, rfl⟩ dX5_takeLetter_26 (fun H locs V => ?_)
    have A := A.wk (l3 := [(9, 1000), (1, 5)]) (by decide)
    have A := A.up (o := 1) (k := 5) (v := v2) (by decide)
    have k_1 : (1 : Int32).toInt = 1 := rfl
    have tv2 : v2.toInt = v1.toInt + 1 := by rw [ev2]; have z9 := pi_add (x := v1) (y := (1 : Int32)); rw [k_1] at z9; exact z9 (by omega)
    have I := I.up (k := 5) (v := v2) (c_is_1 S) (show (0 : Int) ≤ v2.toInt ∧ v2.toInt ≤ (16 : Int) by omega)
    exact J_29 _ _ _ _ V I (A.wk (by decide)) (lv_sub hl [0, 1] rfl) 
theorem dX5_forgetFrame_0 : decode cX5_forgetFrame 0 = .ok (.aload_n 0, 1) := by decide +kernel
theorem dX5_forgetFrame_1 : decode cX5_forgetFrame 1 = .ok (.iconst 0, 1) := by decide +kernel
theorem dX5_forgetFrame_2 : decode cX5_forgetFrame 2 = .ok (.putfield 68, 3) := by decide +kernel
theorem dX5_forgetFrame_5 : decode cX5_forgetFrame 5 = .ok (.aload_n 0, 1) := by decide +kernel
theorem dX5_forgetFrame_6 : decode cX5_forgetFrame 6 = .ok (.iconst 0, 1) := by decide +kernel
theorem dX5_forgetFrame_7 : decode cX5_forgetFrame 7 = .ok (.putfield 71, 3) := by decide +kernel
theorem dX5_forgetFrame_10 : decode cX5_forgetFrame 10 = .ok (.aload_n 0, 1) := by decide +kernel
theorem dX5_forgetFrame_11 : decode cX5_forgetFrame 11 = .ok (.iconst 0, 1) := by decide +kernel
theorem dX5_forgetFrame_12 : decode cX5_forgetFrame 12 = .ok (.putfield 74, 3) := by decide +kernel
theorem dX5_forgetFrame_15 : decode cX5_forgetFrame 15 = .ok (.aload_n 0, 1) := by decide +kernel
theorem dX5_forgetFrame_16 : decode cX5_forgetFrame 16 = .ok (.iconst 0, 1) := by decide +kernel
theorem dX5_forgetFrame_17 : decode cX5_forgetFrame 17 = .ok (.putfield 78, 3) := by decide +kernel
theorem dX5_forgetFrame_20 : decode cX5_forgetFrame 20 = .ok (.iconst 0, 1) := by decide +kernel
theorem dX5_forgetFrame_21 : decode cX5_forgetFrame 21 = .ok (.istore_n 1, 1) := by decide +kernel
theorem dX5_forgetFrame_22 : decode cX5_forgetFrame 22 = .ok (.iload_n 1, 1) := by decide +kernel
theorem dX5_forgetFrame_23 : decode cX5_forgetFrame 23 = .ok (.bipush 6, 2) := by decide +kernel
theorem dX5_forgetFrame_25 : decode cX5_forgetFrame 25 = .ok (.if_icmp .ge 23, 3) := by decide +kernel
theorem dX5_forgetFrame_28 : decode cX5_forgetFrame 28 = .ok (.aload_n 0, 1) := by decide +kernel
theorem dX5_forgetFrame_29 : decode cX5_forgetFrame 29 = .ok (.getfield 22, 3) := by decide +kernel
theorem dX5_forgetFrame_32 : decode cX5_forgetFrame 32 = .ok (.iload_n 1, 1) := by decide +kernel
theorem dX5_forgetFrame_33 : decode cX5_forgetFrame 33 = .ok (.iconst 0, 1) := by decide +kernel
theorem dX5_forgetFrame_34 : decode cX5_forgetFrame 34 = .ok (.bastore, 1) := by decide +kernel
theorem dX5_forgetFrame_35 : decode cX5_forgetFrame 35 = .ok (.aload_n 0, 1) := by decide +kernel
theorem dX5_forgetFrame_36 : decode cX5_forgetFrame 36 = .ok (.getfield 25, 3) := by decide +kernel
theorem dX5_forgetFrame_39 : decode cX5_forgetFrame 39 = .ok (.iload_n 1, 1) := by decide +kernel
theorem dX5_forgetFrame_40 : decode cX5_forgetFrame 40 = .ok (.iconst 0, 1) := by decide +kernel
theorem dX5_forgetFrame_41 : decode cX5_forgetFrame 41 = .ok (.bastore, 1) := by decide +kernel
theorem dX5_forgetFrame_42 : decode cX5_forgetFrame 42 = .ok (.iinc 1 1, 3) := by decide +kernel
theorem dX5_forgetFrame_45 : decode cX5_forgetFrame 45 = .ok (.goto (-23), 3) := by decide +kernel
theorem dX5_forgetFrame_48 : decode cX5_forgetFrame 48 = .ok (.return_, 1) := by decide +kernel
set_option maxHeartbeats 4000000 in
set_option maxRecDepth 100000 in
theorem m_X5_forgetFrame (l : Launch) {Z : pZ} (S : pSh Z) {h : pH} (I : Iv Z h)  : pMet l yX5_forgetFrame cX5_forgetFrame 2 none 0 0 0 0 Z h [.ref (zB Z + 1)] (pQv Z (fun Z1 h1 => Z = Z1 ∧ Iv Z h1 ∧ agrD [(1, 1000), (7, 1000), (8, 1000)] h h1)) := by
  refine pOfW (lv := [(0, .ref (zB Z + 1))]) (by decide) (Nat.le_of_ble_eq_true rfl) rfl ?_
  intro p e s m below meth c ls M hr hlk hnm V hl
  have hx := M.1.1
  have hb := M.1.2.1
  have A : agrD [] h h := agrD.rf
  have J_22 : ∀ (n9 : Nat) (x22_1 : Int32) (hJ : pH) (H : Heap) (locs : List Loc) (ls : Array Slot), pV Z hJ s.heap H locs → Iv Z hJ → agrD [(1, 5), (1, 6), (1, 14), (1, 15), (7, 1000), (8, 1000)] h hJ → lv_has ls 2 [(0, .ref (zB Z + 1)), (1, .int x22_1)] → (0 ≤ x22_1.toInt ∧ x22_1.toInt ≤ 6) → (6 - x22_1.toInt).toNat < n9 → W p l e (pRm 0 0 0 0) s m ([.ref (zB Z + 1)] : List Value).toArray below meth c H locs 0 0 (MQ below (pQv Z (fun Z1 h1 => Z = Z1 ∧ Iv Z h1 ∧ agrD [(1, 1000), (7, 1000), (8, 1000)] h h1)) ([.ref (zB Z + 1)] : List Value).toArray s 0 0 (pA (zB Z))) (F0 m 22 ls []) := by
    intro n9
    induction n9 with
    | zero => intro x22_1 hJ H locs ls V I A hl g_22_1 hm9; exact absurd hm9 (Nat.not_lt_zero _)
    | succ n9 ih_22 =>
      intro x22_1 hJ H locs ls V I A hl g_22_1 hm9
      refine lv_iload_n hx hb dX5_forgetFrame_22 rfl (lv_at hl 1 rfl) ?_
      refine lv_bipush (v := 6) hx hb dX5_forgetFrame_23 (by decide) ?_
      refine lv_icmp_ge (tgt := 48) hx hb dX5_forgetFrame_25 (by decide) (fun c_25 => ?_) (fun c_25 => ?_)
      · skip
        have k_6 : (6 : Int32).toInt = 6 := rfl
        have c_25 := pi_le.mp c_25
        exact pe_v M V rfl rfl hr hlk ⟨rfl, I, A.wk (by decide)⟩ ⟨Nat.le_refl _, Nat.le_refl _⟩ dX5_forgetFrame_48
      · skip
        have k_6 : (6 : Int32).toInt = 6 := rfl
        have c_25 := pi_le' c_25
        refine lv_aload_n hx hb dX5_forgetFrame_28 rfl (lv_at hl 0 rfl) ?_
        refine pg_r M V 5 2 (c_is_1 S) pC5 fk5_2 (c_r_1_2 S) lkF_X5_22 dX5_forgetFrame_29 ?_
        refine lv_iload_n hx hb dX5_forgetFrame_32 rfl (lv_at hl 1 rfl) ?_
        refine lv_iconst (v := 0) hx hb dX5_forgetFrame_33 (by decide) ?_
        have k_0 : (0 : Int32).toInt = 0 := rfl
        refine ps_z M V (c_is_7 S) (by rw [c_n_7 S]; exact pi_in (by omega)) (pi_z (by omega)) dX5_forgetFrame_34 (fun H locs V => ?_)
        have A := A.upA (o := 7) (k := x22_1.toNatClampNeg) (v := (0 : Int32)) (by decide)
        have I := I.up (k := x22_1.toNatClampNeg) (v := (0 : Int32)) (c_is_7 S) (show (0 : Int) ≤ (0 : Int32).toInt ∧ (0 : Int32).toInt ≤ (1 : Int) by omega)
        refine lv_aload_n hx hb dX5_forgetFrame_35 rfl (lv_at hl 0 rfl) ?_
        refine pg_r M V 5 3 (c_is_1 S) pC5 fk5_3 (c_r_1_3 S) lkF_X5_25 dX5_forgetFrame_36 ?_
        refine lv_iload_n hx hb dX5_forgetFrame_39 rfl (lv_at hl 1 rfl) ?_
        refine lv_iconst (v := 0) hx hb dX5_forgetFrame_40 (by decide) ?_
        refine ps_z M V (c_is_8 S) (by rw [c_n_8 S]; exact pi_in (by omega)) (pi_z (by omega)) dX5_forgetFrame_41 (fun H locs V => ?_)
        have A := A.upA (o := 8) (k := x22_1.toNatClampNeg) (v := (0 : Int32)) (by decide)
        have I := I.up (k := x22_1.toNatClampNeg) (v := (0 : Int32)) (c_is_8 S) (show (0 : Int) ≤ (0 : Int32).toInt ∧ (0 : Int32).toInt ≤ (1 : Int) by omega)
        obtain ⟨v1, ev1⟩ : ∃ y : Int32, y = x22_1 + 1 := ⟨_, rfl⟩
        refine lv_iinc (v := v1) (lv' := [(1, .int v1), (0, .ref (zB Z + 1))]) hx hb dX5_forgetFrame_42 hl (k := 1) rfl (by rw [ev1]; rfl) (by decide) rfl (fun ls hl => ?_)
        refine lv_goto (tgt := 22) hx hb dX5_forgetFrame_45 (by decide) ?_
        have k_1 : (1 : Int32).toInt = 1 := rfl
        have tv1 : v1.toInt = x22_1.toInt + 1 := by rw [ev1]; have z9 := pi_add (x := x22_1) (y := (1 : Int32)); rw [k_1] at z9; exact z9 (by omega)
        exact ih_22 v1 _ _ _ _ V I (A.wk (by decide)) (lv_sub hl [1, 0] rfl) (by omega) (by omega) 
  refine lv_aload_n hx hb dX5_forgetFrame_0 rfl (lv_at hl 0 rfl) ?_
  refine lv_iconst (v := 0) hx hb dX5_forgetFrame_1 (by decide) ?_
  refine pp_i M V 5 5 (c_is_1 S) pC5 fk5_5 rfl lkF_X5_68 ⟨rfl, rfl⟩ dX5_forgetFrame_2 (fun H locs V => ?_)
  have A := A.wk (l3 := [(1, 5)]) (by decide)
  have A := A.up (o := 1) (k := 5) (v := (0 : Int32)) (by decide)
  have k_0 : (0 : Int32).toInt = 0 := rfl
  have I := I.up (k := 5) (v := (0 : Int32)) (c_is_1 S) (show (0 : Int) ≤ (0 : Int32).toInt ∧ (0 : Int32).toInt ≤ (16 : Int) by omega)
  refine lv_aload_n hx hb dX5_forgetFrame_5 rfl (lv_at hl 0 rfl) ?_
  refine lv_iconst (v := 0) hx hb dX5_forgetFrame_6 (by decide) ?_
  refine pp_i M V 5 6 (c_is_1 S) pC5 fk5_6 rfl lkF_X5_71 ⟨rfl, rfl⟩ dX5_forgetFrame_7 (fun H locs V => ?_)
  have A := A.wk (l3 := [(1, 5), (1, 6)]) (by decide)
  have A := A.up (o := 1) (k := 6) (v := (0 : Int32)) (by decide)
  have I := I.up (k := 6) (v := (0 : Int32)) (c_is_1 S) (pi_full _)
  refine lv_aload_n hx hb dX5_forgetFrame_10 rfl (lv_at hl 0 rfl) ?_
  refine lv_iconst (v := 0) hx hb dX5_forgetFrame_11 (by decide) ?_
  have z_12 : (0 : Int32) = 0 ∨ (0 : Int32) = 1 := pi_z (by omega)
  refine pp_i M V 5 14 (c_is_1 S) pC5 fk5_14 rfl lkF_X5_74 ⟨(pn_z z_12).1, (pn_z z_12).2.1⟩ dX5_forgetFrame_12 (fun H locs V => ?_)
  have A := A.wk (l3 := [(1, 5), (1, 6), (1, 14)]) (by decide)
  have A := A.up (o := 1) (k := 14) (v := (0 : Int32)) (by decide)
  have I := I.up (k := 14) (v := (0 : Int32)) (c_is_1 S) (show (0 : Int) ≤ (0 : Int32).toInt ∧ (0 : Int32).toInt ≤ (1 : Int) by omega)
  refine lv_aload_n hx hb dX5_forgetFrame_15 rfl (lv_at hl 0 rfl) ?_
  refine lv_iconst (v := 0) hx hb dX5_forgetFrame_16 (by decide) ?_
  have z_17 : (0 : Int32) = 0 ∨ (0 : Int32) = 1 := pi_z (by omega)
  refine pp_i M V 5 15 (c_is_1 S) pC5 fk5_15 rfl lkF_X5_78 ⟨(pn_z z_17).1, (pn_z z_17).2.1⟩ dX5_forgetFrame_17 (fun H locs V => ?_)
  have A := A.wk (l3 := [(1, 5), (1, 6), (1, 14), (1, 15)]) (by decide)
  have A := A.up (o := 1) (k := 15) (v := (0 : Int32)) (by decide)
  have I := I.up (k := 15) (v := (0 : Int32)) (c_is_1 S) (show (0 : Int) ≤ (0 : Int32).toInt ∧ (0 : Int32).toInt ≤ (1 : Int) by omega)
  refine lv_iconst (v := 0) hx hb dX5_forgetFrame_20 (by decide) ?_
  refine lv_istore_n (lv' := [(1, .int (0 : Int32)), (0, .ref (zB Z + 1))]) hx hb dX5_forgetFrame_21 rfl hl (by decide) rfl (fun ls hl => ?_)
  exact J_22 _ (0 : Int32) _ _ _ _ V I (A.wk (by decide)) (lv_sub hl [1, 0] rfl) (by omega) (Nat.lt_succ_self _) 
theorem dX1_startFrame_0 : decode cX1_startFrame 0 = .ok (.aload_n 0, 1) := by decide +kernel
theorem dX1_startFrame_1 : decode cX1_startFrame 1 = .ok (.iconst 0, 1) := by decide +kernel
theorem dX1_startFrame_2 : decode cX1_startFrame 2 = .ok (.putfield 9, 3) := by decide +kernel
theorem dX1_startFrame_5 : decode cX1_startFrame 5 = .ok (.aload_n 0, 1) := by decide +kernel
theorem dX1_startFrame_6 : decode cX1_startFrame 6 = .ok (.iconst 0, 1) := by decide +kernel
theorem dX1_startFrame_7 : decode cX1_startFrame 7 = .ok (.putfield 15, 3) := by decide +kernel
theorem dX1_startFrame_10 : decode cX1_startFrame 10 = .ok (.aload_n 0, 1) := by decide +kernel
theorem dX1_startFrame_11 : decode cX1_startFrame 11 = .ok (.iconst 0, 1) := by decide +kernel
theorem dX1_startFrame_12 : decode cX1_startFrame 12 = .ok (.putfield 18, 3) := by decide +kernel
theorem dX1_startFrame_15 : decode cX1_startFrame 15 = .ok (.aload_n 0, 1) := by decide +kernel
theorem dX1_startFrame_16 : decode cX1_startFrame 16 = .ok (.iconst 0, 1) := by decide +kernel
theorem dX1_startFrame_17 : decode cX1_startFrame 17 = .ok (.putfield 22, 3) := by decide +kernel
theorem dX1_startFrame_20 : decode cX1_startFrame 20 = .ok (.aload_n 0, 1) := by decide +kernel
theorem dX1_startFrame_21 : decode cX1_startFrame 21 = .ok (.iconst 0, 1) := by decide +kernel
theorem dX1_startFrame_22 : decode cX1_startFrame 22 = .ok (.putfield 25, 3) := by decide +kernel
theorem dX1_startFrame_25 : decode cX1_startFrame 25 = .ok (.aload_n 0, 1) := by decide +kernel
theorem dX1_startFrame_26 : decode cX1_startFrame 26 = .ok (.iconst 0, 1) := by decide +kernel
theorem dX1_startFrame_27 : decode cX1_startFrame 27 = .ok (.putfield 28, 3) := by decide +kernel
theorem dX1_startFrame_30 : decode cX1_startFrame 30 = .ok (.return_, 1) := by decide +kernel
set_option maxHeartbeats 4000000 in
set_option maxRecDepth 100000 in
theorem m_X1_startFrame (l : Launch) {Z : pZ} (S : pSh Z) {h : pH} (I : Iv Z h)  : pMet l yX1_startFrame cX1_startFrame 1 none 0 0 0 0 Z h [.ref (zB Z + 122)] (pQv Z (fun Z1 h1 => Z = Z1 ∧ Iv Z h1 ∧ agrD [(122, 1000)] h h1)) := by
  refine pOfW (lv := [(0, .ref (zB Z + 122))]) (by decide) (Nat.le_of_ble_eq_true rfl) rfl ?_
  intro p e s m below meth c ls M hr hlk hnm V hl
  have hx := M.1.1
  have hb := M.1.2.1
  have A : agrD [] h h := agrD.rf
  refine lv_aload_n hx hb dX1_startFrame_0 rfl (lv_at hl 0 rfl) ?_
  refine lv_iconst (v := 0) hx hb dX1_startFrame_1 (by decide) ?_
  refine pp_i M V 1 1 (c_is_122 S) pC1 fk1_1 rfl lkF_X1_9 ⟨rfl, rfl⟩ dX1_startFrame_2 (fun H locs V => ?_)
  have A := A.wk (l3 := [(122, 1)]) (by decide)
  have A := A.up (o := 122) (k := 1) (v := (0 : Int32)) (by decide)
  have I := I.up (k := 1) (v := (0 : Int32)) (c_is_122 S) (pi_full _)
  refine lv_aload_n hx hb dX1_startFrame_5 rfl (lv_at hl 0 rfl) ?_
  refine lv_iconst (v := 0) hx hb dX1_startFrame_6 (by decide) ?_
  refine pp_i M V 1 4 (c_is_122 S) pC1 fk1_4 rfl lkF_X1_15 ⟨rfl, rfl⟩ dX1_startFrame_7 (fun H locs V => ?_)
  have A := A.wk (l3 := [(122, 1), (122, 4)]) (by decide)
  have A := A.up (o := 122) (k := 4) (v := (0 : Int32)) (by decide)
  have I := I.up (k := 4) (v := (0 : Int32)) (c_is_122 S) (pi_full _)
  refine lv_aload_n hx hb dX1_startFrame_10 rfl (lv_at hl 0 rfl) ?_
  refine lv_iconst (v := 0) hx hb dX1_startFrame_11 (by decide) ?_
  have k_0 : (0 : Int32).toInt = 0 := rfl
  have z_12 : (0 : Int32) = 0 ∨ (0 : Int32) = 1 := pi_z (by omega)
  refine pp_i M V 1 5 (c_is_122 S) pC1 fk1_5 rfl lkF_X1_18 ⟨(pn_z z_12).1, (pn_z z_12).2.1⟩ dX1_startFrame_12 (fun H locs V => ?_)
  have A := A.wk (l3 := [(122, 1), (122, 4), (122, 5)]) (by decide)
  have A := A.up (o := 122) (k := 5) (v := (0 : Int32)) (by decide)
  have I := I.up (k := 5) (v := (0 : Int32)) (c_is_122 S) (show (0 : Int) ≤ (0 : Int32).toInt ∧ (0 : Int32).toInt ≤ (1 : Int) by omega)
  refine lv_aload_n hx hb dX1_startFrame_15 rfl (lv_at hl 0 rfl) ?_
  refine lv_iconst (v := 0) hx hb dX1_startFrame_16 (by decide) ?_
  have z_17 : (0 : Int32) = 0 ∨ (0 : Int32) = 1 := pi_z (by omega)
  refine pp_i M V 1 6 (c_is_122 S) pC1 fk1_6 rfl lkF_X1_22 ⟨(pn_z z_17).1, (pn_z z_17).2.1⟩ dX1_startFrame_17 (fun H locs V => ?_)
  have A := A.wk (l3 := [(122, 1), (122, 4), (122, 5), (122, 6)]) (by decide)
  have A := A.up (o := 122) (k := 6) (v := (0 : Int32)) (by decide)
  have I := I.up (k := 6) (v := (0 : Int32)) (c_is_122 S) (show (0 : Int) ≤ (0 : Int32).toInt ∧ (0 : Int32).toInt ≤ (1 : Int) by omega)
  refine lv_aload_n hx hb dX1_startFrame_20 rfl (lv_at hl 0 rfl) ?_
  refine lv_iconst (v := 0) hx hb dX1_startFrame_21 (by decide) ?_
  have z_22 : (0 : Int32) = 0 ∨ (0 : Int32) = 1 := pi_z (by omega)
  refine pp_i M V 1 7 (c_is_122 S) pC1 fk1_7 rfl lkF_X1_25 ⟨(pn_z z_22).1, (pn_z z_22).2.1⟩ dX1_startFrame_22 (fun H locs V => ?_)
  have A := A.wk (l3 := [(122, 1), (122, 4), (122, 5), (122, 6), (122, 7)]) (by decide)
  have A := A.up (o := 122) (k := 7) (v := (0 : Int32)) (by decide)
  have I := I.up (k := 7) (v := (0 : Int32)) (c_is_122 S) (show (0 : Int) ≤ (0 : Int32).toInt ∧ (0 : Int32).toInt ≤ (1 : Int) by omega)
  refine lv_aload_n hx hb dX1_startFrame_25 rfl (lv_at hl 0 rfl) ?_
  refine lv_iconst (v := 0) hx hb dX1_startFrame_26 (by decide) ?_
  have z_27 : (0 : Int32) = 0 ∨ (0 : Int32) = 1 := pi_z (by omega)
  refine pp_i M V 1 8 (c_is_122 S) pC1 fk1_8 rfl lkF_X1_28 ⟨(pn_z z_27).1, (pn_z z_27).2.1⟩ dX1_startFrame_27 (fun H locs V => ?_)
  have A := A.wk (l3 := [(122, 1), (122, 4), (122, 5), (122, 6), (122, 7), (122, 8)]) (by decide)
  have A := A.up (o := 122) (k := 8) (v := (0 : Int32)) (by decide)
  have I := I.up (k := 8) (v := (0 : Int32)) (c_is_122 S) (show (0 : Int) ≤ (0 : Int32).toInt ∧ (0 : Int32).toInt ≤ (1 : Int) by omega)
  exact pe_v M V rfl rfl hr hlk ⟨rfl, I, A.wk (by decide)⟩ ⟨Nat.le_refl _, Nat.le_refl _⟩ dX1_startFrame_30
theorem dX1_giveFocus_0 : decode cX1_giveFocus 0 = .ok (.aload_n 0, 1) := by decide +kernel
theorem dX1_giveFocus_1 : decode cX1_giveFocus 1 = .ok (.getfield 41, 3) := by decide +kernel
theorem dX1_giveFocus_4 : decode cX1_giveFocus 4 = .ok (.iload_n 1, 1) := by decide +kernel
theorem dX1_giveFocus_5 : decode cX1_giveFocus 5 = .ok (.if_icmp .eq 13, 3) := by decide +kernel
theorem dX1_giveFocus_8 : decode cX1_giveFocus 8 = .ok (.aload_n 0, 1) := by decide +kernel
theorem dX1_giveFocus_9 : decode cX1_giveFocus 9 = .ok (.iload_n 1, 1) := by decide +kernel
theorem dX1_giveFocus_10 : decode cX1_giveFocus 10 = .ok (.putfield 41, 3) := by decide +kernel
theorem dX1_giveFocus_13 : decode cX1_giveFocus 13 = .ok (.aload_n 0, 1) := by decide +kernel
theorem dX1_giveFocus_14 : decode cX1_giveFocus 14 = .ok (.iconst 0, 1) := by decide +kernel
theorem dX1_giveFocus_15 : decode cX1_giveFocus 15 = .ok (.putfield 44, 3) := by decide +kernel
theorem dX1_giveFocus_18 : decode cX1_giveFocus 18 = .ok (.return_, 1) := by decide +kernel
set_option maxHeartbeats 4000000 in
set_option maxRecDepth 100000 in
theorem m_X1_giveFocus (l : Launch) {Z : pZ} (S : pSh Z) {h : pH} (I : Iv Z h) (id : Int32)  : pMet l yX1_giveFocus cX1_giveFocus 2 none 0 0 0 0 Z h [.ref (zB Z + 122), .int id] (pQv Z (fun Z1 h1 => Z = Z1 ∧ Iv Z h1 ∧ agrD [(122, 1000)] h h1)) := by
  refine pOfW (lv := [(0, .ref (zB Z + 122)), (1, .int id)]) (by decide) (Nat.le_of_ble_eq_true rfl) rfl ?_
  intro p e s m below meth c ls M hr hlk hnm V hl
  have hx := M.1.1
  have hb := M.1.2.1
  have A : agrD [] h h := agrD.rf
  have J_18 : ∀ (hJ : pH) (H : Heap) (locs : List Loc) (ls : Array Slot), pV Z hJ s.heap H locs → Iv Z hJ → agrD [(122, 2), (122, 3)] h hJ → lv_has ls 2 [(0, .ref (zB Z + 122)), (1, .int id)] → W p l e (pRm 0 0 0 0) s m ([.ref (zB Z + 122), .int id] : List Value).toArray below meth c H locs 0 0 (MQ below (pQv Z (fun Z1 h1 => Z = Z1 ∧ Iv Z h1 ∧ agrD [(122, 1000)] h h1)) ([.ref (zB Z + 122), .int id] : List Value).toArray s 0 0 (pA (zB Z))) (F0 m 18 ls []) := by
    intro hJ H locs ls V I A hl
    exact pe_v M V rfl rfl hr hlk ⟨rfl, I, A.wk (by decide)⟩ ⟨Nat.le_refl _, Nat.le_refl _⟩ dX1_giveFocus_18
  refine lv_aload_n hx hb dX1_giveFocus_0 rfl (lv_at hl 0 rfl) ?_
  refine pg_i M V 1 2 (c_is_122 S) pC1 fk1_2 lkF_X1_41 dX1_giveFocus_1 ?_
  refine lv_topi (fun v1 ev1 => ?_)
  refine lv_iload_n hx hb dX1_giveFocus_4 rfl (lv_at hl 1 rfl) ?_
  refine lv_icmp_eq (tgt := 18) hx hb dX1_giveFocus_5 (by decide) (fun c_5 => ?_) (fun c_5 => ?_)
  · skip
    have c_5 := pi_eq.mp c_5
    exact J_18 _ _ _ _ V I (A.wk (by decide)) (lv_sub hl [0, 1] rfl) 
  · skip
    have c_5 := pi_ne c_5
    refine lv_aload_n hx hb dX1_giveFocus_8 rfl (lv_at hl 0 rfl) ?_
    refine lv_iload_n hx hb dX1_giveFocus_9 rfl (lv_at hl 1 rfl) ?_
    refine pp_i M V 1 2 (c_is_122 S) pC1 fk1_2 rfl lkF_X1_41 ⟨rfl, rfl⟩ dX1_giveFocus_10 (fun H locs V => ?_)
    have A := A.wk (l3 := [(122, 2)]) (by decide)
    have A := A.up (o := 122) (k := 2) (v := id) (by decide)
    have I := I.up (k := 2) (v := id) (c_is_122 S) (pi_full _)
    refine lv_aload_n hx hb dX1_giveFocus_13 rfl (lv_at hl 0 rfl) ?_
    refine lv_iconst (v := 0) hx hb dX1_giveFocus_14 (by decide) ?_
    refine pp_i M V 1 3 (c_is_122 S) pC1 fk1_3 rfl lkF_X1_44 ⟨rfl, rfl⟩ dX1_giveFocus_15 (fun H locs V => ?_)
    have A := A.wk (l3 := [(122, 2), (122, 3)]) (by decide)
    have A := A.up (o := 122) (k := 3) (v := (0 : Int32)) (by decide)
    have I := I.up (k := 3) (v := (0 : Int32)) (c_is_122 S) (pi_full _)
    exact J_18 _ _ _ _ V I (A.wk (by decide)) (lv_sub hl [0, 1] rfl) 
theorem dX1_forgetAll_0 : decode cX1_forgetAll 0 = .ok (.aload_n 0, 1) := by decide +kernel
theorem dX1_forgetAll_1 : decode cX1_forgetAll 1 = .ok (.invokevirtual 31, 3) := by decide +kernel
theorem dX1_forgetAll_4 : decode cX1_forgetAll 4 = .ok (.aload_n 0, 1) := by decide +kernel
theorem dX1_forgetAll_5 : decode cX1_forgetAll 5 = .ok (.iconst 0, 1) := by decide +kernel
theorem dX1_forgetAll_6 : decode cX1_forgetAll 6 = .ok (.putfield 34, 3) := by decide +kernel
theorem dX1_forgetAll_9 : decode cX1_forgetAll 9 = .ok (.aload_n 0, 1) := by decide +kernel
theorem dX1_forgetAll_10 : decode cX1_forgetAll 10 = .ok (.iconst 0, 1) := by decide +kernel
theorem dX1_forgetAll_11 : decode cX1_forgetAll 11 = .ok (.invokevirtual 37, 3) := by decide +kernel
theorem dX1_forgetAll_14 : decode cX1_forgetAll 14 = .ok (.return_, 1) := by decide +kernel
set_option maxHeartbeats 4000000 in
set_option maxRecDepth 100000 in
theorem m_X1_forgetAll (l : Launch) {Z : pZ} (S : pSh Z) {h : pH} (I : Iv Z h)  : pMet l yX1_forgetAll cX1_forgetAll 1 none 1 0 0 21 Z h [.ref (zB Z + 122)] (pQv Z (fun Z1 h1 => Z = Z1 ∧ Iv Z h1 ∧ agrD [(122, 1000)] h h1)) := by
  refine pOfW (lv := [(0, .ref (zB Z + 122))]) (by decide) (Nat.le_of_ble_eq_true rfl) rfl ?_
  intro p e s m below meth c ls M hr hlk hnm V hl
  have hx := M.1.1
  have hb := M.1.2.1
  have A : agrD [] h h := agrD.rf
  refine lv_aload_n hx hb dX1_forgetAll_0 rfl (lv_at hl 0 rfl) ?_
  refine pk_v (pr_V M V (m_X1_startFrame l S I  ) km_X1_startFrame (c_is_122 S) pC1 lkM_X1_31 rfl hl.1 rfl (Nat.le_of_ble_eq_true rfl) ⟨Nat.le_of_ble_eq_true rfl, Nat.le_of_ble_eq_true rfl⟩ ⟨Nat.le_of_ble_eq_true rfl, Nat.le_of_ble_eq_true rfl⟩ dX1_forgetAll_1) V (fun Zr1 hr1 H locs pr1 _ _ V => ?_)
  obtain ⟨rfl, I, pA_r1⟩ := pr1
  have A := A.wk (l3 := [(122, 1000)]) (by decide)
  have A := A.tr pA_r1 (by decide)
  refine lv_aload_n hx hb dX1_forgetAll_4 rfl (lv_at hl 0 rfl) ?_
  refine lv_iconst (v := 0) hx hb dX1_forgetAll_5 (by decide) ?_
  refine pp_i M V 1 0 (c_is_122 S) pC1 fk1_0 rfl lkF_X1_34 ⟨rfl, rfl⟩ dX1_forgetAll_6 (fun H locs V => ?_)
  have A := A.up (o := 122) (k := 0) (v := (0 : Int32)) (by decide)
  have I := I.up (k := 0) (v := (0 : Int32)) (c_is_122 S) (pi_full _)
  refine lv_aload_n hx hb dX1_forgetAll_9 rfl (lv_at hl 0 rfl) ?_
  refine lv_iconst (v := 0) hx hb dX1_forgetAll_10 (by decide) ?_
  refine pk_v (pr_V M V (m_X1_giveFocus l S I (0 : Int32) ) km_X1_giveFocus (c_is_122 S) pC1 lkM_X1_37 rfl hl.1 rfl (Nat.le_of_ble_eq_true rfl) ⟨Nat.le_of_ble_eq_true rfl, Nat.le_of_ble_eq_true rfl⟩ ⟨Nat.le_of_ble_eq_true rfl, Nat.le_of_ble_eq_true rfl⟩ dX1_forgetAll_11) V (fun Zr2 hr2 H locs pr2 _ _ V => ?_)
  obtain ⟨rfl, I, pA_r2⟩ := pr2
  have A := A.tr pA_r2 (by decide)
  exact pe_v M V rfl rfl hr hlk ⟨rfl, I, A.wk (by decide)⟩ ⟨Nat.le_refl _, Nat.le_refl _⟩ dX1_forgetAll_14
theorem dX1_noteTold_0 : decode cX1_noteTold 0 = .ok (.aload_n 0, 1) := by decide +kernel
theorem dX1_noteTold_1 : decode cX1_noteTold 1 = .ok (.dup, 1) := by decide +kernel
theorem dX1_noteTold_2 : decode cX1_noteTold 2 = .ok (.getfield 18, 3) := by decide +kernel
theorem dX1_noteTold_5 : decode cX1_noteTold 5 = .ok (.aload_n 0, 1) := by decide +kernel
theorem dX1_noteTold_6 : decode cX1_noteTold 6 = .ok (.getfield 34, 3) := by decide +kernel
theorem dX1_noteTold_9 : decode cX1_noteTold 9 = .ok (.iload_n 1, 1) := by decide +kernel
theorem dX1_noteTold_10 : decode cX1_noteTold 10 = .ok (.if_icmp .ne 7, 3) := by decide +kernel
theorem dX1_noteTold_13 : decode cX1_noteTold 13 = .ok (.iconst 1, 1) := by decide +kernel
theorem dX1_noteTold_14 : decode cX1_noteTold 14 = .ok (.goto 4, 3) := by decide +kernel
theorem dX1_noteTold_17 : decode cX1_noteTold 17 = .ok (.iconst 0, 1) := by decide +kernel
theorem dX1_noteTold_18 : decode cX1_noteTold 18 = .ok (.ior, 1) := by decide +kernel
theorem dX1_noteTold_19 : decode cX1_noteTold 19 = .ok (.putfield 18, 3) := by decide +kernel
theorem dX1_noteTold_22 : decode cX1_noteTold 22 = .ok (.aload_n 0, 1) := by decide +kernel
theorem dX1_noteTold_23 : decode cX1_noteTold 23 = .ok (.dup, 1) := by decide +kernel
theorem dX1_noteTold_24 : decode cX1_noteTold 24 = .ok (.getfield 22, 3) := by decide +kernel
theorem dX1_noteTold_27 : decode cX1_noteTold 27 = .ok (.aload_n 0, 1) := by decide +kernel
theorem dX1_noteTold_28 : decode cX1_noteTold 28 = .ok (.getfield 41, 3) := by decide +kernel
theorem dX1_noteTold_31 : decode cX1_noteTold 31 = .ok (.iload_n 1, 1) := by decide +kernel
theorem dX1_noteTold_32 : decode cX1_noteTold 32 = .ok (.if_icmp .ne 7, 3) := by decide +kernel
theorem dX1_noteTold_35 : decode cX1_noteTold 35 = .ok (.iconst 1, 1) := by decide +kernel
theorem dX1_noteTold_36 : decode cX1_noteTold 36 = .ok (.goto 4, 3) := by decide +kernel
theorem dX1_noteTold_39 : decode cX1_noteTold 39 = .ok (.iconst 0, 1) := by decide +kernel
theorem dX1_noteTold_40 : decode cX1_noteTold 40 = .ok (.ior, 1) := by decide +kernel
theorem dX1_noteTold_41 : decode cX1_noteTold 41 = .ok (.putfield 22, 3) := by decide +kernel
theorem dX1_noteTold_44 : decode cX1_noteTold 44 = .ok (.return_, 1) := by decide +kernel
set_option maxHeartbeats 4000000 in
set_option maxRecDepth 100000 in
theorem m_X1_noteTold (l : Launch) {Z : pZ} (S : pSh Z) {h : pH} (I : Iv Z h) (id : Int32)  : pMet l yX1_noteTold cX1_noteTold 2 none 0 0 0 0 Z h [.ref (zB Z + 122), .int id] (pQv Z (fun Z1 h1 => Z = Z1 ∧ Iv Z h1 ∧ agrD [(122, 1000)] h h1)) := by
  refine pOfW (lv := [(0, .ref (zB Z + 122)), (1, .int id)]) (by decide) (Nat.le_of_ble_eq_true rfl) rfl ?_
  intro p e s m below meth c ls M hr hlk hnm V hl
  have hx := M.1.1
  have hb := M.1.2.1
  have A : agrD [] h h := agrD.rf
  have J_40 : ∀ (y40_0 : Int32) (y40_1 : Int32) (hJ : pH) (H : Heap) (locs : List Loc) (ls : Array Slot), pV Z hJ s.heap H locs → Iv Z hJ → agrD [(122, 5)] h hJ → lv_has ls 2 [(0, .ref (zB Z + 122)), (1, .int id)] → (0 ≤ y40_0.toInt ∧ y40_0.toInt ≤ 1) → (0 ≤ y40_1.toInt ∧ y40_1.toInt ≤ 1) → W p l e (pRm 0 0 0 0) s m ([.ref (zB Z + 122), .int id] : List Value).toArray below meth c H locs 0 0 (MQ below (pQv Z (fun Z1 h1 => Z = Z1 ∧ Iv Z h1 ∧ agrD [(122, 1000)] h h1)) ([.ref (zB Z + 122), .int id] : List Value).toArray s 0 0 (pA (zB Z))) (F0 m 40 ls [.int y40_0, .int y40_1, .ref (zB Z + 122)]) := by
    intro y40_0 y40_1 hJ H locs ls V I A hl gs_40_0 gs_40_1
    refine lv_ior hx hb dX1_noteTold_40 ?_
    refine lv_topi (fun v1 ev1 => ?_)
    have tv1 : 0 ≤ v1.toInt ∧ v1.toInt ≤ 1 := by rw [ev1]; exact pi_or01 (by omega) (by omega)
    have z_41 : v1 = 0 ∨ v1 = 1 := pi_z (by omega)
    refine pp_i M V 1 6 (c_is_122 S) pC1 fk1_6 rfl lkF_X1_22 ⟨(pn_z z_41).1, (pn_z z_41).2.1⟩ dX1_noteTold_41 (fun H locs V => ?_)
    have A := A.wk (l3 := [(122, 5), (122, 6)]) (by decide)
    have A := A.up (o := 122) (k := 6) (v := v1) (by decide)
    have I := I.up (k := 6) (v := v1) (c_is_122 S) (show (0 : Int) ≤ v1.toInt ∧ v1.toInt ≤ (1 : Int) by omega)
    exact pe_v M V rfl rfl hr hlk ⟨rfl, I, A.wk (by decide)⟩ ⟨Nat.le_refl _, Nat.le_refl _⟩ dX1_noteTold_44
  have J_18 : ∀ (y18_0 : Int32) (y18_1 : Int32) (hJ : pH) (H : Heap) (locs : List Loc) (ls : Array Slot), pV Z hJ s.heap H locs → Iv Z hJ → agrD [] h hJ → lv_has ls 2 [(0, .ref (zB Z + 122)), (1, .int id)] → (0 ≤ y18_0.toInt ∧ y18_0.toInt ≤ 1) → (0 ≤ y18_1.toInt ∧ y18_1.toInt ≤ 1) → W p l e (pRm 0 0 0 0) s m ([.ref (zB Z + 122), .int id] : List Value).toArray below meth c H locs 0 0 (MQ below (pQv Z (fun Z1 h1 => Z = Z1 ∧ Iv Z h1 ∧ agrD [(122, 1000)] h h1)) ([.ref (zB Z + 122), .int id] : List Value).toArray s 0 0 (pA (zB Z))) (F0 m 18 ls [.int y18_0, .int y18_1, .ref (zB Z + 122)]) := by
    intro y18_0 y18_1 hJ H locs ls V I A hl gs_18_0 gs_18_1
    refine lv_ior hx hb dX1_noteTold_18 ?_
    refine lv_topi (fun v2 ev2 => ?_)
    have tv2 : 0 ≤ v2.toInt ∧ v2.toInt ≤ 1 := by rw [ev2]; exact pi_or01 (by omega) (by omega)
    have z_19 : v2 = 0 ∨ v2 = 1 := pi_z (by omega)
    refine pp_i M V 1 5 (c_is_122 S) pC1 fk1_5 rfl lkF_X1_18 ⟨(pn_z z_19).1, (pn_z z_19).2.1⟩ dX1_noteTold_19 (fun H locs V => ?_)
    have A := A.wk (l3 := [(122, 5)]) (by decide)
    have A := A.up (o := 122) (k := 5) (v := v2) (by decide)
    have I := I.up (k := 5) (v := v2) (c_is_122 S) (show (0 : Int) ≤ v2.toInt ∧ v2.toInt ≤ (1 : Int) by omega)
    refine lv_aload_n hx hb dX1_noteTold_22 rfl (lv_at hl 0 rfl) ?_
    refine lv_dup hx hb dX1_noteTold_23 rfl ?_
    refine pg_i M V 1 6 (c_is_122 S) pC1 fk1_6 lkF_X1_22 dX1_noteTold_24 ?_
    refine lv_topi (fun v3 ev3 => ?_)
    have tv3 : 0 ≤ v3.toInt ∧ v3.toInt ≤ 1 := by rw [ev3]; exact I.get (c_is_122 S) 6
    refine lv_aload_n hx hb dX1_noteTold_27 rfl (lv_at hl 0 rfl) ?_
    refine pg_i M V 1 2 (c_is_122 S) pC1 fk1_2 lkF_X1_41 dX1_noteTold_28 ?_
    refine lv_topi (fun v4 ev4 => ?_)
    refine lv_iload_n hx hb dX1_noteTold_31 rfl (lv_at hl 1 rfl) ?_
    refine lv_icmp_ne (tgt := 39) hx hb dX1_noteTold_32 (by decide) (fun c_32 => ?_) (fun c_32 => ?_)
    · skip
      have c_32 := pi_ne c_32
      refine lv_iconst (v := 0) hx hb dX1_noteTold_39 (by decide) ?_
      have k_0 : (0 : Int32).toInt = 0 := rfl
      exact J_40 (0 : Int32) v3 _ _ _ _ V I (A.wk (by decide)) (lv_sub hl [0, 1] rfl) (by omega) (by omega) 
    · skip
      have c_32 := pi_eq.mp c_32
      refine lv_iconst (v := 1) hx hb dX1_noteTold_35 (by decide) ?_
      refine lv_goto (tgt := 40) hx hb dX1_noteTold_36 (by decide) ?_
      have k_1 : (1 : Int32).toInt = 1 := rfl
      exact J_40 (1 : Int32) v3 _ _ _ _ V I (A.wk (by decide)) (lv_sub hl [0, 1] rfl) (by omega) (by omega) 
  refine lv_aload_n hx hb dX1_noteTold_0 rfl (lv_at hl 0 rfl) ?_
  refine lv_dup hx hb dX1_noteTold_1 rfl ?_
  refine pg_i M V 1 5 (c_is_122 S) pC1 fk1_5 lkF_X1_18 dX1_noteTold_2 ?_
  refine lv_topi (fun v5 ev5 => ?_)
  have tv5 : 0 ≤ v5.toInt ∧ v5.toInt ≤ 1 := by rw [ev5]; exact I.get (c_is_122 S) 5
  refine lv_aload_n hx hb dX1_noteTold_5 rfl (lv_at hl 0 rfl) ?_
  refine pg_i M V 1 0 (c_is_122 S) pC1 fk1_0 lkF_X1_34 dX1_noteTold_6 ?_
  refine lv_topi (fun v6 ev6 => ?_)
  refine lv_iload_n hx hb dX1_noteTold_9 rfl (lv_at hl 1 rfl) ?_
  refine lv_icmp_ne (tgt := 17) hx hb dX1_noteTold_10 (by decide) (fun c_10 => ?_) (fun c_10 => ?_)
  · skip
    have c_10 := pi_ne c_10
    refine lv_iconst (v := 0) hx hb dX1_noteTold_17 (by decide) ?_
    have k_0 : (0 : Int32).toInt = 0 := rfl
    exact J_18 (0 : Int32) v5 _ _ _ _ V I (A.wk (by decide)) (lv_sub hl [0, 1] rfl) (by omega) (by omega) 
  · skip
    have c_10 := pi_eq.mp c_10
    refine lv_iconst (v := 1) hx hb dX1_noteTold_13 (by decide) ?_
    refine lv_goto (tgt := 18) hx hb dX1_noteTold_14 (by decide) ?_
    have k_1 : (1 : Int32).toInt = 1 := rfl
    exact J_18 (1 : Int32) v5 _ _ _ _ V I (A.wk (by decide)) (lv_sub hl [0, 1] rfl) (by omega) (by omega) 
theorem dX1_takeTab_0 : decode cX1_takeTab 0 = .ok (.aload_n 2, 1) := by decide +kernel
theorem dX1_takeTab_1 : decode cX1_takeTab 1 = .ok (.iconst 0, 1) := by decide +kernel
theorem dX1_takeTab_2 : decode cX1_takeTab 2 = .ok (.invokevirtual 66, 3) := by decide +kernel
theorem dX1_takeTab_5 : decode cX1_takeTab 5 = .ok (.ifCond .eq 35, 3) := by decide +kernel
theorem dX1_takeTab_8 : decode cX1_takeTab 8 = .ok (.aload_n 0, 1) := by decide +kernel
theorem dX1_takeTab_9 : decode cX1_takeTab 9 = .ok (.getfield 25, 3) := by decide +kernel
theorem dX1_takeTab_12 : decode cX1_takeTab 12 = .ok (.ifCond .eq 28, 3) := by decide +kernel
theorem dX1_takeTab_15 : decode cX1_takeTab 15 = .ok (.aload_n 0, 1) := by decide +kernel
theorem dX1_takeTab_16 : decode cX1_takeTab 16 = .ok (.getfield 28, 3) := by decide +kernel
theorem dX1_takeTab_19 : decode cX1_takeTab 19 = .ok (.ifCond .ne 21, 3) := by decide +kernel
theorem dX1_takeTab_22 : decode cX1_takeTab 22 = .ok (.aload_n 0, 1) := by decide +kernel
theorem dX1_takeTab_23 : decode cX1_takeTab 23 = .ok (.getfield 41, 3) := by decide +kernel
theorem dX1_takeTab_26 : decode cX1_takeTab 26 = .ok (.iload_n 1, 1) := by decide +kernel
theorem dX1_takeTab_27 : decode cX1_takeTab 27 = .ok (.if_icmp .eq 13, 3) := by decide +kernel
theorem dX1_takeTab_30 : decode cX1_takeTab 30 = .ok (.aload_n 0, 1) := by decide +kernel
theorem dX1_takeTab_31 : decode cX1_takeTab 31 = .ok (.iload_n 1, 1) := by decide +kernel
theorem dX1_takeTab_32 : decode cX1_takeTab 32 = .ok (.invokevirtual 37, 3) := by decide +kernel
theorem dX1_takeTab_35 : decode cX1_takeTab 35 = .ok (.aload_n 0, 1) := by decide +kernel
theorem dX1_takeTab_36 : decode cX1_takeTab 36 = .ok (.iconst 1, 1) := by decide +kernel
theorem dX1_takeTab_37 : decode cX1_takeTab 37 = .ok (.putfield 28, 3) := by decide +kernel
theorem dX1_takeTab_40 : decode cX1_takeTab 40 = .ok (.return_, 1) := by decide +kernel
set_option maxHeartbeats 4000000 in
set_option maxRecDepth 100000 in
theorem m_X1_takeTab (l : Launch) {Z : pZ} (S : pSh Z) {h : pH} (I : Iv Z h) (id : Int32)  : pMet l yX1_takeTab cX1_takeTab 3 none 2 0 0 43 Z h [.ref (zB Z + 122), .int id, .ref (zB Z + 1)] (pQv Z (fun Z1 h1 => Z = Z1 ∧ Iv Z h1 ∧ agrD [(122, 1000)] h h1)) := by
  refine pOfW (lv := [(0, .ref (zB Z + 122)), (1, .int id), (2, .ref (zB Z + 1))]) (by decide) (Nat.le_of_ble_eq_true rfl) rfl ?_
  intro p e s m below meth c ls M hr hlk hnm V hl
  have hx := M.1.1
  have hb := M.1.2.1
  have A : agrD [] h h := agrD.rf
  have J_40 : ∀ (hJ : pH) (H : Heap) (locs : List Loc) (ls : Array Slot), pV Z hJ s.heap H locs → Iv Z hJ → agrD [(122, 1000)] h hJ → lv_has ls 3 [(0, .ref (zB Z + 122)), (1, .int id), (2, .ref (zB Z + 1))] → W p l e (pRm 2 0 0 43) s m ([.ref (zB Z + 122), .int id, .ref (zB Z + 1)] : List Value).toArray below meth c H locs 0 0 (MQ below (pQv Z (fun Z1 h1 => Z = Z1 ∧ Iv Z h1 ∧ agrD [(122, 1000)] h h1)) ([.ref (zB Z + 122), .int id, .ref (zB Z + 1)] : List Value).toArray s 0 0 (pA (zB Z))) (F0 m 40 ls []) := by
    intro hJ H locs ls V I A hl
    exact pe_v M V rfl rfl hr hlk ⟨rfl, I, A.wk (by decide)⟩ ⟨Nat.le_refl _, Nat.le_refl _⟩ dX1_takeTab_40
  refine lv_aload_n hx hb dX1_takeTab_0 rfl (lv_at hl 2 rfl) ?_
  refine lv_iconst (v := 0) hx hb dX1_takeTab_1 (by decide) ?_
  refine pk_i (pr_V M V (m_X5_isDownHere l S I (0 : Int32) ) km_X5_isDownHere (c_is_1 S) pC5 lkM_X1_66 rfl hl.1 rfl (Nat.le_of_ble_eq_true rfl) ⟨Nat.le_of_ble_eq_true rfl, Nat.le_of_ble_eq_true rfl⟩ ⟨Nat.le_of_ble_eq_true rfl, Nat.le_of_ble_eq_true rfl⟩ dX1_takeTab_2) V (fun r1 Zr1 hr1 H locs pr1 _ _ V => ?_)
  obtain ⟨rfl, I, pA_r1, fr1_0⟩ := pr1
  have A := A.tr pA_r1 (by decide)
  refine lv_if_eq (tgt := 40) hx hb dX1_takeTab_5 (by decide) (fun c_5 => ?_) (fun c_5 => ?_)
  · skip
    have k_0 : (0 : Int32).toInt = 0 := rfl
    have c_5 := pi_eq.mp c_5
    exact J_40 _ _ _ _ V I (A.wk (by decide)) (lv_sub hl [0, 1, 2] rfl) 
  · skip
    have k_0 : (0 : Int32).toInt = 0 := rfl
    have c_5 := pi_ne c_5
    refine lv_aload_n hx hb dX1_takeTab_8 rfl (lv_at hl 0 rfl) ?_
    refine pg_i M V 1 7 (c_is_122 S) pC1 fk1_7 lkF_X1_25 dX1_takeTab_9 ?_
    refine lv_topi (fun v2 ev2 => ?_)
    have tv2 : 0 ≤ v2.toInt ∧ v2.toInt ≤ 1 := by rw [ev2]; exact I.get (c_is_122 S) 7
    refine lv_if_eq (tgt := 40) hx hb dX1_takeTab_12 (by decide) (fun c_12 => ?_) (fun c_12 => ?_)
    · skip
      have c_12 := pi_eq.mp c_12
      exact J_40 _ _ _ _ V I (A.wk (by decide)) (lv_sub hl [0, 1, 2] rfl) 
    · skip
      have c_12 := pi_ne c_12
      refine lv_aload_n hx hb dX1_takeTab_15 rfl (lv_at hl 0 rfl) ?_
      refine pg_i M V 1 8 (c_is_122 S) pC1 fk1_8 lkF_X1_28 dX1_takeTab_16 ?_
      refine lv_topi (fun v3 ev3 => ?_)
      have tv3 : 0 ≤ v3.toInt ∧ v3.toInt ≤ 1 := by rw [ev3]; exact I.get (c_is_122 S) 8
      refine lv_if_ne (tgt := 40) hx hb dX1_takeTab_19 (by decide) (fun c_19 => ?_) (fun c_19 => ?_)
      · skip
        have c_19 := pi_ne c_19
        exact J_40 _ _ _ _ V I (A.wk (by decide)) (lv_sub hl [0, 1, 2] rfl) 
      · skip
        have c_19 := pi_eq.mp c_19
        refine lv_aload_n hx hb dX1_takeTab_22 rfl (lv_at hl 0 rfl) ?_
        refine pg_i M V 1 2 (c_is_122 S) pC1 fk1_2 lkF_X1_41 dX1_takeTab_23 ?_
        refine lv_topi (fun v4 ev4 => ?_)
        refine lv_iload_n hx hb dX1_takeTab_26 rfl (lv_at hl 1 rfl) ?_
        refine lv_icmp_eq (tgt := 40) hx hb dX1_takeTab_27 (by decide) (fun c_27 => ?_) (fun c_27 => ?_)
        · skip
          have c_27 := pi_eq.mp c_27
          exact J_40 _ _ _ _ V I (A.wk (by decide)) (lv_sub hl [0, 1, 2] rfl) 
        · skip
          have c_27 := pi_ne c_27
          refine lv_aload_n hx hb dX1_takeTab_30 rfl (lv_at hl 0 rfl) ?_
          refine lv_iload_n hx hb dX1_takeTab_31 rfl (lv_at hl 1 rfl) ?_
          refine pk_v (pr_V M V (m_X1_giveFocus l S I id ) km_X1_giveFocus (c_is_122 S) pC1 lkM_X1_37 rfl hl.1 rfl (Nat.le_of_ble_eq_true rfl) ⟨Nat.le_of_ble_eq_true rfl, Nat.le_of_ble_eq_true rfl⟩ ⟨Nat.le_of_ble_eq_true rfl, Nat.le_of_ble_eq_true rfl⟩ dX1_takeTab_32) V (fun Zr5 hr5 H locs pr5 _ _ V => ?_)
          obtain ⟨rfl, I, pA_r5⟩ := pr5
          have A := A.wk (l3 := [(122, 1000)]) (by decide)
          have A := A.tr pA_r5 (by decide)
          refine lv_aload_n hx hb dX1_takeTab_35 rfl (lv_at hl 0 rfl) ?_
          refine lv_iconst (v := 1) hx hb dX1_takeTab_36 (by decide) ?_
          have k_1 : (1 : Int32).toInt = 1 := rfl
          have z_37 : (1 : Int32) = 0 ∨ (1 : Int32) = 1 := pi_z (by omega)
          refine pp_i M V 1 8 (c_is_122 S) pC1 fk1_8 rfl lkF_X1_28 ⟨(pn_z z_37).1, (pn_z z_37).2.1⟩ dX1_takeTab_37 (fun H locs V => ?_)
          have A := A.up (o := 122) (k := 8) (v := (1 : Int32)) (by decide)
          have I := I.up (k := 8) (v := (1 : Int32)) (c_is_122 S) (show (0 : Int) ≤ (1 : Int32).toInt ∧ (1 : Int32).toInt ≤ (1 : Int) by omega)
          exact J_40 _ _ _ _ V I (A.wk (by decide)) (lv_sub hl [0, 1, 2] rfl) 
theorem dX1_takeEnter_0 : decode cX1_takeEnter 0 = .ok (.aload_n 0, 1) := by decide +kernel
theorem dX1_takeEnter_1 : decode cX1_takeEnter 1 = .ok (.getfield 41, 3) := by decide +kernel
theorem dX1_takeEnter_4 : decode cX1_takeEnter 4 = .ok (.iload_n 1, 1) := by decide +kernel
theorem dX1_takeEnter_5 : decode cX1_takeEnter 5 = .ok (.if_icmp .eq 5, 3) := by decide +kernel
theorem dX1_takeEnter_8 : decode cX1_takeEnter 8 = .ok (.iconst 0, 1) := by decide +kernel
theorem dX1_takeEnter_9 : decode cX1_takeEnter 9 = .ok (.ireturn, 1) := by decide +kernel
theorem dX1_takeEnter_10 : decode cX1_takeEnter 10 = .ok (.aload_n 2, 1) := by decide +kernel
theorem dX1_takeEnter_11 : decode cX1_takeEnter 11 = .ok (.iconst 1, 1) := by decide +kernel
theorem dX1_takeEnter_12 : decode cX1_takeEnter 12 = .ok (.invokevirtual 66, 3) := by decide +kernel
theorem dX1_takeEnter_15 : decode cX1_takeEnter 15 = .ok (.ifCond .eq 8, 3) := by decide +kernel
theorem dX1_takeEnter_18 : decode cX1_takeEnter 18 = .ok (.aload_n 0, 1) := by decide +kernel
theorem dX1_takeEnter_19 : decode cX1_takeEnter 19 = .ok (.iload_n 1, 1) := by decide +kernel
theorem dX1_takeEnter_20 : decode cX1_takeEnter 20 = .ok (.putfield 44, 3) := by decide +kernel
theorem dX1_takeEnter_23 : decode cX1_takeEnter 23 = .ok (.aload_n 0, 1) := by decide +kernel
theorem dX1_takeEnter_24 : decode cX1_takeEnter 24 = .ok (.getfield 44, 3) := by decide +kernel
theorem dX1_takeEnter_27 : decode cX1_takeEnter 27 = .ok (.iload_n 1, 1) := by decide +kernel
theorem dX1_takeEnter_28 : decode cX1_takeEnter 28 = .ok (.if_icmp .ne 11, 3) := by decide +kernel
theorem dX1_takeEnter_31 : decode cX1_takeEnter 31 = .ok (.aload_n 2, 1) := by decide +kernel
theorem dX1_takeEnter_32 : decode cX1_takeEnter 32 = .ok (.iconst 1, 1) := by decide +kernel
theorem dX1_takeEnter_33 : decode cX1_takeEnter 33 = .ok (.invokevirtual 70, 3) := by decide +kernel
theorem dX1_takeEnter_36 : decode cX1_takeEnter 36 = .ok (.ifCond .ne 5, 3) := by decide +kernel
theorem dX1_takeEnter_39 : decode cX1_takeEnter 39 = .ok (.iconst 0, 1) := by decide +kernel
theorem dX1_takeEnter_40 : decode cX1_takeEnter 40 = .ok (.ireturn, 1) := by decide +kernel
theorem dX1_takeEnter_41 : decode cX1_takeEnter 41 = .ok (.aload_n 0, 1) := by decide +kernel
theorem dX1_takeEnter_42 : decode cX1_takeEnter 42 = .ok (.iconst 0, 1) := by decide +kernel
theorem dX1_takeEnter_43 : decode cX1_takeEnter 43 = .ok (.putfield 44, 3) := by decide +kernel
theorem dX1_takeEnter_46 : decode cX1_takeEnter 46 = .ok (.iconst 1, 1) := by decide +kernel
theorem dX1_takeEnter_47 : decode cX1_takeEnter 47 = .ok (.ireturn, 1) := by decide +kernel
set_option maxHeartbeats 4000000 in
set_option maxRecDepth 100000 in
theorem m_X1_takeEnter (l : Launch) {Z : pZ} (S : pSh Z) {h : pH} (I : Iv Z h) (id : Int32)  : pMet l yX1_takeEnter cX1_takeEnter 3 (some .boolean) 2 0 0 43 Z h [.ref (zB Z + 122), .int id, .ref (zB Z + 1)] (pQi Z (fun r Z1 h1 => Z = Z1 ∧ Iv Z h1 ∧ agrD [(122, 1000)] h h1 ∧ (r.toInt = 0 ∨ r.toInt = 1))) := by
  refine pOfW (lv := [(0, .ref (zB Z + 122)), (1, .int id), (2, .ref (zB Z + 1))]) (by decide) (Nat.le_of_ble_eq_true rfl) rfl ?_
  intro p e s m below meth c ls M hr hlk hnm V hl
  have hx := M.1.1
  have hb := M.1.2.1
  have A : agrD [] h h := agrD.rf
  have J_39 : ∀ (hJ : pH) (H : Heap) (locs : List Loc) (ls : Array Slot), pV Z hJ s.heap H locs → Iv Z hJ → agrD [(122, 3)] h hJ → lv_has ls 3 [(0, .ref (zB Z + 122)), (1, .int id), (2, .ref (zB Z + 1))] → W p l e (pRm 2 0 0 43) s m ([.ref (zB Z + 122), .int id, .ref (zB Z + 1)] : List Value).toArray below meth c H locs 0 0 (MQ below (pQi Z (fun r Z1 h1 => Z = Z1 ∧ Iv Z h1 ∧ agrD [(122, 1000)] h h1 ∧ (r.toInt = 0 ∨ r.toInt = 1))) ([.ref (zB Z + 122), .int id, .ref (zB Z + 1)] : List Value).toArray s 0 0 (pA (zB Z))) (F0 m 39 ls []) := by
    intro hJ H locs ls V I A hl
    refine lv_iconst (v := 0) hx hb dX1_takeEnter_39 (by decide) ?_
    have k_0 : (0 : Int32).toInt = 0 := rfl
    exact pe_i M V rfl rfl hr hlk (pn_z (pi_z (by omega))).1 ⟨rfl, I, A.wk (by decide), by omega⟩ ⟨Nat.le_refl _, Nat.le_refl _⟩ dX1_takeEnter_40
  have J_23 : ∀ (hJ : pH) (H : Heap) (locs : List Loc) (ls : Array Slot), pV Z hJ s.heap H locs → Iv Z hJ → agrD [(122, 3)] h hJ → lv_has ls 3 [(0, .ref (zB Z + 122)), (1, .int id), (2, .ref (zB Z + 1))] → W p l e (pRm 2 0 0 43) s m ([.ref (zB Z + 122), .int id, .ref (zB Z + 1)] : List Value).toArray below meth c H locs 0 0 (MQ below (pQi Z (fun r Z1 h1 => Z = Z1 ∧ Iv Z h1 ∧ agrD [(122, 1000)] h h1 ∧ (r.toInt = 0 ∨ r.toInt = 1))) ([.ref (zB Z + 122), .int id, .ref (zB Z + 1)] : List Value).toArray s 0 0 (pA (zB Z))) (F0 m 23 ls []) := by
    intro hJ H locs ls V I A hl
    refine lv_aload_n hx hb dX1_takeEnter_23 rfl (lv_at hl 0 rfl) ?_
    refine pg_i M V 1 3 (c_is_122 S) pC1 fk1_3 lkF_X1_44 dX1_takeEnter_24 ?_
    refine lv_topi (fun v1 ev1 => ?_)
    refine lv_iload_n hx hb dX1_takeEnter_27 rfl (lv_at hl 1 rfl) ?_
    refine lv_icmp_ne (tgt := 39) hx hb dX1_takeEnter_28 (by decide) (fun c_28 => ?_) (fun c_28 => ?_)
    · skip
      have c_28 := pi_ne c_28
      exact J_39 _ _ _ _ V I (A.wk (by decide)) (lv_sub hl [0, 1, 2] rfl) 
    · skip
      have c_28 := pi_eq.mp c_28
      refine lv_aload_n hx hb dX1_takeEnter_31 rfl (lv_at hl 2 rfl) ?_
      refine lv_iconst (v := 1) hx hb dX1_takeEnter_32 (by decide) ?_
      refine pk_i (pr_V M V (m_X5_isUpHere l S I (1 : Int32) ) km_X5_isUpHere (c_is_1 S) pC5 lkM_X1_70 rfl hl.1 rfl (Nat.le_of_ble_eq_true rfl) ⟨Nat.le_of_ble_eq_true rfl, Nat.le_of_ble_eq_true rfl⟩ ⟨Nat.le_of_ble_eq_true rfl, Nat.le_of_ble_eq_true rfl⟩ dX1_takeEnter_33) V (fun r2 Zr2 hr2 H locs pr2 _ _ V => ?_)
      obtain ⟨rfl, I, pA_r2, fr2_0⟩ := pr2
      have A := A.tr pA_r2 (by decide)
      refine lv_if_ne (tgt := 41) hx hb dX1_takeEnter_36 (by decide) (fun c_36 => ?_) (fun c_36 => ?_)
      · skip
        have k_0 : (0 : Int32).toInt = 0 := rfl
        have c_36 := pi_ne c_36
        refine lv_aload_n hx hb dX1_takeEnter_41 rfl (lv_at hl 0 rfl) ?_
        refine lv_iconst (v := 0) hx hb dX1_takeEnter_42 (by decide) ?_
        refine pp_i M V 1 3 (c_is_122 S) pC1 fk1_3 rfl lkF_X1_44 ⟨rfl, rfl⟩ dX1_takeEnter_43 (fun H locs V => ?_)
        have A := A.up (o := 122) (k := 3) (v := (0 : Int32)) (by decide)
        have I := I.up (k := 3) (v := (0 : Int32)) (c_is_122 S) (pi_full _)
        refine lv_iconst (v := 1) hx hb dX1_takeEnter_46 (by decide) ?_
        have k_1 : (1 : Int32).toInt = 1 := rfl
        exact pe_i M V rfl rfl hr hlk (pn_z (pi_z (by omega))).1 ⟨rfl, I, A.wk (by decide), by omega⟩ ⟨Nat.le_refl _, Nat.le_refl _⟩ dX1_takeEnter_47
      · skip
        have k_0 : (0 : Int32).toInt = 0 := rfl
        have c_36 := pi_eq.mp c_36
        exact J_39 _ _ _ _ V I (A.wk (by decide)) (lv_sub hl [0, 1, 2] rfl) 
  refine lv_aload_n hx hb dX1_takeEnter_0 rfl (lv_at hl 0 rfl) ?_
  refine pg_i M V 1 2 (c_is_122 S) pC1 fk1_2 lkF_X1_41 dX1_takeEnter_1 ?_
  refine lv_topi (fun v3 ev3 => ?_)
  refine lv_iload_n hx hb dX1_takeEnter_4 rfl (lv_at hl 1 rfl) ?_
  refine lv_icmp_eq (tgt := 10) hx hb dX1_takeEnter_5 (by decide) (fun c_5 => ?_) (fun c_5 => ?_)
  · skip
    have c_5 := pi_eq.mp c_5
    refine lv_aload_n hx hb dX1_takeEnter_10 rfl (lv_at hl 2 rfl) ?_
    refine lv_iconst (v := 1) hx hb dX1_takeEnter_11 (by decide) ?_
    refine pk_i (pr_V M V (m_X5_isDownHere l S I (1 : Int32) ) km_X5_isDownHere (c_is_1 S) pC5 lkM_X1_66 rfl hl.1 rfl (Nat.le_of_ble_eq_true rfl) ⟨Nat.le_of_ble_eq_true rfl, Nat.le_of_ble_eq_true rfl⟩ ⟨Nat.le_of_ble_eq_true rfl, Nat.le_of_ble_eq_true rfl⟩ dX1_takeEnter_12) V (fun r4 Zr4 hr4 H locs pr4 _ _ V => ?_)
    obtain ⟨rfl, I, pA_r4, fr4_0⟩ := pr4
    have A := A.tr pA_r4 (by decide)
    refine lv_if_eq (tgt := 23) hx hb dX1_takeEnter_15 (by decide) (fun c_15 => ?_) (fun c_15 => ?_)
    · skip
      have k_0 : (0 : Int32).toInt = 0 := rfl
      have c_15 := pi_eq.mp c_15
      exact J_23 _ _ _ _ V I (A.wk (by decide)) (lv_sub hl [0, 1, 2] rfl) 
    · skip
      have k_0 : (0 : Int32).toInt = 0 := rfl
      have c_15 := pi_ne c_15
      refine lv_aload_n hx hb dX1_takeEnter_18 rfl (lv_at hl 0 rfl) ?_
      refine lv_iload_n hx hb dX1_takeEnter_19 rfl (lv_at hl 1 rfl) ?_
      refine pp_i M V 1 3 (c_is_122 S) pC1 fk1_3 rfl lkF_X1_44 ⟨rfl, rfl⟩ dX1_takeEnter_20 (fun H locs V => ?_)
      have A := A.wk (l3 := [(122, 3)]) (by decide)
      have A := A.up (o := 122) (k := 3) (v := id) (by decide)
      have I := I.up (k := 3) (v := id) (c_is_122 S) (pi_full _)
      exact J_23 _ _ _ _ V I (A.wk (by decide)) (lv_sub hl [0, 1, 2] rfl) 
  · skip
    have c_5 := pi_ne c_5
    refine lv_iconst (v := 0) hx hb dX1_takeEnter_8 (by decide) ?_
    have k_0 : (0 : Int32).toInt = 0 := rfl
    exact pe_i M V rfl rfl hr hlk (pn_z (pi_z (by omega))).1 ⟨rfl, I, A.wk (by decide), by omega⟩ ⟨Nat.le_refl _, Nat.le_refl _⟩ dX1_takeEnter_9
theorem dX1_behave_0 : decode cX1_behave 0 = .ok (.iload_n 2, 1) := by decide +kernel
theorem dX1_behave_1 : decode cX1_behave 1 = .ok (.ifCond .eq 29, 3) := by decide +kernel
theorem dX1_behave_4 : decode cX1_behave 4 = .ok (.aload_n 0, 1) := by decide +kernel
theorem dX1_behave_5 : decode cX1_behave 5 = .ok (.getfield 9, 3) := by decide +kernel
theorem dX1_behave_8 : decode cX1_behave 8 = .ok (.ifCond .ne 22, 3) := by decide +kernel
theorem dX1_behave_11 : decode cX1_behave 11 = .ok (.aload_n 0, 1) := by decide +kernel
theorem dX1_behave_12 : decode cX1_behave 12 = .ok (.getfield 34, 3) := by decide +kernel
theorem dX1_behave_15 : decode cX1_behave 15 = .ok (.ifCond .eq 11, 3) := by decide +kernel
theorem dX1_behave_18 : decode cX1_behave 18 = .ok (.aload_n 0, 1) := by decide +kernel
theorem dX1_behave_19 : decode cX1_behave 19 = .ok (.getfield 34, 3) := by decide +kernel
theorem dX1_behave_22 : decode cX1_behave 22 = .ok (.iload_n 1, 1) := by decide +kernel
theorem dX1_behave_23 : decode cX1_behave 23 = .ok (.if_icmp .ne 7, 3) := by decide +kernel
theorem dX1_behave_26 : decode cX1_behave 26 = .ok (.iconst 1, 1) := by decide +kernel
theorem dX1_behave_27 : decode cX1_behave 27 = .ok (.goto 4, 3) := by decide +kernel
theorem dX1_behave_30 : decode cX1_behave 30 = .ok (.iconst 0, 1) := by decide +kernel
theorem dX1_behave_31 : decode cX1_behave 31 = .ok (.istore 4, 2) := by decide +kernel
theorem dX1_behave_33 : decode cX1_behave 33 = .ok (.iload 4, 2) := by decide +kernel
theorem dX1_behave_35 : decode cX1_behave 35 = .ok (.ifCond .eq 8, 3) := by decide +kernel
theorem dX1_behave_38 : decode cX1_behave 38 = .ok (.aload_n 0, 1) := by decide +kernel
theorem dX1_behave_39 : decode cX1_behave 39 = .ok (.iload_n 1, 1) := by decide +kernel
theorem dX1_behave_40 : decode cX1_behave 40 = .ok (.putfield 9, 3) := by decide +kernel
theorem dX1_behave_43 : decode cX1_behave 43 = .ok (.aload_n 0, 1) := by decide +kernel
theorem dX1_behave_44 : decode cX1_behave 44 = .ok (.getfield 15, 3) := by decide +kernel
theorem dX1_behave_47 : decode cX1_behave 47 = .ok (.ifCond .ne 8, 3) := by decide +kernel
theorem dX1_behave_50 : decode cX1_behave 50 = .ok (.aload_n 0, 1) := by decide +kernel
theorem dX1_behave_51 : decode cX1_behave 51 = .ok (.iload_n 1, 1) := by decide +kernel
theorem dX1_behave_52 : decode cX1_behave 52 = .ok (.putfield 15, 3) := by decide +kernel
theorem dX1_behave_55 : decode cX1_behave 55 = .ok (.aload_n 0, 1) := by decide +kernel
theorem dX1_behave_56 : decode cX1_behave 56 = .ok (.iload_n 1, 1) := by decide +kernel
theorem dX1_behave_57 : decode cX1_behave 57 = .ok (.aload_n 3, 1) := by decide +kernel
theorem dX1_behave_58 : decode cX1_behave 58 = .ok (.invokevirtual 47, 3) := by decide +kernel
theorem dX1_behave_61 : decode cX1_behave 61 = .ok (.iload 4, 2) := by decide +kernel
theorem dX1_behave_63 : decode cX1_behave 63 = .ok (.ifCond .eq 27, 3) := by decide +kernel
theorem dX1_behave_66 : decode cX1_behave 66 = .ok (.aload_n 3, 1) := by decide +kernel
theorem dX1_behave_67 : decode cX1_behave 67 = .ok (.getfield 51, 3) := by decide +kernel
theorem dX1_behave_70 : decode cX1_behave 70 = .ok (.ifCond .eq 20, 3) := by decide +kernel
theorem dX1_behave_73 : decode cX1_behave 73 = .ok (.aload_n 0, 1) := by decide +kernel
theorem dX1_behave_74 : decode cX1_behave 74 = .ok (.getfield 34, 3) := by decide +kernel
theorem dX1_behave_77 : decode cX1_behave 77 = .ok (.ifCond .ne 13, 3) := by decide +kernel
theorem dX1_behave_80 : decode cX1_behave 80 = .ok (.aload_n 0, 1) := by decide +kernel
theorem dX1_behave_81 : decode cX1_behave 81 = .ok (.iload_n 1, 1) := by decide +kernel
theorem dX1_behave_82 : decode cX1_behave 82 = .ok (.putfield 34, 3) := by decide +kernel
theorem dX1_behave_85 : decode cX1_behave 85 = .ok (.aload_n 0, 1) := by decide +kernel
theorem dX1_behave_86 : decode cX1_behave 86 = .ok (.iload_n 1, 1) := by decide +kernel
theorem dX1_behave_87 : decode cX1_behave 87 = .ok (.invokevirtual 37, 3) := by decide +kernel
theorem dX1_behave_90 : decode cX1_behave 90 = .ok (.iconst 0, 1) := by decide +kernel
theorem dX1_behave_91 : decode cX1_behave 91 = .ok (.istore 5, 2) := by decide +kernel
theorem dX1_behave_93 : decode cX1_behave 93 = .ok (.aload_n 0, 1) := by decide +kernel
theorem dX1_behave_94 : decode cX1_behave 94 = .ok (.getfield 34, 3) := by decide +kernel
theorem dX1_behave_97 : decode cX1_behave 97 = .ok (.iload_n 1, 1) := by decide +kernel
theorem dX1_behave_98 : decode cX1_behave 98 = .ok (.if_icmp .ne 19, 3) := by decide +kernel
theorem dX1_behave_101 : decode cX1_behave 101 = .ok (.aload_n 3, 1) := by decide +kernel
theorem dX1_behave_102 : decode cX1_behave 102 = .ok (.getfield 56, 3) := by decide +kernel
theorem dX1_behave_105 : decode cX1_behave 105 = .ok (.ifCond .eq 12, 3) := by decide +kernel
theorem dX1_behave_108 : decode cX1_behave 108 = .ok (.aload_n 0, 1) := by decide +kernel
theorem dX1_behave_109 : decode cX1_behave 109 = .ok (.iconst 0, 1) := by decide +kernel
theorem dX1_behave_110 : decode cX1_behave 110 = .ok (.putfield 34, 3) := by decide +kernel
theorem dX1_behave_113 : decode cX1_behave 113 = .ok (.iload 4, 2) := by decide +kernel
theorem dX1_behave_115 : decode cX1_behave 115 = .ok (.istore 5, 2) := by decide +kernel
theorem dX1_behave_117 : decode cX1_behave 117 = .ok (.iload 5, 2) := by decide +kernel
theorem dX1_behave_119 : decode cX1_behave 119 = .ok (.aload_n 0, 1) := by decide +kernel
theorem dX1_behave_120 : decode cX1_behave 120 = .ok (.iload_n 1, 1) := by decide +kernel
theorem dX1_behave_121 : decode cX1_behave 121 = .ok (.aload_n 3, 1) := by decide +kernel
theorem dX1_behave_122 : decode cX1_behave 122 = .ok (.invokevirtual 59, 3) := by decide +kernel
theorem dX1_behave_125 : decode cX1_behave 125 = .ok (.ior, 1) := by decide +kernel
theorem dX1_behave_126 : decode cX1_behave 126 = .ok (.istore 5, 2) := by decide +kernel
theorem dX1_behave_128 : decode cX1_behave 128 = .ok (.aload_n 0, 1) := by decide +kernel
theorem dX1_behave_129 : decode cX1_behave 129 = .ok (.dup, 1) := by decide +kernel
theorem dX1_behave_130 : decode cX1_behave 130 = .ok (.getfield 25, 3) := by decide +kernel
theorem dX1_behave_133 : decode cX1_behave 133 = .ok (.aload_n 0, 1) := by decide +kernel
theorem dX1_behave_134 : decode cX1_behave 134 = .ok (.getfield 41, 3) := by decide +kernel
theorem dX1_behave_137 : decode cX1_behave 137 = .ok (.iload_n 1, 1) := by decide +kernel
theorem dX1_behave_138 : decode cX1_behave 138 = .ok (.if_icmp .ne 7, 3) := by decide +kernel
theorem dX1_behave_141 : decode cX1_behave 141 = .ok (.iconst 1, 1) := by decide +kernel
theorem dX1_behave_142 : decode cX1_behave 142 = .ok (.goto 4, 3) := by decide +kernel
theorem dX1_behave_145 : decode cX1_behave 145 = .ok (.iconst 0, 1) := by decide +kernel
theorem dX1_behave_146 : decode cX1_behave 146 = .ok (.ior, 1) := by decide +kernel
theorem dX1_behave_147 : decode cX1_behave 147 = .ok (.putfield 25, 3) := by decide +kernel
theorem dX1_behave_150 : decode cX1_behave 150 = .ok (.aload_n 0, 1) := by decide +kernel
theorem dX1_behave_151 : decode cX1_behave 151 = .ok (.iload_n 1, 1) := by decide +kernel
theorem dX1_behave_152 : decode cX1_behave 152 = .ok (.invokevirtual 63, 3) := by decide +kernel
theorem dX1_behave_155 : decode cX1_behave 155 = .ok (.iload 5, 2) := by decide +kernel
theorem dX1_behave_157 : decode cX1_behave 157 = .ok (.ireturn, 1) := by decide +kernel
set_option maxHeartbeats 4000000 in
set_option maxRecDepth 100000 in
theorem m_X1_behave (l : Launch) {Z : pZ} (S : pSh Z) {h : pH} (I : Iv Z h) (id : Int32) (over : Int32) (hov : 0 ≤ over.toInt ∧ over.toInt ≤ 1) : pMet l yX1_behave cX1_behave 6 (some .boolean) 3 0 0 65 Z h [.ref (zB Z + 122), .int id, .int over, .ref (zB Z + 1)] (pQi Z (fun r Z1 h1 => Z = Z1 ∧ Iv Z h1 ∧ agrD [(122, 1000)] h h1 ∧ (r.toInt = 0 ∨ r.toInt = 1))) := by
  refine pOfW (lv := [(0, .ref (zB Z + 122)), (1, .int id), (2, .int over), (3, .ref (zB Z + 1))]) (by decide) (Nat.le_of_ble_eq_true rfl) rfl ?_
  intro p e s m below meth c ls M hr hlk hnm V hl
  have hx := M.1.1
  have hb := M.1.2.1
  have A : agrD [] h h := agrD.rf
  have J_146 : ∀ (x146_4 : Int32) (x146_5 : Int32) (y146_0 : Int32) (y146_1 : Int32) (hJ : pH) (H : Heap) (locs : List Loc) (ls : Array Slot), pV Z hJ s.heap H locs → Iv Z hJ → agrD [(122, 1), (122, 4), (122, 1000)] h hJ → lv_has ls 6 [(0, .ref (zB Z + 122)), (1, .int id), (2, .int over), (3, .ref (zB Z + 1)), (4, .int x146_4), (5, .int x146_5)] → (0 ≤ over.toInt ∧ over.toInt ≤ 1) → (0 ≤ x146_4.toInt ∧ x146_4.toInt ≤ 1) → (0 ≤ x146_5.toInt ∧ x146_5.toInt ≤ 1) → (0 ≤ y146_0.toInt ∧ y146_0.toInt ≤ 1) → (0 ≤ y146_1.toInt ∧ y146_1.toInt ≤ 1) → W p l e (pRm 3 0 0 65) s m ([.ref (zB Z + 122), .int id, .int over, .ref (zB Z + 1)] : List Value).toArray below meth c H locs 0 0 (MQ below (pQi Z (fun r Z1 h1 => Z = Z1 ∧ Iv Z h1 ∧ agrD [(122, 1000)] h h1 ∧ (r.toInt = 0 ∨ r.toInt = 1))) ([.ref (zB Z + 122), .int id, .int over, .ref (zB Z + 1)] : List Value).toArray s 0 0 (pA (zB Z))) (F0 m 146 ls [.int y146_0, .int y146_1, .ref (zB Z + 122)]) := by
    intro x146_4 x146_5 y146_0 y146_1 hJ H locs ls V I A hl g_146_2 g_146_4 g_146_5 gs_146_0 gs_146_1
    refine lv_ior hx hb dX1_behave_146 ?_
    refine lv_topi (fun v1 ev1 => ?_)
    have tv1 : 0 ≤ v1.toInt ∧ v1.toInt ≤ 1 := by rw [ev1]; exact pi_or01 (by omega) (by omega)
    have z_147 : v1 = 0 ∨ v1 = 1 := pi_z (by omega)
    refine pp_i M V 1 7 (c_is_122 S) pC1 fk1_7 rfl lkF_X1_25 ⟨(pn_z z_147).1, (pn_z z_147).2.1⟩ dX1_behave_147 (fun H locs V => ?_)
    have A := A.up (o := 122) (k := 7) (v := v1) (by decide)
    have I := I.up (k := 7) (v := v1) (c_is_122 S) (show (0 : Int) ≤ v1.toInt ∧ v1.toInt ≤ (1 : Int) by omega)
    refine lv_aload_n hx hb dX1_behave_150 rfl (lv_at hl 0 rfl) ?_
    refine lv_iload_n hx hb dX1_behave_151 rfl (lv_at hl 1 rfl) ?_
    refine pk_v (pr_V M V (m_X1_noteTold l S I id ) km_X1_noteTold (c_is_122 S) pC1 lkM_X1_63 rfl hl.1 rfl (Nat.le_of_ble_eq_true rfl) ⟨Nat.le_of_ble_eq_true rfl, Nat.le_of_ble_eq_true rfl⟩ ⟨Nat.le_of_ble_eq_true rfl, Nat.le_of_ble_eq_true rfl⟩ dX1_behave_152) V (fun Zr2 hr2 H locs pr2 _ _ V => ?_)
    obtain ⟨rfl, I, pA_r2⟩ := pr2
    have A := A.tr pA_r2 (by decide)
    refine lv_iload hx hb dX1_behave_155 (lv_at hl 5 rfl) ?_
    exact pe_i M V rfl rfl hr hlk (pn_z (pi_z (by omega))).1 ⟨rfl, I, A.wk (by decide), by omega⟩ ⟨Nat.le_refl _, Nat.le_refl _⟩ dX1_behave_157
  have J_117 : ∀ (x117_4 : Int32) (x117_5 : Int32) (hJ : pH) (H : Heap) (locs : List Loc) (ls : Array Slot), pV Z hJ s.heap H locs → Iv Z hJ → agrD [(122, 1), (122, 4), (122, 1000)] h hJ → lv_has ls 6 [(0, .ref (zB Z + 122)), (1, .int id), (2, .int over), (3, .ref (zB Z + 1)), (4, .int x117_4), (5, .int x117_5)] → (0 ≤ over.toInt ∧ over.toInt ≤ 1) → (0 ≤ x117_4.toInt ∧ x117_4.toInt ≤ 1) → (0 ≤ x117_5.toInt ∧ x117_5.toInt ≤ 1) → W p l e (pRm 3 0 0 65) s m ([.ref (zB Z + 122), .int id, .int over, .ref (zB Z + 1)] : List Value).toArray below meth c H locs 0 0 (MQ below (pQi Z (fun r Z1 h1 => Z = Z1 ∧ Iv Z h1 ∧ agrD [(122, 1000)] h h1 ∧ (r.toInt = 0 ∨ r.toInt = 1))) ([.ref (zB Z + 122), .int id, .int over, .ref (zB Z + 1)] : List Value).toArray s 0 0 (pA (zB Z))) (F0 m 117 ls []) := by
    intro x117_4 x117_5 hJ H locs ls V I A hl g_117_2 g_117_4 g_117_5
    refine lv_iload hx hb dX1_behave_117 (lv_at hl 5 rfl) ?_
    refine lv_aload_n hx hb dX1_behave_119 rfl (lv_at hl 0 rfl) ?_
    refine lv_iload_n hx hb dX1_behave_120 rfl (lv_at hl 1 rfl) ?_
    refine lv_aload_n hx hb dX1_behave_121 rfl (lv_at hl 3 rfl) ?_
    refine pk_i (pr_V M V (m_X1_takeEnter l S I id  ) km_X1_takeEnter (c_is_122 S) pC1 lkM_X1_59 rfl hl.1 rfl (Nat.le_of_ble_eq_true rfl) ⟨Nat.le_of_ble_eq_true rfl, Nat.le_of_ble_eq_true rfl⟩ ⟨Nat.le_of_ble_eq_true rfl, Nat.le_of_ble_eq_true rfl⟩ dX1_behave_122) V (fun r3 Zr3 hr3 H locs pr3 _ _ V => ?_)
    obtain ⟨rfl, I, pA_r3, fr3_0⟩ := pr3
    have A := A.tr pA_r3 (by decide)
    refine lv_ior hx hb dX1_behave_125 ?_
    refine lv_topi (fun v4 ev4 => ?_)
    refine lv_istore (lv' := [(5, .int v4), (0, .ref (zB Z + 122)), (1, .int id), (2, .int over), (3, .ref (zB Z + 1)), (4, .int x117_4)]) hx hb dX1_behave_126 hl (by decide) rfl (fun ls hl => ?_)
    refine lv_aload_n hx hb dX1_behave_128 rfl (lv_at hl 1 rfl) ?_
    refine lv_dup hx hb dX1_behave_129 rfl ?_
    refine pg_i M V 1 7 (c_is_122 S) pC1 fk1_7 lkF_X1_25 dX1_behave_130 ?_
    refine lv_topi (fun v5 ev5 => ?_)
    have tv5 : 0 ≤ v5.toInt ∧ v5.toInt ≤ 1 := by rw [ev5]; exact I.get (c_is_122 S) 7
    refine lv_aload_n hx hb dX1_behave_133 rfl (lv_at hl 1 rfl) ?_
    refine pg_i M V 1 2 (c_is_122 S) pC1 fk1_2 lkF_X1_41 dX1_behave_134 ?_
    refine lv_topi (fun v6 ev6 => ?_)
    refine lv_iload_n hx hb dX1_behave_137 rfl (lv_at hl 2 rfl) ?_
    refine lv_icmp_ne (tgt := 145) hx hb dX1_behave_138 (by decide) (fun c_138 => ?_) (fun c_138 => ?_)
    · skip
      have c_138 := pi_ne c_138
      refine lv_iconst (v := 0) hx hb dX1_behave_145 (by decide) ?_
      have tv4 : 0 ≤ v4.toInt ∧ v4.toInt ≤ 1 := by rw [ev4]; exact pi_or01 (by omega) (by omega)
      have k_0 : (0 : Int32).toInt = 0 := rfl
      exact J_146 x117_4 v4 (0 : Int32) v5 _ _ _ _ V I (A.wk (by decide)) (lv_sub hl [1, 2, 3, 4, 5, 0] rfl) (by omega) (by omega) (by omega) (by omega) (by omega) 
    · skip
      have c_138 := pi_eq.mp c_138
      refine lv_iconst (v := 1) hx hb dX1_behave_141 (by decide) ?_
      refine lv_goto (tgt := 146) hx hb dX1_behave_142 (by decide) ?_
      have tv4 : 0 ≤ v4.toInt ∧ v4.toInt ≤ 1 := by rw [ev4]; exact pi_or01 (by omega) (by omega)
      have k_1 : (1 : Int32).toInt = 1 := rfl
      exact J_146 x117_4 v4 (1 : Int32) v5 _ _ _ _ V I (A.wk (by decide)) (lv_sub hl [1, 2, 3, 4, 5, 0] rfl) (by omega) (by omega) (by omega) (by omega) (by omega) 
  have J_90 : ∀ (x90_4 : Int32) (hJ : pH) (H : Heap) (locs : List Loc) (ls : Array Slot), pV Z hJ s.heap H locs → Iv Z hJ → agrD [(122, 1), (122, 4), (122, 1000)] h hJ → lv_has ls 6 [(0, .ref (zB Z + 122)), (1, .int id), (2, .int over), (3, .ref (zB Z + 1)), (4, .int x90_4)] → (0 ≤ over.toInt ∧ over.toInt ≤ 1) → (0 ≤ x90_4.toInt ∧ x90_4.toInt ≤ 1) → W p l e (pRm 3 0 0 65) s m ([.ref (zB Z + 122), .int id, .int over, .ref (zB Z + 1)] : List Value).toArray below meth c H locs 0 0 (MQ below (pQi Z (fun r Z1 h1 => Z = Z1 ∧ Iv Z h1 ∧ agrD [(122, 1000)] h h1 ∧ (r.toInt = 0 ∨ r.toInt = 1))) ([.ref (zB Z + 122), .int id, .int over, .ref (zB Z + 1)] : List Value).toArray s 0 0 (pA (zB Z))) (F0 m 90 ls []) := by
    intro x90_4 hJ H locs ls V I A hl g_90_2 g_90_4
    refine lv_iconst (v := 0) hx hb dX1_behave_90 (by decide) ?_
    refine lv_istore (lv' := [(5, .int (0 : Int32)), (0, .ref (zB Z + 122)), (1, .int id), (2, .int over), (3, .ref (zB Z + 1)), (4, .int x90_4)]) hx hb dX1_behave_91 hl (by decide) rfl (fun ls hl => ?_)
    refine lv_aload_n hx hb dX1_behave_93 rfl (lv_at hl 1 rfl) ?_
    refine pg_i M V 1 0 (c_is_122 S) pC1 fk1_0 lkF_X1_34 dX1_behave_94 ?_
    refine lv_topi (fun v7 ev7 => ?_)
    refine lv_iload_n hx hb dX1_behave_97 rfl (lv_at hl 2 rfl) ?_
    refine lv_icmp_ne (tgt := 117) hx hb dX1_behave_98 (by decide) (fun c_98 => ?_) (fun c_98 => ?_)
    · skip
      have c_98 := pi_ne c_98
      have k_0 : (0 : Int32).toInt = 0 := rfl
      exact J_117 x90_4 (0 : Int32) _ _ _ _ V I (A.wk (by decide)) (lv_sub hl [1, 2, 3, 4, 5, 0] rfl) (by omega) (by omega) (by omega) 
    · skip
      have c_98 := pi_eq.mp c_98
      refine lv_aload_n hx hb dX1_behave_101 rfl (lv_at hl 4 rfl) ?_
      refine pg_i M V 5 15 (c_is_1 S) pC5 fk5_15 lkF_X1_56 dX1_behave_102 ?_
      refine lv_topi (fun v8 ev8 => ?_)
      have tv8 : 0 ≤ v8.toInt ∧ v8.toInt ≤ 1 := by rw [ev8]; exact I.get (c_is_1 S) 15
      refine lv_if_eq (tgt := 117) hx hb dX1_behave_105 (by decide) (fun c_105 => ?_) (fun c_105 => ?_)
      · skip
        have k_0 : (0 : Int32).toInt = 0 := rfl
        have c_105 := pi_eq.mp c_105
        exact J_117 x90_4 (0 : Int32) _ _ _ _ V I (A.wk (by decide)) (lv_sub hl [1, 2, 3, 4, 5, 0] rfl) (by omega) (by omega) (by omega) 
      · skip
        have k_0 : (0 : Int32).toInt = 0 := rfl
        have c_105 := pi_ne c_105
        refine lv_aload_n hx hb dX1_behave_108 rfl (lv_at hl 1 rfl) ?_
        refine lv_iconst (v := 0) hx hb dX1_behave_109 (by decide) ?_
        refine pp_i M V 1 0 (c_is_122 S) pC1 fk1_0 rfl lkF_X1_34 ⟨rfl, rfl⟩ dX1_behave_110 (fun H locs V => ?_)
        have A := A.up (o := 122) (k := 0) (v := (0 : Int32)) (by decide)
        have I := I.up (k := 0) (v := (0 : Int32)) (c_is_122 S) (pi_full _)
        refine lv_iload hx hb dX1_behave_113 (lv_at hl 5 rfl) ?_
        refine lv_istore (lv' := [(5, .int x90_4), (0, .ref (zB Z + 122)), (1, .int id), (2, .int over), (3, .ref (zB Z + 1)), (4, .int x90_4)]) hx hb dX1_behave_115 hl (by decide) rfl (fun ls hl => ?_)
        exact J_117 x90_4 x90_4 _ _ _ _ V I (A.wk (by decide)) (lv_sub hl [1, 2, 3, 4, 5, 0] rfl) (by omega) (by omega) (by omega) 
  have J_55 : ∀ (x55_4 : Int32) (hJ : pH) (H : Heap) (locs : List Loc) (ls : Array Slot), pV Z hJ s.heap H locs → Iv Z hJ → agrD [(122, 1), (122, 4)] h hJ → lv_has ls 6 [(0, .ref (zB Z + 122)), (1, .int id), (2, .int over), (3, .ref (zB Z + 1)), (4, .int x55_4)] → (0 ≤ over.toInt ∧ over.toInt ≤ 1) → (0 ≤ x55_4.toInt ∧ x55_4.toInt ≤ 1) → W p l e (pRm 3 0 0 65) s m ([.ref (zB Z + 122), .int id, .int over, .ref (zB Z + 1)] : List Value).toArray below meth c H locs 0 0 (MQ below (pQi Z (fun r Z1 h1 => Z = Z1 ∧ Iv Z h1 ∧ agrD [(122, 1000)] h h1 ∧ (r.toInt = 0 ∨ r.toInt = 1))) ([.ref (zB Z + 122), .int id, .int over, .ref (zB Z + 1)] : List Value).toArray s 0 0 (pA (zB Z))) (F0 m 55 ls []) := by
    intro x55_4 hJ H locs ls V I A hl g_55_2 g_55_4
    refine lv_aload_n hx hb dX1_behave_55 rfl (lv_at hl 0 rfl) ?_
    refine lv_iload_n hx hb dX1_behave_56 rfl (lv_at hl 1 rfl) ?_
    refine lv_aload_n hx hb dX1_behave_57 rfl (lv_at hl 3 rfl) ?_
    refine pk_v (pr_V M V (m_X1_takeTab l S I id  ) km_X1_takeTab (c_is_122 S) pC1 lkM_X1_47 rfl hl.1 rfl (Nat.le_of_ble_eq_true rfl) ⟨Nat.le_of_ble_eq_true rfl, Nat.le_of_ble_eq_true rfl⟩ ⟨Nat.le_of_ble_eq_true rfl, Nat.le_of_ble_eq_true rfl⟩ dX1_behave_58) V (fun Zr9 hr9 H locs pr9 _ _ V => ?_)
    obtain ⟨rfl, I, pA_r9⟩ := pr9
    have A := A.wk (l3 := [(122, 1), (122, 4), (122, 1000)]) (by decide)
    have A := A.tr pA_r9 (by decide)
    refine lv_iload hx hb dX1_behave_61 (lv_at hl 4 rfl) ?_
    refine lv_if_eq (tgt := 90) hx hb dX1_behave_63 (by decide) (fun c_63 => ?_) (fun c_63 => ?_)
    · skip
      have k_0 : (0 : Int32).toInt = 0 := rfl
      have c_63 := pi_eq.mp c_63
      exact J_90 x55_4 _ _ _ _ V I (A.wk (by decide)) (lv_sub hl [0, 1, 2, 3, 4] rfl) (by omega) (by omega) 
    · skip
      have k_0 : (0 : Int32).toInt = 0 := rfl
      have c_63 := pi_ne c_63
      refine lv_aload_n hx hb dX1_behave_66 rfl (lv_at hl 3 rfl) ?_
      refine pg_i M V 5 14 (c_is_1 S) pC5 fk5_14 lkF_X1_51 dX1_behave_67 ?_
      refine lv_topi (fun v10 ev10 => ?_)
      have tv10 : 0 ≤ v10.toInt ∧ v10.toInt ≤ 1 := by rw [ev10]; exact I.get (c_is_1 S) 14
      refine lv_if_eq (tgt := 90) hx hb dX1_behave_70 (by decide) (fun c_70 => ?_) (fun c_70 => ?_)
      · skip
        have c_70 := pi_eq.mp c_70
        exact J_90 x55_4 _ _ _ _ V I (A.wk (by decide)) (lv_sub hl [0, 1, 2, 3, 4] rfl) (by omega) (by omega) 
      · skip
        have c_70 := pi_ne c_70
        refine lv_aload_n hx hb dX1_behave_73 rfl (lv_at hl 0 rfl) ?_
        refine pg_i M V 1 0 (c_is_122 S) pC1 fk1_0 lkF_X1_34 dX1_behave_74 ?_
        refine lv_topi (fun v11 ev11 => ?_)
        refine lv_if_ne (tgt := 90) hx hb dX1_behave_77 (by decide) (fun c_77 => ?_) (fun c_77 => ?_)
        · skip
          have c_77 := pi_ne c_77
          exact J_90 x55_4 _ _ _ _ V I (A.wk (by decide)) (lv_sub hl [0, 1, 2, 3, 4] rfl) (by omega) (by omega) 
        · skip
          have c_77 := pi_eq.mp c_77
          refine lv_aload_n hx hb dX1_behave_80 rfl (lv_at hl 0 rfl) ?_
          refine lv_iload_n hx hb dX1_behave_81 rfl (lv_at hl 1 rfl) ?_
          refine pp_i M V 1 0 (c_is_122 S) pC1 fk1_0 rfl lkF_X1_34 ⟨rfl, rfl⟩ dX1_behave_82 (fun H locs V => ?_)
          have A := A.up (o := 122) (k := 0) (v := id) (by decide)
          have I := I.up (k := 0) (v := id) (c_is_122 S) (pi_full _)
          refine lv_aload_n hx hb dX1_behave_85 rfl (lv_at hl 0 rfl) ?_
          refine lv_iload_n hx hb dX1_behave_86 rfl (lv_at hl 1 rfl) ?_
          refine pk_v (pr_V M V (m_X1_giveFocus l S I id ) km_X1_giveFocus (c_is_122 S) pC1 lkM_X1_37 rfl hl.1 rfl (Nat.le_of_ble_eq_true rfl) ⟨Nat.le_of_ble_eq_true rfl, Nat.le_of_ble_eq_true rfl⟩ ⟨Nat.le_of_ble_eq_true rfl, Nat.le_of_ble_eq_true rfl⟩ dX1_behave_87) V (fun Zr12 hr12 H locs pr12 _ _ V => ?_)
          obtain ⟨rfl, I, pA_r12⟩ := pr12
          have A := A.tr pA_r12 (by decide)
          exact J_90 x55_4 _ _ _ _ V I (A.wk (by decide)) (lv_sub hl [0, 1, 2, 3, 4] rfl) (by omega) (by omega) 
  have J_43 : ∀ (x43_4 : Int32) (hJ : pH) (H : Heap) (locs : List Loc) (ls : Array Slot), pV Z hJ s.heap H locs → Iv Z hJ → agrD [(122, 1)] h hJ → lv_has ls 6 [(0, .ref (zB Z + 122)), (1, .int id), (2, .int over), (3, .ref (zB Z + 1)), (4, .int x43_4)] → (0 ≤ over.toInt ∧ over.toInt ≤ 1) → (0 ≤ x43_4.toInt ∧ x43_4.toInt ≤ 1) → W p l e (pRm 3 0 0 65) s m ([.ref (zB Z + 122), .int id, .int over, .ref (zB Z + 1)] : List Value).toArray below meth c H locs 0 0 (MQ below (pQi Z (fun r Z1 h1 => Z = Z1 ∧ Iv Z h1 ∧ agrD [(122, 1000)] h h1 ∧ (r.toInt = 0 ∨ r.toInt = 1))) ([.ref (zB Z + 122), .int id, .int over, .ref (zB Z + 1)] : List Value).toArray s 0 0 (pA (zB Z))) (F0 m 43 ls []) := by
    intro x43_4 hJ H locs ls V I A hl g_43_2 g_43_4
    refine lv_aload_n hx hb dX1_behave_43 rfl (lv_at hl 0 rfl) ?_
    refine pg_i M V 1 4 (c_is_122 S) pC1 fk1_4 lkF_X1_15 dX1_behave_44 ?_
    refine lv_topi (fun v13 ev13 => ?_)
    refine lv_if_ne (tgt := 55) hx hb dX1_behave_47 (by decide) (fun c_47 => ?_) (fun c_47 => ?_)
    · skip
      have k_0 : (0 : Int32).toInt = 0 := rfl
      have c_47 := pi_ne c_47
      exact J_55 x43_4 _ _ _ _ V I (A.wk (by decide)) (lv_sub hl [0, 1, 2, 3, 4] rfl) (by omega) (by omega) 
    · skip
      have k_0 : (0 : Int32).toInt = 0 := rfl
      have c_47 := pi_eq.mp c_47
      refine lv_aload_n hx hb dX1_behave_50 rfl (lv_at hl 0 rfl) ?_
      refine lv_iload_n hx hb dX1_behave_51 rfl (lv_at hl 1 rfl) ?_
      refine pp_i M V 1 4 (c_is_122 S) pC1 fk1_4 rfl lkF_X1_15 ⟨rfl, rfl⟩ dX1_behave_52 (fun H locs V => ?_)
      have A := A.wk (l3 := [(122, 1), (122, 4)]) (by decide)
      have A := A.up (o := 122) (k := 4) (v := id) (by decide)
      have I := I.up (k := 4) (v := id) (c_is_122 S) (pi_full _)
      exact J_55 x43_4 _ _ _ _ V I (A.wk (by decide)) (lv_sub hl [0, 1, 2, 3, 4] rfl) (by omega) (by omega) 
  have J_31 : ∀ (y31_0 : Int32) (hJ : pH) (H : Heap) (locs : List Loc) (ls : Array Slot), pV Z hJ s.heap H locs → Iv Z hJ → agrD [] h hJ → lv_has ls 6 [(0, .ref (zB Z + 122)), (1, .int id), (2, .int over), (3, .ref (zB Z + 1))] → (0 ≤ over.toInt ∧ over.toInt ≤ 1) → (0 ≤ y31_0.toInt ∧ y31_0.toInt ≤ 1) → W p l e (pRm 3 0 0 65) s m ([.ref (zB Z + 122), .int id, .int over, .ref (zB Z + 1)] : List Value).toArray below meth c H locs 0 0 (MQ below (pQi Z (fun r Z1 h1 => Z = Z1 ∧ Iv Z h1 ∧ agrD [(122, 1000)] h h1 ∧ (r.toInt = 0 ∨ r.toInt = 1))) ([.ref (zB Z + 122), .int id, .int over, .ref (zB Z + 1)] : List Value).toArray s 0 0 (pA (zB Z))) (F0 m 31 ls [.int y31_0]) := by
    intro y31_0 hJ H locs ls V I A hl g_31_2 gs_31_0
    refine lv_istore (lv' := [(4, .int y31_0), (0, .ref (zB Z + 122)), (1, .int id), (2, .int over), (3, .ref (zB Z + 1))]) hx hb dX1_behave_31 hl (by decide) rfl (fun ls hl => ?_)
    refine lv_iload hx hb dX1_behave_33 (lv_at hl 0 rfl) ?_
    refine lv_if_eq (tgt := 43) hx hb dX1_behave_35 (by decide) (fun c_35 => ?_) (fun c_35 => ?_)
    · skip
      have k_0 : (0 : Int32).toInt = 0 := rfl
      have c_35 := pi_eq.mp c_35
      exact J_43 y31_0 _ _ _ _ V I (A.wk (by decide)) (lv_sub hl [1, 2, 3, 4, 0] rfl) (by omega) (by omega) 
    · skip
      have k_0 : (0 : Int32).toInt = 0 := rfl
      have c_35 := pi_ne c_35
      refine lv_aload_n hx hb dX1_behave_38 rfl (lv_at hl 1 rfl) ?_
      refine lv_iload_n hx hb dX1_behave_39 rfl (lv_at hl 2 rfl) ?_
      refine pp_i M V 1 1 (c_is_122 S) pC1 fk1_1 rfl lkF_X1_9 ⟨rfl, rfl⟩ dX1_behave_40 (fun H locs V => ?_)
      have A := A.wk (l3 := [(122, 1)]) (by decide)
      have A := A.up (o := 122) (k := 1) (v := id) (by decide)
      have I := I.up (k := 1) (v := id) (c_is_122 S) (pi_full _)
      exact J_43 y31_0 _ _ _ _ V I (A.wk (by decide)) (lv_sub hl [1, 2, 3, 4, 0] rfl) (by omega) (by omega) 
  have J_30 : ∀ (hJ : pH) (H : Heap) (locs : List Loc) (ls : Array Slot), pV Z hJ s.heap H locs → Iv Z hJ → agrD [] h hJ → lv_has ls 6 [(0, .ref (zB Z + 122)), (1, .int id), (2, .int over), (3, .ref (zB Z + 1))] → (0 ≤ over.toInt ∧ over.toInt ≤ 1) → W p l e (pRm 3 0 0 65) s m ([.ref (zB Z + 122), .int id, .int over, .ref (zB Z + 1)] : List Value).toArray below meth c H locs 0 0 (MQ below (pQi Z (fun r Z1 h1 => Z = Z1 ∧ Iv Z h1 ∧ agrD [(122, 1000)] h h1 ∧ (r.toInt = 0 ∨ r.toInt = 1))) ([.ref (zB Z + 122), .int id, .int over, .ref (zB Z + 1)] : List Value).toArray s 0 0 (pA (zB Z))) (F0 m 30 ls []) := by
    intro hJ H locs ls V I A hl g_30_2
    refine lv_iconst (v := 0) hx hb dX1_behave_30 (by decide) ?_
    have k_0 : (0 : Int32).toInt = 0 := rfl
    exact J_31 (0 : Int32) _ _ _ _ V I (A.wk (by decide)) (lv_sub hl [0, 1, 2, 3] rfl) (by omega) (by omega) 
  have J_26 : ∀ (hJ : pH) (H : Heap) (locs : List Loc) (ls : Array Slot), pV Z hJ s.heap H locs → Iv Z hJ → agrD [] h hJ → lv_has ls 6 [(0, .ref (zB Z + 122)), (1, .int id), (2, .int over), (3, .ref (zB Z + 1))] → (1 ≤ over.toInt ∧ over.toInt ≤ 1) → W p l e (pRm 3 0 0 65) s m ([.ref (zB Z + 122), .int id, .int over, .ref (zB Z + 1)] : List Value).toArray below meth c H locs 0 0 (MQ below (pQi Z (fun r Z1 h1 => Z = Z1 ∧ Iv Z h1 ∧ agrD [(122, 1000)] h h1 ∧ (r.toInt = 0 ∨ r.toInt = 1))) ([.ref (zB Z + 122), .int id, .int over, .ref (zB Z + 1)] : List Value).toArray s 0 0 (pA (zB Z))) (F0 m 26 ls []) := by
    intro hJ H locs ls V I A hl g_26_2
    refine lv_iconst (v := 1) hx hb dX1_behave_26 (by decide) ?_
    refine lv_goto (tgt := 31) hx hb dX1_behave_27 (by decide) ?_
    have k_1 : (1 : Int32).toInt = 1 := rfl
    exact J_31 (1 : Int32) _ _ _ _ V I (A.wk (by decide)) (lv_sub hl [0, 1, 2, 3] rfl) (by omega) (by omega) 
  refine lv_iload_n hx hb dX1_behave_0 rfl (lv_at hl 2 rfl) ?_
  refine lv_if_eq (tgt := 30) hx hb dX1_behave_1 (by decide) (fun c_1 => ?_) (fun c_1 => ?_)
  · skip
    have k_0 : (0 : Int32).toInt = 0 := rfl
    have c_1 := pi_eq.mp c_1
    exact J_30 _ _ _ _ V I (A.wk (by decide)) (lv_sub hl [0, 1, 2, 3] rfl) (by omega) 
  · skip
    have k_0 : (0 : Int32).toInt = 0 := rfl
    have c_1 := pi_ne c_1
    refine lv_aload_n hx hb dX1_behave_4 rfl (lv_at hl 0 rfl) ?_
    refine pg_i M V 1 1 (c_is_122 S) pC1 fk1_1 lkF_X1_9 dX1_behave_5 ?_
    refine lv_topi (fun v14 ev14 => ?_)
    refine lv_if_ne (tgt := 30) hx hb dX1_behave_8 (by decide) (fun c_8 => ?_) (fun c_8 => ?_)
    · skip
      have c_8 := pi_ne c_8
      exact J_30 _ _ _ _ V I (A.wk (by decide)) (lv_sub hl [0, 1, 2, 3] rfl) (by omega) 
    · skip
      have c_8 := pi_eq.mp c_8
      refine lv_aload_n hx hb dX1_behave_11 rfl (lv_at hl 0 rfl) ?_
      refine pg_i M V 1 0 (c_is_122 S) pC1 fk1_0 lkF_X1_34 dX1_behave_12 ?_
      refine lv_topi (fun v15 ev15 => ?_)
      refine lv_if_eq (tgt := 26) hx hb dX1_behave_15 (by decide) (fun c_15 => ?_) (fun c_15 => ?_)
      · skip
        have c_15 := pi_eq.mp c_15
        exact J_26 _ _ _ _ V I (A.wk (by decide)) (lv_sub hl [0, 1, 2, 3] rfl) (by omega) 
      · skip
        have c_15 := pi_ne c_15
        refine lv_aload_n hx hb dX1_behave_18 rfl (lv_at hl 0 rfl) ?_
        refine pg_iv M V 1 0 (v := v15) (c_is_122 S) pC1 fk1_0 ev15.symm lkF_X1_34 dX1_behave_19 ?_
        refine lv_iload_n hx hb dX1_behave_22 rfl (lv_at hl 1 rfl) ?_
        refine lv_icmp_ne (tgt := 30) hx hb dX1_behave_23 (by decide) (fun c_23 => ?_) (fun c_23 => ?_)
        · skip
          have c_23 := pi_ne c_23
          exact J_30 _ _ _ _ V I (A.wk (by decide)) (lv_sub hl [0, 1, 2, 3] rfl) (by omega) 
        · skip
          have c_23 := pi_eq.mp c_23
          exact J_26 _ _ _ _ V I (A.wk (by decide)) (lv_sub hl [0, 1, 2, 3] rfl) (by omega) 
theorem dX1_finishFrame_0 : decode cX1_finishFrame 0 = .ok (.aload_n 1, 1) := by decide +kernel
theorem dX1_finishFrame_1 : decode cX1_finishFrame 1 = .ok (.iconst 0, 1) := by decide +kernel
theorem dX1_finishFrame_2 : decode cX1_finishFrame 2 = .ok (.invokevirtual 66, 3) := by decide +kernel
theorem dX1_finishFrame_5 : decode cX1_finishFrame 5 = .ok (.ifCond .eq 23, 3) := by decide +kernel
theorem dX1_finishFrame_8 : decode cX1_finishFrame 8 = .ok (.aload_n 0, 1) := by decide +kernel
theorem dX1_finishFrame_9 : decode cX1_finishFrame 9 = .ok (.getfield 28, 3) := by decide +kernel
theorem dX1_finishFrame_12 : decode cX1_finishFrame 12 = .ok (.ifCond .ne 16, 3) := by decide +kernel
theorem dX1_finishFrame_15 : decode cX1_finishFrame 15 = .ok (.aload_n 0, 1) := by decide +kernel
theorem dX1_finishFrame_16 : decode cX1_finishFrame 16 = .ok (.aload_n 0, 1) := by decide +kernel
theorem dX1_finishFrame_17 : decode cX1_finishFrame 17 = .ok (.getfield 15, 3) := by decide +kernel
theorem dX1_finishFrame_20 : decode cX1_finishFrame 20 = .ok (.invokevirtual 37, 3) := by decide +kernel
theorem dX1_finishFrame_23 : decode cX1_finishFrame 23 = .ok (.aload_n 0, 1) := by decide +kernel
theorem dX1_finishFrame_24 : decode cX1_finishFrame 24 = .ok (.iconst 1, 1) := by decide +kernel
theorem dX1_finishFrame_25 : decode cX1_finishFrame 25 = .ok (.putfield 22, 3) := by decide +kernel
theorem dX1_finishFrame_28 : decode cX1_finishFrame 28 = .ok (.aload_n 0, 1) := by decide +kernel
theorem dX1_finishFrame_29 : decode cX1_finishFrame 29 = .ok (.getfield 18, 3) := by decide +kernel
theorem dX1_finishFrame_32 : decode cX1_finishFrame 32 = .ok (.ifCond .ne 8, 3) := by decide +kernel
theorem dX1_finishFrame_35 : decode cX1_finishFrame 35 = .ok (.aload_n 0, 1) := by decide +kernel
theorem dX1_finishFrame_36 : decode cX1_finishFrame 36 = .ok (.iconst 0, 1) := by decide +kernel
theorem dX1_finishFrame_37 : decode cX1_finishFrame 37 = .ok (.putfield 34, 3) := by decide +kernel
theorem dX1_finishFrame_40 : decode cX1_finishFrame 40 = .ok (.aload_n 0, 1) := by decide +kernel
theorem dX1_finishFrame_41 : decode cX1_finishFrame 41 = .ok (.getfield 22, 3) := by decide +kernel
theorem dX1_finishFrame_44 : decode cX1_finishFrame 44 = .ok (.ifCond .ne 8, 3) := by decide +kernel
theorem dX1_finishFrame_47 : decode cX1_finishFrame 47 = .ok (.aload_n 0, 1) := by decide +kernel
theorem dX1_finishFrame_48 : decode cX1_finishFrame 48 = .ok (.iconst 0, 1) := by decide +kernel
theorem dX1_finishFrame_49 : decode cX1_finishFrame 49 = .ok (.invokevirtual 37, 3) := by decide +kernel
theorem dX1_finishFrame_52 : decode cX1_finishFrame 52 = .ok (.return_, 1) := by decide +kernel
set_option maxHeartbeats 4000000 in
set_option maxRecDepth 100000 in
theorem m_X1_finishFrame (l : Launch) {Z : pZ} (S : pSh Z) {h : pH} (I : Iv Z h)  : pMet l yX1_finishFrame cX1_finishFrame 2 none 2 0 0 43 Z h [.ref (zB Z + 122), .ref (zB Z + 1)] (pQv Z (fun Z1 h1 => Z = Z1 ∧ Iv Z h1 ∧ agrD [(122, 1000)] h h1)) := by
  refine pOfW (lv := [(0, .ref (zB Z + 122)), (1, .ref (zB Z + 1))]) (by decide) (Nat.le_of_ble_eq_true rfl) rfl ?_
  intro p e s m below meth c ls M hr hlk hnm V hl
  have hx := M.1.1
  have hb := M.1.2.1
  have A : agrD [] h h := agrD.rf
  have J_52 : ∀ (hJ : pH) (H : Heap) (locs : List Loc) (ls : Array Slot), pV Z hJ s.heap H locs → Iv Z hJ → agrD [(122, 1000)] h hJ → lv_has ls 2 [(0, .ref (zB Z + 122)), (1, .ref (zB Z + 1))] → W p l e (pRm 2 0 0 43) s m ([.ref (zB Z + 122), .ref (zB Z + 1)] : List Value).toArray below meth c H locs 0 0 (MQ below (pQv Z (fun Z1 h1 => Z = Z1 ∧ Iv Z h1 ∧ agrD [(122, 1000)] h h1)) ([.ref (zB Z + 122), .ref (zB Z + 1)] : List Value).toArray s 0 0 (pA (zB Z))) (F0 m 52 ls []) := by
    intro hJ H locs ls V I A hl
    exact pe_v M V rfl rfl hr hlk ⟨rfl, I, A.wk (by decide)⟩ ⟨Nat.le_refl _, Nat.le_refl _⟩ dX1_finishFrame_52
  have J_40 : ∀ (hJ : pH) (H : Heap) (locs : List Loc) (ls : Array Slot), pV Z hJ s.heap H locs → Iv Z hJ → agrD [(122, 1000)] h hJ → lv_has ls 2 [(0, .ref (zB Z + 122)), (1, .ref (zB Z + 1))] → W p l e (pRm 2 0 0 43) s m ([.ref (zB Z + 122), .ref (zB Z + 1)] : List Value).toArray below meth c H locs 0 0 (MQ below (pQv Z (fun Z1 h1 => Z = Z1 ∧ Iv Z h1 ∧ agrD [(122, 1000)] h h1)) ([.ref (zB Z + 122), .ref (zB Z + 1)] : List Value).toArray s 0 0 (pA (zB Z))) (F0 m 40 ls []) := by
    intro hJ H locs ls V I A hl
    refine lv_aload_n hx hb dX1_finishFrame_40 rfl (lv_at hl 0 rfl) ?_
    refine pg_i M V 1 6 (c_is_122 S) pC1 fk1_6 lkF_X1_22 dX1_finishFrame_41 ?_
    refine lv_topi (fun v1 ev1 => ?_)
    have tv1 : 0 ≤ v1.toInt ∧ v1.toInt ≤ 1 := by rw [ev1]; exact I.get (c_is_122 S) 6
    refine lv_if_ne (tgt := 52) hx hb dX1_finishFrame_44 (by decide) (fun c_44 => ?_) (fun c_44 => ?_)
    · skip
      have k_0 : (0 : Int32).toInt = 0 := rfl
      have c_44 := pi_ne c_44
      exact J_52 _ _ _ _ V I (A.wk (by decide)) (lv_sub hl [0, 1] rfl) 
    · skip
      have k_0 : (0 : Int32).toInt = 0 := rfl
      have c_44 := pi_eq.mp c_44
      refine lv_aload_n hx hb dX1_finishFrame_47 rfl (lv_at hl 0 rfl) ?_
      refine lv_iconst (v := 0) hx hb dX1_finishFrame_48 (by decide) ?_
      refine pk_v (pr_V M V (m_X1_giveFocus l S I (0 : Int32) ) km_X1_giveFocus (c_is_122 S) pC1 lkM_X1_37 rfl hl.1 rfl (Nat.le_of_ble_eq_true rfl) ⟨Nat.le_of_ble_eq_true rfl, Nat.le_of_ble_eq_true rfl⟩ ⟨Nat.le_of_ble_eq_true rfl, Nat.le_of_ble_eq_true rfl⟩ dX1_finishFrame_49) V (fun Zr2 hr2 H locs pr2 _ _ V => ?_)
      obtain ⟨rfl, I, pA_r2⟩ := pr2
      have A := A.tr pA_r2 (by decide)
      exact J_52 _ _ _ _ V I (A.wk (by decide)) (lv_sub hl [0, 1] rfl) 
  have J_28 : ∀ (hJ : pH) (H : Heap) (locs : List Loc) (ls : Array Slot), pV Z hJ s.heap H locs → Iv Z hJ → agrD [(122, 1000)] h hJ → lv_has ls 2 [(0, .ref (zB Z + 122)), (1, .ref (zB Z + 1))] → W p l e (pRm 2 0 0 43) s m ([.ref (zB Z + 122), .ref (zB Z + 1)] : List Value).toArray below meth c H locs 0 0 (MQ below (pQv Z (fun Z1 h1 => Z = Z1 ∧ Iv Z h1 ∧ agrD [(122, 1000)] h h1)) ([.ref (zB Z + 122), .ref (zB Z + 1)] : List Value).toArray s 0 0 (pA (zB Z))) (F0 m 28 ls []) := by
    intro hJ H locs ls V I A hl
    refine lv_aload_n hx hb dX1_finishFrame_28 rfl (lv_at hl 0 rfl) ?_
    refine pg_i M V 1 5 (c_is_122 S) pC1 fk1_5 lkF_X1_18 dX1_finishFrame_29 ?_
    refine lv_topi (fun v3 ev3 => ?_)
    have tv3 : 0 ≤ v3.toInt ∧ v3.toInt ≤ 1 := by rw [ev3]; exact I.get (c_is_122 S) 5
    refine lv_if_ne (tgt := 40) hx hb dX1_finishFrame_32 (by decide) (fun c_32 => ?_) (fun c_32 => ?_)
    · skip
      have k_0 : (0 : Int32).toInt = 0 := rfl
      have c_32 := pi_ne c_32
      exact J_40 _ _ _ _ V I (A.wk (by decide)) (lv_sub hl [0, 1] rfl) 
    · skip
      have k_0 : (0 : Int32).toInt = 0 := rfl
      have c_32 := pi_eq.mp c_32
      refine lv_aload_n hx hb dX1_finishFrame_35 rfl (lv_at hl 0 rfl) ?_
      refine lv_iconst (v := 0) hx hb dX1_finishFrame_36 (by decide) ?_
      refine pp_i M V 1 0 (c_is_122 S) pC1 fk1_0 rfl lkF_X1_34 ⟨rfl, rfl⟩ dX1_finishFrame_37 (fun H locs V => ?_)
      have A := A.up (o := 122) (k := 0) (v := (0 : Int32)) (by decide)
      have I := I.up (k := 0) (v := (0 : Int32)) (c_is_122 S) (pi_full _)
      exact J_40 _ _ _ _ V I (A.wk (by decide)) (lv_sub hl [0, 1] rfl) 
  refine lv_aload_n hx hb dX1_finishFrame_0 rfl (lv_at hl 1 rfl) ?_
  refine lv_iconst (v := 0) hx hb dX1_finishFrame_1 (by decide) ?_
  refine pk_i (pr_V M V (m_X5_isDownHere l S I (0 : Int32) ) km_X5_isDownHere (c_is_1 S) pC5 lkM_X1_66 rfl hl.1 rfl (Nat.le_of_ble_eq_true rfl) ⟨Nat.le_of_ble_eq_true rfl, Nat.le_of_ble_eq_true rfl⟩ ⟨Nat.le_of_ble_eq_true rfl, Nat.le_of_ble_eq_true rfl⟩ dX1_finishFrame_2) V (fun r4 Zr4 hr4 H locs pr4 _ _ V => ?_)
  obtain ⟨rfl, I, pA_r4, fr4_0⟩ := pr4
  have A := A.tr pA_r4 (by decide)
  refine lv_if_eq (tgt := 28) hx hb dX1_finishFrame_5 (by decide) (fun c_5 => ?_) (fun c_5 => ?_)
  · skip
    have k_0 : (0 : Int32).toInt = 0 := rfl
    have c_5 := pi_eq.mp c_5
    exact J_28 _ _ _ _ V I (A.wk (by decide)) (lv_sub hl [0, 1] rfl) 
  · skip
    have k_0 : (0 : Int32).toInt = 0 := rfl
    have c_5 := pi_ne c_5
    refine lv_aload_n hx hb dX1_finishFrame_8 rfl (lv_at hl 0 rfl) ?_
    refine pg_i M V 1 8 (c_is_122 S) pC1 fk1_8 lkF_X1_28 dX1_finishFrame_9 ?_
    refine lv_topi (fun v5 ev5 => ?_)
    have tv5 : 0 ≤ v5.toInt ∧ v5.toInt ≤ 1 := by rw [ev5]; exact I.get (c_is_122 S) 8
    refine lv_if_ne (tgt := 28) hx hb dX1_finishFrame_12 (by decide) (fun c_12 => ?_) (fun c_12 => ?_)
    · skip
      have c_12 := pi_ne c_12
      exact J_28 _ _ _ _ V I (A.wk (by decide)) (lv_sub hl [0, 1] rfl) 
    · skip
      have c_12 := pi_eq.mp c_12
      refine lv_aload_n hx hb dX1_finishFrame_15 rfl (lv_at hl 0 rfl) ?_
      refine lv_aload_n hx hb dX1_finishFrame_16 rfl (lv_at hl 0 rfl) ?_
      refine pg_i M V 1 4 (c_is_122 S) pC1 fk1_4 lkF_X1_15 dX1_finishFrame_17 ?_
      refine lv_topi (fun v6 ev6 => ?_)
      refine pk_v (pr_V M V (m_X1_giveFocus l S I v6 ) km_X1_giveFocus (c_is_122 S) pC1 lkM_X1_37 rfl hl.1 rfl (Nat.le_of_ble_eq_true rfl) ⟨Nat.le_of_ble_eq_true rfl, Nat.le_of_ble_eq_true rfl⟩ ⟨Nat.le_of_ble_eq_true rfl, Nat.le_of_ble_eq_true rfl⟩ dX1_finishFrame_20) V (fun Zr7 hr7 H locs pr7 _ _ V => ?_)
      obtain ⟨rfl, I, pA_r7⟩ := pr7
      have A := A.wk (l3 := [(122, 1000)]) (by decide)
      have A := A.tr pA_r7 (by decide)
      refine lv_aload_n hx hb dX1_finishFrame_23 rfl (lv_at hl 0 rfl) ?_
      refine lv_iconst (v := 1) hx hb dX1_finishFrame_24 (by decide) ?_
      have k_1 : (1 : Int32).toInt = 1 := rfl
      have z_25 : (1 : Int32) = 0 ∨ (1 : Int32) = 1 := pi_z (by omega)
      refine pp_i M V 1 6 (c_is_122 S) pC1 fk1_6 rfl lkF_X1_22 ⟨(pn_z z_25).1, (pn_z z_25).2.1⟩ dX1_finishFrame_25 (fun H locs V => ?_)
      have A := A.up (o := 122) (k := 6) (v := (1 : Int32)) (by decide)
      have I := I.up (k := 6) (v := (1 : Int32)) (c_is_122 S) (show (0 : Int) ≤ (1 : Int32).toInt ∧ (1 : Int32).toInt ≤ (1 : Int) by omega)
      exact J_28 _ _ _ _ V I (A.wk (by decide)) (lv_sub hl [0, 1] rfl) 
theorem dX8_hasArea_0 : decode cX8_hasArea 0 = .ok (.iload_n 0, 1) := by decide +kernel
theorem dX8_hasArea_1 : decode cX8_hasArea 1 = .ok (.iconst 2, 1) := by decide +kernel
theorem dX8_hasArea_2 : decode cX8_hasArea 2 = .ok (.if_icmp .eq 12, 3) := by decide +kernel
theorem dX8_hasArea_5 : decode cX8_hasArea 5 = .ok (.iload_n 0, 1) := by decide +kernel
theorem dX8_hasArea_6 : decode cX8_hasArea 6 = .ok (.iconst 3, 1) := by decide +kernel
theorem dX8_hasArea_7 : decode cX8_hasArea 7 = .ok (.if_icmp .eq 7, 3) := by decide +kernel
theorem dX8_hasArea_10 : decode cX8_hasArea 10 = .ok (.iconst 1, 1) := by decide +kernel
theorem dX8_hasArea_11 : decode cX8_hasArea 11 = .ok (.goto 4, 3) := by decide +kernel
theorem dX8_hasArea_14 : decode cX8_hasArea 14 = .ok (.iconst 0, 1) := by decide +kernel
theorem dX8_hasArea_15 : decode cX8_hasArea 15 = .ok (.ireturn, 1) := by decide +kernel
set_option maxHeartbeats 4000000 in
set_option maxRecDepth 100000 in
theorem m_X8_hasArea (l : Launch) {Z : pZ} {h : pH} (kind : Int32)  : pMet l yX8_hasArea cX8_hasArea 1 (some .boolean) 0 0 0 0 Z h [.int kind] (pQi Z (fun r Z1 h1 => Z = Z1 ∧ h = h1 ∧ (r.toInt = 0 ∨ r.toInt = 1))) := by
  refine pOfW (lv := [(0, .int kind)]) (by decide) (Nat.le_of_ble_eq_true rfl) rfl ?_
  intro p e s m below meth c ls M hr hlk hnm V hl
  have hx := M.1.1
  have hb := M.1.2.1
  refine lv_iload_n hx hb dX8_hasArea_0 rfl (lv_at hl 0 rfl) ?_
  refine lv_iconst (v := 2) hx hb dX8_hasArea_1 (by decide) ?_
  refine lv_icmp_eq (tgt := 14) hx hb dX8_hasArea_2 (by decide) (fun c_2 => ?_) (fun c_2 => ?_)
  · skip
    have k_2 : (2 : Int32).toInt = 2 := rfl
    have c_2 := pi_eq.mp c_2
    refine lv_iconst (v := 0) hx hb dX8_hasArea_14 (by decide) ?_
    have k_0 : (0 : Int32).toInt = 0 := rfl
    exact pe_i M V rfl rfl hr hlk (pn_z (pi_z (by omega))).1 ⟨rfl, rfl, by omega⟩ ⟨Nat.le_refl _, Nat.le_refl _⟩ dX8_hasArea_15
  · skip
    have k_2 : (2 : Int32).toInt = 2 := rfl
    have c_2 := pi_ne c_2
    refine lv_iload_n hx hb dX8_hasArea_5 rfl (lv_at hl 0 rfl) ?_
    refine lv_iconst (v := 3) hx hb dX8_hasArea_6 (by decide) ?_
    refine lv_icmp_eq (tgt := 14) hx hb dX8_hasArea_7 (by decide) (fun c_7 => ?_) (fun c_7 => ?_)
    · skip
      have k_3 : (3 : Int32).toInt = 3 := rfl
      have c_7 := pi_eq.mp c_7
      refine lv_iconst (v := 0) hx hb dX8_hasArea_14 (by decide) ?_
      have k_0 : (0 : Int32).toInt = 0 := rfl
      exact pe_i M V rfl rfl hr hlk (pn_z (pi_z (by omega))).1 ⟨rfl, rfl, by omega⟩ ⟨Nat.le_refl _, Nat.le_refl _⟩ dX8_hasArea_15
    · skip
      have k_3 : (3 : Int32).toInt = 3 := rfl
      have c_7 := pi_ne c_7
      refine lv_iconst (v := 1) hx hb dX8_hasArea_10 (by decide) ?_
      refine lv_goto (tgt := 15) hx hb dX8_hasArea_11 (by decide) ?_
      have k_1 : (1 : Int32).toInt = 1 := rfl
      exact pe_i M V rfl rfl hr hlk (pn_z (pi_z (by omega))).1 ⟨rfl, rfl, by omega⟩ ⟨Nat.le_refl _, Nat.le_refl _⟩ dX8_hasArea_15
theorem dX8_clear_0 : decode cX8_clear 0 = .ok (.aload_n 0, 1) := by decide +kernel
theorem dX8_clear_1 : decode cX8_clear 1 = .ok (.iconst 0, 1) := by decide +kernel
theorem dX8_clear_2 : decode cX8_clear 2 = .ok (.putfield 29, 3) := by decide +kernel
theorem dX8_clear_5 : decode cX8_clear 5 = .ok (.aload_n 0, 1) := by decide +kernel
theorem dX8_clear_6 : decode cX8_clear 6 = .ok (.iconst 0, 1) := by decide +kernel
theorem dX8_clear_7 : decode cX8_clear 7 = .ok (.putfield 33, 3) := by decide +kernel
theorem dX8_clear_10 : decode cX8_clear 10 = .ok (.return_, 1) := by decide +kernel
set_option maxHeartbeats 4000000 in
set_option maxRecDepth 100000 in
theorem m_X8_clear (l : Launch) {Z : pZ} (S : pSh Z) {h : pH} (I : Iv Z h)  : pMet l yX8_clear cX8_clear 1 none 0 0 0 0 Z h [.ref (zB Z + 36)] (pQv Z (fun Z1 h1 => Z = Z1 ∧ Iv Z h1 ∧ agrD [(36, 4), (36, 5)] h h1)) := by
  refine pOfW (lv := [(0, .ref (zB Z + 36))]) (by decide) (Nat.le_of_ble_eq_true rfl) rfl ?_
  intro p e s m below meth c ls M hr hlk hnm V hl
  have hx := M.1.1
  have hb := M.1.2.1
  have A : agrD [] h h := agrD.rf
  refine lv_aload_n hx hb dX8_clear_0 rfl (lv_at hl 0 rfl) ?_
  refine lv_iconst (v := 0) hx hb dX8_clear_1 (by decide) ?_
  refine pp_i M V 8 4 (c_is_36 S) pC8 fk8_4 rfl lkF_X8_29 ⟨rfl, rfl⟩ dX8_clear_2 (fun H locs V => ?_)
  have A := A.wk (l3 := [(36, 4)]) (by decide)
  have A := A.up (o := 36) (k := 4) (v := (0 : Int32)) (by decide)
  have k_0 : (0 : Int32).toInt = 0 := rfl
  have I := I.up (k := 4) (v := (0 : Int32)) (c_is_36 S) (show (0 : Int) ≤ (0 : Int32).toInt ∧ (0 : Int32).toInt ≤ (40 : Int) by omega)
  refine lv_aload_n hx hb dX8_clear_5 rfl (lv_at hl 0 rfl) ?_
  refine lv_iconst (v := 0) hx hb dX8_clear_6 (by decide) ?_
  refine pp_i M V 8 5 (c_is_36 S) pC8 fk8_5 rfl lkF_X8_33 ⟨rfl, rfl⟩ dX8_clear_7 (fun H locs V => ?_)
  have A := A.wk (l3 := [(36, 4), (36, 5)]) (by decide)
  have A := A.up (o := 36) (k := 5) (v := (0 : Int32)) (by decide)
  have I := I.up (k := 5) (v := (0 : Int32)) (c_is_36 S) (pi_full _)
  exact pe_v M V rfl rfl hr hlk ⟨rfl, I, A.wk (by decide)⟩ ⟨Nat.le_refl _, Nat.le_refl _⟩ dX8_clear_10
theorem dX8_hasRoom_0 : decode cX8_hasRoom 0 = .ok (.aload_n 0, 1) := by decide +kernel
theorem dX8_hasRoom_1 : decode cX8_hasRoom 1 = .ok (.getfield 29, 3) := by decide +kernel
theorem dX8_hasRoom_4 : decode cX8_hasRoom 4 = .ok (.bipush 40, 2) := by decide +kernel
theorem dX8_hasRoom_6 : decode cX8_hasRoom 6 = .ok (.if_icmp .ge 7, 3) := by decide +kernel
theorem dX8_hasRoom_9 : decode cX8_hasRoom 9 = .ok (.iconst 1, 1) := by decide +kernel
theorem dX8_hasRoom_10 : decode cX8_hasRoom 10 = .ok (.goto 4, 3) := by decide +kernel
theorem dX8_hasRoom_13 : decode cX8_hasRoom 13 = .ok (.iconst 0, 1) := by decide +kernel
theorem dX8_hasRoom_14 : decode cX8_hasRoom 14 = .ok (.ireturn, 1) := by decide +kernel
set_option maxHeartbeats 4000000 in
set_option maxRecDepth 100000 in
theorem m_X8_hasRoom (l : Launch) {Z : pZ} (S : pSh Z) {h : pH} (I : Iv Z h)  : pMet l yX8_hasRoom cX8_hasRoom 1 (some .boolean) 0 0 0 0 Z h [.ref (zB Z + 36)] (pQi Z (fun r Z1 h1 => Z = Z1 ∧ Iv Z h1 ∧ agrD [] h h1 ∧ (r.toInt = 0 ∨ r.toInt = 1))) := by
  refine pOfW (lv := [(0, .ref (zB Z + 36))]) (by decide) (Nat.le_of_ble_eq_true rfl) rfl ?_
  intro p e s m below meth c ls M hr hlk hnm V hl
  have hx := M.1.1
  have hb := M.1.2.1
  have A : agrD [] h h := agrD.rf
  have J_14 : ∀ (y14_0 : Int32) (hJ : pH) (H : Heap) (locs : List Loc) (ls : Array Slot), pV Z hJ s.heap H locs → Iv Z hJ → agrD [] h hJ → lv_has ls 1 [(0, .ref (zB Z + 36))] → (0 ≤ y14_0.toInt ∧ y14_0.toInt ≤ 1) → W p l e (pRm 0 0 0 0) s m ([.ref (zB Z + 36)] : List Value).toArray below meth c H locs 0 0 (MQ below (pQi Z (fun r Z1 h1 => Z = Z1 ∧ Iv Z h1 ∧ agrD [] h h1 ∧ (r.toInt = 0 ∨ r.toInt = 1))) ([.ref (zB Z + 36)] : List Value).toArray s 0 0 (pA (zB Z))) (F0 m 14 ls [.int y14_0]) := by
    intro y14_0 hJ H locs ls V I A hl gs_14_0
    exact pe_i M V rfl rfl hr hlk (pn_z (pi_z (by omega))).1 ⟨rfl, I, A.wk (by decide), by omega⟩ ⟨Nat.le_refl _, Nat.le_refl _⟩ dX8_hasRoom_14
  refine lv_aload_n hx hb dX8_hasRoom_0 rfl (lv_at hl 0 rfl) ?_
  refine pg_i M V 8 4 (c_is_36 S) pC8 fk8_4 lkF_X8_29 dX8_hasRoom_1 ?_
  refine lv_topi (fun v1 ev1 => ?_)
  have tv1 : 0 ≤ v1.toInt ∧ v1.toInt ≤ 40 := by rw [ev1]; exact I.get (c_is_36 S) 4
  refine lv_bipush (v := 40) hx hb dX8_hasRoom_4 (by decide) ?_
  refine lv_icmp_ge (tgt := 13) hx hb dX8_hasRoom_6 (by decide) (fun c_6 => ?_) (fun c_6 => ?_)
  · skip
    have k_40 : (40 : Int32).toInt = 40 := rfl
    have c_6 := pi_le.mp c_6
    refine lv_iconst (v := 0) hx hb dX8_hasRoom_13 (by decide) ?_
    have k_0 : (0 : Int32).toInt = 0 := rfl
    exact J_14 (0 : Int32) _ _ _ _ V I (A.wk (by decide)) (lv_sub hl [0] rfl) (by omega) 
  · skip
    have k_40 : (40 : Int32).toInt = 40 := rfl
    have c_6 := pi_le' c_6
    refine lv_iconst (v := 1) hx hb dX8_hasRoom_9 (by decide) ?_
    refine lv_goto (tgt := 14) hx hb dX8_hasRoom_10 (by decide) ?_
    have k_1 : (1 : Int32).toInt = 1 := rfl
    exact J_14 (1 : Int32) _ _ _ _ V I (A.wk (by decide)) (lv_sub hl [0] rfl) (by omega) 
theorem dX8_put_0 : decode cX8_put 0 = .ok (.aload_n 0, 1) := by decide +kernel
theorem dX8_put_1 : decode cX8_put 1 = .ok (.getfield 29, 3) := by decide +kernel
theorem dX8_put_4 : decode cX8_put 4 = .ok (.bipush 40, 2) := by decide +kernel
theorem dX8_put_6 : decode cX8_put 6 = .ok (.if_icmp .lt 4, 3) := by decide +kernel
theorem dX8_put_9 : decode cX8_put 9 = .ok (.return_, 1) := by decide +kernel
theorem dX8_put_10 : decode cX8_put 10 = .ok (.aload_n 0, 1) := by decide +kernel
theorem dX8_put_11 : decode cX8_put 11 = .ok (.getfield 11, 3) := by decide +kernel
theorem dX8_put_14 : decode cX8_put 14 = .ok (.aload_n 0, 1) := by decide +kernel
theorem dX8_put_15 : decode cX8_put 15 = .ok (.getfield 29, 3) := by decide +kernel
theorem dX8_put_18 : decode cX8_put 18 = .ok (.iload_n 1, 1) := by decide +kernel
theorem dX8_put_19 : decode cX8_put 19 = .ok (.iastore, 1) := by decide +kernel
theorem dX8_put_20 : decode cX8_put 20 = .ok (.aload_n 0, 1) := by decide +kernel
theorem dX8_put_21 : decode cX8_put 21 = .ok (.getfield 15, 3) := by decide +kernel
theorem dX8_put_24 : decode cX8_put 24 = .ok (.aload_n 0, 1) := by decide +kernel
theorem dX8_put_25 : decode cX8_put 25 = .ok (.getfield 29, 3) := by decide +kernel
theorem dX8_put_28 : decode cX8_put 28 = .ok (.iload_n 2, 1) := by decide +kernel
theorem dX8_put_29 : decode cX8_put 29 = .ok (.iastore, 1) := by decide +kernel
theorem dX8_put_30 : decode cX8_put 30 = .ok (.aload_n 0, 1) := by decide +kernel
theorem dX8_put_31 : decode cX8_put 31 = .ok (.dup, 1) := by decide +kernel
theorem dX8_put_32 : decode cX8_put 32 = .ok (.getfield 29, 3) := by decide +kernel
theorem dX8_put_35 : decode cX8_put 35 = .ok (.iconst 1, 1) := by decide +kernel
theorem dX8_put_36 : decode cX8_put 36 = .ok (.iadd, 1) := by decide +kernel
theorem dX8_put_37 : decode cX8_put 37 = .ok (.putfield 29, 3) := by decide +kernel
theorem dX8_put_40 : decode cX8_put 40 = .ok (.iload_n 1, 1) := by decide +kernel
theorem dX8_put_41 : decode cX8_put 41 = .ok (.invokestatic 36, 3) := by decide +kernel
theorem dX8_put_44 : decode cX8_put 44 = .ok (.ifCond .eq 13, 3) := by decide +kernel
theorem dX8_put_47 : decode cX8_put 47 = .ok (.aload_n 0, 1) := by decide +kernel
theorem dX8_put_48 : decode cX8_put 48 = .ok (.dup, 1) := by decide +kernel
theorem dX8_put_49 : decode cX8_put 49 = .ok (.getfield 33, 3) := by decide +kernel
theorem dX8_put_52 : decode cX8_put 52 = .ok (.iconst 1, 1) := by decide +kernel
theorem dX8_put_53 : decode cX8_put 53 = .ok (.iadd, 1) := by decide +kernel
theorem dX8_put_54 : decode cX8_put 54 = .ok (.putfield 33, 3) := by decide +kernel
theorem dX8_put_57 : decode cX8_put 57 = .ok (.return_, 1) := by decide +kernel
set_option maxHeartbeats 4000000 in
set_option maxRecDepth 100000 in
theorem m_X8_put (l : Launch) {Z : pZ} (S : pSh Z) {h : pH} (I : Iv Z h) (kind : Int32) (id : Int32)  : pMet l yX8_put cX8_put 3 none 1 0 0 20 Z h [.ref (zB Z + 36), .int kind, .int id] (pQv Z (fun Z1 h1 => Z = Z1 ∧ Iv Z h1 ∧ agrD [(36, 4), (36, 5), (37, 1000), (38, 1000)] h h1)) := by
  refine pOfW (lv := [(0, .ref (zB Z + 36)), (1, .int kind), (2, .int id)]) (by decide) (Nat.le_of_ble_eq_true rfl) rfl ?_
  intro p e s m below meth c ls M hr hlk hnm V hl
  have hx := M.1.1
  have hb := M.1.2.1
  have A : agrD [] h h := agrD.rf
  have J_57 : ∀ (hJ : pH) (H : Heap) (locs : List Loc) (ls : Array Slot), pV Z hJ s.heap H locs → Iv Z hJ → agrD [(36, 4), (36, 5), (37, 1000), (38, 1000)] h hJ → lv_has ls 3 [(0, .ref (zB Z + 36)), (1, .int kind), (2, .int id)] → W p l e (pRm 1 0 0 20) s m ([.ref (zB Z + 36), .int kind, .int id] : List Value).toArray below meth c H locs 0 0 (MQ below (pQv Z (fun Z1 h1 => Z = Z1 ∧ Iv Z h1 ∧ agrD [(36, 4), (36, 5), (37, 1000), (38, 1000)] h h1)) ([.ref (zB Z + 36), .int kind, .int id] : List Value).toArray s 0 0 (pA (zB Z))) (F0 m 57 ls []) := by
    intro hJ H locs ls V I A hl
    exact pe_v M V rfl rfl hr hlk ⟨rfl, I, A.wk (by decide)⟩ ⟨Nat.le_refl _, Nat.le_refl _⟩ dX8_put_57
  refine lv_aload_n hx hb dX8_put_0 rfl (lv_at hl 0 rfl) ?_
  refine pg_i M V 8 4 (c_is_36 S) pC8 fk8_4 lkF_X8_29 dX8_put_1 ?_
  refine lv_topi (fun v1 ev1 => ?_)
  have tv1 : 0 ≤ v1.toInt ∧ v1.toInt ≤ 40 := by rw [ev1]; exact I.get (c_is_36 S) 4
  refine lv_bipush (v := 40) hx hb dX8_put_4 (by decide) ?_
  refine lv_icmp_lt (tgt := 10) hx hb dX8_put_6 (by decide) (fun c_6 => ?_) (fun c_6 => ?_)
  · skip
    have k_40 : (40 : Int32).toInt = 40 := rfl
    have c_6 := pi_lt.mp c_6
    refine lv_aload_n hx hb dX8_put_10 rfl (lv_at hl 0 rfl) ?_
    refine pg_r M V 8 0 (c_is_36 S) pC8 fk8_0 (c_r_36_0 S) lkF_X8_11 dX8_put_11 ?_
    refine lv_aload_n hx hb dX8_put_14 rfl (lv_at hl 0 rfl) ?_
    refine pg_iv M V 8 4 (v := v1) (c_is_36 S) pC8 fk8_4 ev1.symm lkF_X8_29 dX8_put_15 ?_
    refine lv_iload_n hx hb dX8_put_18 rfl (lv_at hl 1 rfl) ?_
    refine ps_i M V (c_is_37 S) (by rw [c_n_37 S]; exact pi_in (by omega)) dX8_put_19 (fun H locs V => ?_)
    have A := A.wk (l3 := [(37, 1000)]) (by decide)
    have A := A.upA (o := 37) (k := v1.toNatClampNeg) (v := kind) (by decide)
    have I := I.up (k := v1.toNatClampNeg) (v := kind) (c_is_37 S) (pi_full _)
    refine lv_aload_n hx hb dX8_put_20 rfl (lv_at hl 0 rfl) ?_
    refine pg_r M V 8 1 (c_is_36 S) pC8 fk8_1 (c_r_36_1 S) lkF_X8_15 dX8_put_21 ?_
    refine lv_aload_n hx hb dX8_put_24 rfl (lv_at hl 0 rfl) ?_
    refine pg_iv M V 8 4 (v := v1) (c_is_36 S) pC8 fk8_4 ev1.symm lkF_X8_29 dX8_put_25 ?_
    refine lv_iload_n hx hb dX8_put_28 rfl (lv_at hl 2 rfl) ?_
    refine ps_i M V (c_is_38 S) (by rw [c_n_38 S]; exact pi_in (by omega)) dX8_put_29 (fun H locs V => ?_)
    have A := A.wk (l3 := [(37, 1000), (38, 1000)]) (by decide)
    have A := A.upA (o := 38) (k := v1.toNatClampNeg) (v := id) (by decide)
    have I := I.up (k := v1.toNatClampNeg) (v := id) (c_is_38 S) (pi_full _)
    refine lv_aload_n hx hb dX8_put_30 rfl (lv_at hl 0 rfl) ?_
    refine lv_dup hx hb dX8_put_31 rfl ?_
    refine pg_iv M V 8 4 (v := v1) (c_is_36 S) pC8 fk8_4 ev1.symm lkF_X8_29 dX8_put_32 ?_
    refine lv_iconst (v := 1) hx hb dX8_put_35 (by decide) ?_
    refine lv_iadd hx hb dX8_put_36 ?_
    refine lv_topi (fun v2 ev2 => ?_)
    refine pp_i M V 8 4 (c_is_36 S) pC8 fk8_4 rfl lkF_X8_29 ⟨rfl, rfl⟩ dX8_put_37 (fun H locs V => ?_)
    have A := A.wk (l3 := [(37, 1000), (38, 1000), (36, 4)]) (by decide)
    have A := A.up (o := 36) (k := 4) (v := v2) (by decide)
    have k_1 : (1 : Int32).toInt = 1 := rfl
    have tv2 : v2.toInt = v1.toInt + 1 := by rw [ev2]; have z9 := pi_add (x := v1) (y := (1 : Int32)); rw [k_1] at z9; exact z9 (by omega)
    have I := I.up (k := 4) (v := v2) (c_is_36 S) (show (0 : Int) ≤ v2.toInt ∧ v2.toInt ≤ (40 : Int) by omega)
    refine lv_iload_n hx hb dX8_put_40 rfl (lv_at hl 1 rfl) ?_
    refine pk_i (pr_S M V (m_X8_hasArea l (Z := Z) (h := _) kind) km_X8_hasArea lkM_X8_36 rfl hl.1 rfl (Nat.le_of_ble_eq_true rfl) ⟨Nat.le_of_ble_eq_true rfl, Nat.le_of_ble_eq_true rfl⟩ ⟨Nat.le_of_ble_eq_true rfl, Nat.le_of_ble_eq_true rfl⟩ dX8_put_41) V (fun r3 Zr3 hr3 H locs pr3 _ _ V => ?_)
    obtain ⟨rfl, rfl, fr3_0⟩ := pr3
    refine lv_if_eq (tgt := 57) hx hb dX8_put_44 (by decide) (fun c_44 => ?_) (fun c_44 => ?_)
    · skip
      have k_0 : (0 : Int32).toInt = 0 := rfl
      have c_44 := pi_eq.mp c_44
      exact J_57 _ _ _ _ V I (A.wk (by decide)) (lv_sub hl [0, 1, 2] rfl) 
    · skip
      have k_0 : (0 : Int32).toInt = 0 := rfl
      have c_44 := pi_ne c_44
      refine lv_aload_n hx hb dX8_put_47 rfl (lv_at hl 0 rfl) ?_
      refine lv_dup hx hb dX8_put_48 rfl ?_
      refine pg_i M V 8 5 (c_is_36 S) pC8 fk8_5 lkF_X8_33 dX8_put_49 ?_
      refine lv_topi (fun v4 ev4 => ?_)
      refine lv_iconst (v := 1) hx hb dX8_put_52 (by decide) ?_
      refine lv_iadd hx hb dX8_put_53 ?_
      refine lv_topi (fun v5 ev5 => ?_)
      refine pp_i M V 8 5 (c_is_36 S) pC8 fk8_5 rfl lkF_X8_33 ⟨rfl, rfl⟩ dX8_put_54 (fun H locs V => ?_)
      have A := A.wk (l3 := [(37, 1000), (38, 1000), (36, 4), (36, 5)]) (by decide)
      have A := A.up (o := 36) (k := 5) (v := v5) (by decide)
      have I := I.up (k := 5) (v := v5) (c_is_36 S) (pi_full _)
      exact J_57 _ _ _ _ V I (A.wk (by decide)) (lv_sub hl [0, 1, 2] rfl) 
  · skip
    have k_40 : (40 : Int32).toInt = 40 := rfl
    have c_6 := pi_lt' c_6
    exact pe_v M V rfl rfl hr hlk ⟨rfl, I, A.wk (by decide)⟩ ⟨Nat.le_refl _, Nat.le_refl _⟩ dX8_put_9
theorem dX8_drop_0 : decode cX8_drop 0 = .ok (.aload_n 0, 1) := by decide +kernel
theorem dX8_drop_1 : decode cX8_drop 1 = .ok (.getfield 29, 3) := by decide +kernel
theorem dX8_drop_4 : decode cX8_drop 4 = .ok (.ifCond .le 13, 3) := by decide +kernel
theorem dX8_drop_7 : decode cX8_drop 7 = .ok (.aload_n 0, 1) := by decide +kernel
theorem dX8_drop_8 : decode cX8_drop 8 = .ok (.dup, 1) := by decide +kernel
theorem dX8_drop_9 : decode cX8_drop 9 = .ok (.getfield 29, 3) := by decide +kernel
theorem dX8_drop_12 : decode cX8_drop 12 = .ok (.iconst 1, 1) := by decide +kernel
theorem dX8_drop_13 : decode cX8_drop 13 = .ok (.isub, 1) := by decide +kernel
theorem dX8_drop_14 : decode cX8_drop 14 = .ok (.putfield 29, 3) := by decide +kernel
theorem dX8_drop_17 : decode cX8_drop 17 = .ok (.iload_n 1, 1) := by decide +kernel
theorem dX8_drop_18 : decode cX8_drop 18 = .ok (.invokestatic 36, 3) := by decide +kernel
theorem dX8_drop_21 : decode cX8_drop 21 = .ok (.ifCond .eq 20, 3) := by decide +kernel
theorem dX8_drop_24 : decode cX8_drop 24 = .ok (.aload_n 0, 1) := by decide +kernel
theorem dX8_drop_25 : decode cX8_drop 25 = .ok (.getfield 33, 3) := by decide +kernel
theorem dX8_drop_28 : decode cX8_drop 28 = .ok (.ifCond .le 13, 3) := by decide +kernel
theorem dX8_drop_31 : decode cX8_drop 31 = .ok (.aload_n 0, 1) := by decide +kernel
theorem dX8_drop_32 : decode cX8_drop 32 = .ok (.dup, 1) := by decide +kernel
theorem dX8_drop_33 : decode cX8_drop 33 = .ok (.getfield 33, 3) := by decide +kernel
theorem dX8_drop_36 : decode cX8_drop 36 = .ok (.iconst 1, 1) := by decide +kernel
theorem dX8_drop_37 : decode cX8_drop 37 = .ok (.isub, 1) := by decide +kernel
theorem dX8_drop_38 : decode cX8_drop 38 = .ok (.putfield 33, 3) := by decide +kernel
theorem dX8_drop_41 : decode cX8_drop 41 = .ok (.return_, 1) := by decide +kernel
set_option maxHeartbeats 4000000 in
set_option maxRecDepth 100000 in
theorem m_X8_drop (l : Launch) {Z : pZ} (S : pSh Z) {h : pH} (I : Iv Z h) (kind : Int32)  : pMet l yX8_drop cX8_drop 2 none 1 0 0 20 Z h [.ref (zB Z + 36), .int kind] (pQv Z (fun Z1 h1 => Z = Z1 ∧ Iv Z h1 ∧ agrD [(36, 4), (36, 5)] h h1)) := by
  refine pOfW (lv := [(0, .ref (zB Z + 36)), (1, .int kind)]) (by decide) (Nat.le_of_ble_eq_true rfl) rfl ?_
  intro p e s m below meth c ls M hr hlk hnm V hl
  have hx := M.1.1
  have hb := M.1.2.1
  have A : agrD [] h h := agrD.rf
  have J_41 : ∀ (hJ : pH) (H : Heap) (locs : List Loc) (ls : Array Slot), pV Z hJ s.heap H locs → Iv Z hJ → agrD [(36, 4), (36, 5)] h hJ → lv_has ls 2 [(0, .ref (zB Z + 36)), (1, .int kind)] → W p l e (pRm 1 0 0 20) s m ([.ref (zB Z + 36), .int kind] : List Value).toArray below meth c H locs 0 0 (MQ below (pQv Z (fun Z1 h1 => Z = Z1 ∧ Iv Z h1 ∧ agrD [(36, 4), (36, 5)] h h1)) ([.ref (zB Z + 36), .int kind] : List Value).toArray s 0 0 (pA (zB Z))) (F0 m 41 ls []) := by
    intro hJ H locs ls V I A hl
    exact pe_v M V rfl rfl hr hlk ⟨rfl, I, A.wk (by decide)⟩ ⟨Nat.le_refl _, Nat.le_refl _⟩ dX8_drop_41
  have J_17 : ∀ (hJ : pH) (H : Heap) (locs : List Loc) (ls : Array Slot), pV Z hJ s.heap H locs → Iv Z hJ → agrD [(36, 4)] h hJ → lv_has ls 2 [(0, .ref (zB Z + 36)), (1, .int kind)] → W p l e (pRm 1 0 0 20) s m ([.ref (zB Z + 36), .int kind] : List Value).toArray below meth c H locs 0 0 (MQ below (pQv Z (fun Z1 h1 => Z = Z1 ∧ Iv Z h1 ∧ agrD [(36, 4), (36, 5)] h h1)) ([.ref (zB Z + 36), .int kind] : List Value).toArray s 0 0 (pA (zB Z))) (F0 m 17 ls []) := by
    intro hJ H locs ls V I A hl
    refine lv_iload_n hx hb dX8_drop_17 rfl (lv_at hl 1 rfl) ?_
    refine pk_i (pr_S M V (m_X8_hasArea l (Z := Z) (h := _) kind) km_X8_hasArea lkM_X8_36 rfl hl.1 rfl (Nat.le_of_ble_eq_true rfl) ⟨Nat.le_of_ble_eq_true rfl, Nat.le_of_ble_eq_true rfl⟩ ⟨Nat.le_of_ble_eq_true rfl, Nat.le_of_ble_eq_true rfl⟩ dX8_drop_18) V (fun r1 Zr1 hr1 H locs pr1 _ _ V => ?_)
    obtain ⟨rfl, rfl, fr1_0⟩ := pr1
    refine lv_if_eq (tgt := 41) hx hb dX8_drop_21 (by decide) (fun c_21 => ?_) (fun c_21 => ?_)
    · skip
      have k_0 : (0 : Int32).toInt = 0 := rfl
      have c_21 := pi_eq.mp c_21
      exact J_41 _ _ _ _ V I (A.wk (by decide)) (lv_sub hl [0, 1] rfl) 
    · skip
      have k_0 : (0 : Int32).toInt = 0 := rfl
      have c_21 := pi_ne c_21
      refine lv_aload_n hx hb dX8_drop_24 rfl (lv_at hl 0 rfl) ?_
      refine pg_i M V 8 5 (c_is_36 S) pC8 fk8_5 lkF_X8_33 dX8_drop_25 ?_
      refine lv_topi (fun v2 ev2 => ?_)
      refine lv_if_le (tgt := 41) hx hb dX8_drop_28 (by decide) (fun c_28 => ?_) (fun c_28 => ?_)
      · skip
        have c_28 := pi_le.mp c_28
        exact J_41 _ _ _ _ V I (A.wk (by decide)) (lv_sub hl [0, 1] rfl) 
      · skip
        have c_28 := pi_le' c_28
        refine lv_aload_n hx hb dX8_drop_31 rfl (lv_at hl 0 rfl) ?_
        refine lv_dup hx hb dX8_drop_32 rfl ?_
        refine pg_iv M V 8 5 (v := v2) (c_is_36 S) pC8 fk8_5 ev2.symm lkF_X8_33 dX8_drop_33 ?_
        refine lv_iconst (v := 1) hx hb dX8_drop_36 (by decide) ?_
        refine lv_isub hx hb dX8_drop_37 ?_
        refine lv_topi (fun v3 ev3 => ?_)
        refine pp_i M V 8 5 (c_is_36 S) pC8 fk8_5 rfl lkF_X8_33 ⟨rfl, rfl⟩ dX8_drop_38 (fun H locs V => ?_)
        have A := A.wk (l3 := [(36, 4), (36, 5)]) (by decide)
        have A := A.up (o := 36) (k := 5) (v := v3) (by decide)
        have I := I.up (k := 5) (v := v3) (c_is_36 S) (pi_full _)
        exact J_41 _ _ _ _ V I (A.wk (by decide)) (lv_sub hl [0, 1] rfl) 
  refine lv_aload_n hx hb dX8_drop_0 rfl (lv_at hl 0 rfl) ?_
  refine pg_i M V 8 4 (c_is_36 S) pC8 fk8_4 lkF_X8_29 dX8_drop_1 ?_
  refine lv_topi (fun v4 ev4 => ?_)
  have tv4 : 0 ≤ v4.toInt ∧ v4.toInt ≤ 40 := by rw [ev4]; exact I.get (c_is_36 S) 4
  refine lv_if_le (tgt := 17) hx hb dX8_drop_4 (by decide) (fun c_4 => ?_) (fun c_4 => ?_)
  · skip
    have k_0 : (0 : Int32).toInt = 0 := rfl
    have c_4 := pi_le.mp c_4
    exact J_17 _ _ _ _ V I (A.wk (by decide)) (lv_sub hl [0, 1] rfl) 
  · skip
    have k_0 : (0 : Int32).toInt = 0 := rfl
    have c_4 := pi_le' c_4
    refine lv_aload_n hx hb dX8_drop_7 rfl (lv_at hl 0 rfl) ?_
    refine lv_dup hx hb dX8_drop_8 rfl ?_
    refine pg_iv M V 8 4 (v := v4) (c_is_36 S) pC8 fk8_4 ev4.symm lkF_X8_29 dX8_drop_9 ?_
    refine lv_iconst (v := 1) hx hb dX8_drop_12 (by decide) ?_
    refine lv_isub hx hb dX8_drop_13 ?_
    refine lv_topi (fun v5 ev5 => ?_)
    refine pp_i M V 8 4 (c_is_36 S) pC8 fk8_4 rfl lkF_X8_29 ⟨rfl, rfl⟩ dX8_drop_14 (fun H locs V => ?_)
    have A := A.wk (l3 := [(36, 4)]) (by decide)
    have A := A.up (o := 36) (k := 4) (v := v5) (by decide)
    have k_1 : (1 : Int32).toInt = 1 := rfl
    have tv5 : v5.toInt = v4.toInt - 1 := by rw [ev5]; have z9 := pi_sub (x := v4) (y := (1 : Int32)); rw [k_1] at z9; exact z9 (by omega)
    have I := I.up (k := 4) (v := v5) (c_is_36 S) (show (0 : Int) ≤ v5.toInt ∧ v5.toInt ≤ (40 : Int) by omega)
    exact J_17 _ _ _ _ V I (A.wk (by decide)) (lv_sub hl [0, 1] rfl) 
theorem dX8_topKind_0 : decode cX8_topKind 0 = .ok (.aload_n 0, 1) := by decide +kernel
theorem dX8_topKind_1 : decode cX8_topKind 1 = .ok (.getfield 29, 3) := by decide +kernel
theorem dX8_topKind_4 : decode cX8_topKind 4 = .ok (.iconst 1, 1) := by decide +kernel
theorem dX8_topKind_5 : decode cX8_topKind 5 = .ok (.bipush 40, 2) := by decide +kernel
theorem dX8_topKind_7 : decode cX8_topKind 7 = .ok (.invokestatic 40, 3) := by decide +kernel
theorem dX8_topKind_10 : decode cX8_topKind 10 = .ok (.ifCond .eq 17, 3) := by decide +kernel
theorem dX8_topKind_13 : decode cX8_topKind 13 = .ok (.aload_n 0, 1) := by decide +kernel
theorem dX8_topKind_14 : decode cX8_topKind 14 = .ok (.getfield 11, 3) := by decide +kernel
theorem dX8_topKind_17 : decode cX8_topKind 17 = .ok (.aload_n 0, 1) := by decide +kernel
theorem dX8_topKind_18 : decode cX8_topKind 18 = .ok (.getfield 29, 3) := by decide +kernel
theorem dX8_topKind_21 : decode cX8_topKind 21 = .ok (.iconst 1, 1) := by decide +kernel
theorem dX8_topKind_22 : decode cX8_topKind 22 = .ok (.isub, 1) := by decide +kernel
theorem dX8_topKind_23 : decode cX8_topKind 23 = .ok (.iaload, 1) := by decide +kernel
theorem dX8_topKind_24 : decode cX8_topKind 24 = .ok (.goto 4, 3) := by decide +kernel
theorem dX8_topKind_27 : decode cX8_topKind 27 = .ok (.iconst 0, 1) := by decide +kernel
theorem dX8_topKind_28 : decode cX8_topKind 28 = .ok (.ireturn, 1) := by decide +kernel
set_option maxHeartbeats 4000000 in
set_option maxRecDepth 100000 in
theorem m_X8_topKind (l : Launch) {Z : pZ} (S : pSh Z) {h : pH} (I : Iv Z h)  : pMet l yX8_topKind cX8_topKind 1 (some .int) 1 0 0 22 Z h [.ref (zB Z + 36)] (pQi Z (fun r Z1 h1 => Z = Z1 ∧ Iv Z h1 ∧ agrD [] h h1)) := by
  refine pOfW (lv := [(0, .ref (zB Z + 36))]) (by decide) (Nat.le_of_ble_eq_true rfl) rfl ?_
  intro p e s m below meth c ls M hr hlk hnm V hl
  have hx := M.1.1
  have hb := M.1.2.1
  have A : agrD [] h h := agrD.rf
  have J_28 : ∀ (y28_0 : Int32) (hJ : pH) (H : Heap) (locs : List Loc) (ls : Array Slot), pV Z hJ s.heap H locs → Iv Z hJ → agrD [] h hJ → lv_has ls 1 [(0, .ref (zB Z + 36))] → W p l e (pRm 1 0 0 22) s m ([.ref (zB Z + 36)] : List Value).toArray below meth c H locs 0 0 (MQ below (pQi Z (fun r Z1 h1 => Z = Z1 ∧ Iv Z h1 ∧ agrD [] h h1)) ([.ref (zB Z + 36)] : List Value).toArray s 0 0 (pA (zB Z))) (F0 m 28 ls [.int y28_0]) := by
    intro y28_0 hJ H locs ls V I A hl
    exact pe_i M V rfl rfl hr hlk rfl ⟨rfl, I, A.wk (by decide)⟩ ⟨Nat.le_refl _, Nat.le_refl _⟩ dX8_topKind_28
  refine lv_aload_n hx hb dX8_topKind_0 rfl (lv_at hl 0 rfl) ?_
  refine pg_i M V 8 4 (c_is_36 S) pC8 fk8_4 lkF_X8_29 dX8_topKind_1 ?_
  refine lv_topi (fun v1 ev1 => ?_)
  have tv1 : 0 ≤ v1.toInt ∧ v1.toInt ≤ 40 := by rw [ev1]; exact I.get (c_is_36 S) 4
  refine lv_iconst (v := 1) hx hb dX8_topKind_4 (by decide) ?_
  refine lv_bipush (v := 40) hx hb dX8_topKind_5 (by decide) ?_
  have k_1 : (1 : Int32).toInt = 1 := rfl
  have k_40 : (40 : Int32).toInt = 40 := rfl
  refine pk_i (pr_SN M V (m_X11_isWithin l (Z := Z) (h := _) v1 (1 : Int32) (40 : Int32)) km_X11_isWithin lkN_X8_40 rfl hl.1 rfl (Nat.le_of_ble_eq_true rfl) ⟨Nat.le_of_ble_eq_true rfl, Nat.le_of_ble_eq_true rfl⟩ ⟨Nat.le_of_ble_eq_true rfl, Nat.le_of_ble_eq_true rfl⟩ dX8_topKind_7) V (fun r2 Zr2 hr2 H locs pr2 _ _ V => ?_)
  obtain ⟨rfl, rfl, fr2_0⟩ := pr2
  refine lv_if_eq (tgt := 27) hx hb dX8_topKind_10 (by decide) (fun c_10 => ?_) (fun c_10 => ?_)
  · skip
    have k_0 : (0 : Int32).toInt = 0 := rfl
    have c_10 := pi_eq.mp c_10
    refine lv_iconst (v := 0) hx hb dX8_topKind_27 (by decide) ?_
    exact J_28 (0 : Int32) _ _ _ _ V I (A.wk (by decide)) (lv_sub hl [0] rfl) 
  · skip
    have k_0 : (0 : Int32).toInt = 0 := rfl
    have c_10 := pi_ne c_10
    refine lv_aload_n hx hb dX8_topKind_13 rfl (lv_at hl 0 rfl) ?_
    refine pg_r M V 8 0 (c_is_36 S) pC8 fk8_0 (c_r_36_0 S) lkF_X8_11 dX8_topKind_14 ?_
    refine lv_aload_n hx hb dX8_topKind_17 rfl (lv_at hl 0 rfl) ?_
    refine pg_iv M V 8 4 (v := v1) (c_is_36 S) pC8 fk8_4 ev1.symm lkF_X8_29 dX8_topKind_18 ?_
    refine lv_iconst (v := 1) hx hb dX8_topKind_21 (by decide) ?_
    refine lv_isub hx hb dX8_topKind_22 ?_
    refine lv_topi (fun v3 ev3 => ?_)
    have tv3 : v3.toInt = v1.toInt - 1 := by rw [ev3]; have z9 := pi_sub (x := v1) (y := (1 : Int32)); rw [k_1] at z9; exact z9 (by omega)
    refine pa_i M V (c_is_37 S) (by rw [c_n_37 S]; exact pi_in (by omega)) dX8_topKind_23 ?_
    refine lv_topi (fun v4 ev4 => ?_)
    refine lv_goto (tgt := 28) hx hb dX8_topKind_24 (by decide) ?_
    exact J_28 v4 _ _ _ _ V I (A.wk (by decide)) (lv_sub hl [0] rfl) 
theorem dX8_topId_0 : decode cX8_topId 0 = .ok (.aload_n 0, 1) := by decide +kernel
theorem dX8_topId_1 : decode cX8_topId 1 = .ok (.getfield 29, 3) := by decide +kernel
theorem dX8_topId_4 : decode cX8_topId 4 = .ok (.iconst 1, 1) := by decide +kernel
theorem dX8_topId_5 : decode cX8_topId 5 = .ok (.bipush 40, 2) := by decide +kernel
theorem dX8_topId_7 : decode cX8_topId 7 = .ok (.invokestatic 40, 3) := by decide +kernel
theorem dX8_topId_10 : decode cX8_topId 10 = .ok (.ifCond .eq 17, 3) := by decide +kernel
theorem dX8_topId_13 : decode cX8_topId 13 = .ok (.aload_n 0, 1) := by decide +kernel
theorem dX8_topId_14 : decode cX8_topId 14 = .ok (.getfield 15, 3) := by decide +kernel
theorem dX8_topId_17 : decode cX8_topId 17 = .ok (.aload_n 0, 1) := by decide +kernel
theorem dX8_topId_18 : decode cX8_topId 18 = .ok (.getfield 29, 3) := by decide +kernel
theorem dX8_topId_21 : decode cX8_topId 21 = .ok (.iconst 1, 1) := by decide +kernel
theorem dX8_topId_22 : decode cX8_topId 22 = .ok (.isub, 1) := by decide +kernel
theorem dX8_topId_23 : decode cX8_topId 23 = .ok (.iaload, 1) := by decide +kernel
theorem dX8_topId_24 : decode cX8_topId 24 = .ok (.goto 4, 3) := by decide +kernel
theorem dX8_topId_27 : decode cX8_topId 27 = .ok (.iconst 0, 1) := by decide +kernel
theorem dX8_topId_28 : decode cX8_topId 28 = .ok (.ireturn, 1) := by decide +kernel
set_option maxHeartbeats 4000000 in
set_option maxRecDepth 100000 in
theorem m_X8_topId (l : Launch) {Z : pZ} (S : pSh Z) {h : pH} (I : Iv Z h)  : pMet l yX8_topId cX8_topId 1 (some .int) 1 0 0 22 Z h [.ref (zB Z + 36)] (pQi Z (fun r Z1 h1 => Z = Z1 ∧ Iv Z h1 ∧ agrD [] h h1)) := by
  refine pOfW (lv := [(0, .ref (zB Z + 36))]) (by decide) (Nat.le_of_ble_eq_true rfl) rfl ?_
  intro p e s m below meth c ls M hr hlk hnm V hl
  have hx := M.1.1
  have hb := M.1.2.1
  have A : agrD [] h h := agrD.rf
  have J_28 : ∀ (y28_0 : Int32) (hJ : pH) (H : Heap) (locs : List Loc) (ls : Array Slot), pV Z hJ s.heap H locs → Iv Z hJ → agrD [] h hJ → lv_has ls 1 [(0, .ref (zB Z + 36))] → W p l e (pRm 1 0 0 22) s m ([.ref (zB Z + 36)] : List Value).toArray below meth c H locs 0 0 (MQ below (pQi Z (fun r Z1 h1 => Z = Z1 ∧ Iv Z h1 ∧ agrD [] h h1)) ([.ref (zB Z + 36)] : List Value).toArray s 0 0 (pA (zB Z))) (F0 m 28 ls [.int y28_0]) := by
    intro y28_0 hJ H locs ls V I A hl
    exact pe_i M V rfl rfl hr hlk rfl ⟨rfl, I, A.wk (by decide)⟩ ⟨Nat.le_refl _, Nat.le_refl _⟩ dX8_topId_28
  refine lv_aload_n hx hb dX8_topId_0 rfl (lv_at hl 0 rfl) ?_
  refine pg_i M V 8 4 (c_is_36 S) pC8 fk8_4 lkF_X8_29 dX8_topId_1 ?_
  refine lv_topi (fun v1 ev1 => ?_)
  have tv1 : 0 ≤ v1.toInt ∧ v1.toInt ≤ 40 := by rw [ev1]; exact I.get (c_is_36 S) 4
  refine lv_iconst (v := 1) hx hb dX8_topId_4 (by decide) ?_
  refine lv_bipush (v := 40) hx hb dX8_topId_5 (by decide) ?_
  have k_1 : (1 : Int32).toInt = 1 := rfl
  have k_40 : (40 : Int32).toInt = 40 := rfl
  refine pk_i (pr_SN M V (m_X11_isWithin l (Z := Z) (h := _) v1 (1 : Int32) (40 : Int32)) km_X11_isWithin lkN_X8_40 rfl hl.1 rfl (Nat.le_of_ble_eq_true rfl) ⟨Nat.le_of_ble_eq_true rfl, Nat.le_of_ble_eq_true rfl⟩ ⟨Nat.le_of_ble_eq_true rfl, Nat.le_of_ble_eq_true rfl⟩ dX8_topId_7) V (fun r2 Zr2 hr2 H locs pr2 _ _ V => ?_)
  obtain ⟨rfl, rfl, fr2_0⟩ := pr2
  refine lv_if_eq (tgt := 27) hx hb dX8_topId_10 (by decide) (fun c_10 => ?_) (fun c_10 => ?_)
  · skip
    have k_0 : (0 : Int32).toInt = 0 := rfl
    have c_10 := pi_eq.mp c_10
    refine lv_iconst (v := 0) hx hb dX8_topId_27 (by decide) ?_
    exact J_28 (0 : Int32) _ _ _ _ V I (A.wk (by decide)) (lv_sub hl [0] rfl) 
  · skip
    have k_0 : (0 : Int32).toInt = 0 := rfl
    have c_10 := pi_ne c_10
    refine lv_aload_n hx hb dX8_topId_13 rfl (lv_at hl 0 rfl) ?_
    refine pg_r M V 8 1 (c_is_36 S) pC8 fk8_1 (c_r_36_1 S) lkF_X8_15 dX8_topId_14 ?_
    refine lv_aload_n hx hb dX8_topId_17 rfl (lv_at hl 0 rfl) ?_
    refine pg_iv M V 8 4 (v := v1) (c_is_36 S) pC8 fk8_4 ev1.symm lkF_X8_29 dX8_topId_18 ?_
    refine lv_iconst (v := 1) hx hb dX8_topId_21 (by decide) ?_
    refine lv_isub hx hb dX8_topId_22 ?_
    refine lv_topi (fun v3 ev3 => ?_)
    have tv3 : v3.toInt = v1.toInt - 1 := by rw [ev3]; have z9 := pi_sub (x := v1) (y := (1 : Int32)); rw [k_1] at z9; exact z9 (by omega)
    refine pa_i M V (c_is_38 S) (by rw [c_n_38 S]; exact pi_in (by omega)) dX8_topId_23 ?_
    refine lv_topi (fun v4 ev4 => ?_)
    refine lv_goto (tgt := 28) hx hb dX8_topId_24 (by decide) ?_
    exact J_28 v4 _ _ _ _ V I (A.wk (by decide)) (lv_sub hl [0] rfl) 
theorem dX8_idOf_0 : decode cX8_idOf 0 = .ok (.bipush 31, 2) := by decide +kernel
theorem dX8_idOf_2 : decode cX8_idOf 2 = .ok (.aload_n 0, 1) := by decide +kernel
theorem dX8_idOf_3 : decode cX8_idOf 3 = .ok (.invokevirtual 44, 3) := by decide +kernel
theorem dX8_idOf_6 : decode cX8_idOf 6 = .ok (.imul, 1) := by decide +kernel
theorem dX8_idOf_7 : decode cX8_idOf 7 = .ok (.iconst 1, 1) := by decide +kernel
theorem dX8_idOf_8 : decode cX8_idOf 8 = .ok (.iadd, 1) := by decide +kernel
theorem dX8_idOf_9 : decode cX8_idOf 9 = .ok (.iload_n 1, 1) := by decide +kernel
theorem dX8_idOf_10 : decode cX8_idOf 10 = .ok (.iadd, 1) := by decide +kernel
theorem dX8_idOf_11 : decode cX8_idOf 11 = .ok (.istore_n 2, 1) := by decide +kernel
theorem dX8_idOf_12 : decode cX8_idOf 12 = .ok (.iload_n 2, 1) := by decide +kernel
theorem dX8_idOf_13 : decode cX8_idOf 13 = .ok (.ifCond .ne 7, 3) := by decide +kernel
theorem dX8_idOf_16 : decode cX8_idOf 16 = .ok (.iconst 1, 1) := by decide +kernel
theorem dX8_idOf_17 : decode cX8_idOf 17 = .ok (.goto 4, 3) := by decide +kernel
theorem dX8_idOf_20 : decode cX8_idOf 20 = .ok (.iload_n 2, 1) := by decide +kernel
theorem dX8_idOf_21 : decode cX8_idOf 21 = .ok (.ireturn, 1) := by decide +kernel
set_option maxHeartbeats 4000000 in
set_option maxRecDepth 100000 in
theorem m_X8_idOf (l : Launch) {Z : pZ} (S : pSh Z) {h : pH} (I : Iv Z h) (label : Int32)  : pMet l yX8_idOf cX8_idOf 3 (some .int) 2 0 0 42 Z h [.ref (zB Z + 36), .int label] (pQi Z (fun r Z1 h1 => Z = Z1 ∧ Iv Z h1 ∧ agrD [] h h1)) := by
  refine pOfW (lv := [(0, .ref (zB Z + 36)), (1, .int label)]) (by decide) (Nat.le_of_ble_eq_true rfl) rfl ?_
  intro p e s m below meth c ls M hr hlk hnm V hl
  have hx := M.1.1
  have hb := M.1.2.1
  have A : agrD [] h h := agrD.rf
  have J_21 : ∀ (x21_2 : Int32) (y21_0 : Int32) (hJ : pH) (H : Heap) (locs : List Loc) (ls : Array Slot), pV Z hJ s.heap H locs → Iv Z hJ → agrD [] h hJ → lv_has ls 3 [(0, .ref (zB Z + 36)), (1, .int label), (2, .int x21_2)] → W p l e (pRm 2 0 0 42) s m ([.ref (zB Z + 36), .int label] : List Value).toArray below meth c H locs 0 0 (MQ below (pQi Z (fun r Z1 h1 => Z = Z1 ∧ Iv Z h1 ∧ agrD [] h h1)) ([.ref (zB Z + 36), .int label] : List Value).toArray s 0 0 (pA (zB Z))) (F0 m 21 ls [.int y21_0]) := by
    intro x21_2 y21_0 hJ H locs ls V I A hl
    exact pe_i M V rfl rfl hr hlk rfl ⟨rfl, I, A.wk (by decide)⟩ ⟨Nat.le_refl _, Nat.le_refl _⟩ dX8_idOf_21
  refine lv_bipush (v := 31) hx hb dX8_idOf_0 (by decide) ?_
  refine lv_aload_n hx hb dX8_idOf_2 rfl (lv_at hl 0 rfl) ?_
  refine pk_i (pr_V M V (m_X8_topId l S I  ) km_X8_topId (c_is_36 S) pC8 lkM_X8_44 rfl hl.1 rfl (Nat.le_of_ble_eq_true rfl) ⟨Nat.le_of_ble_eq_true rfl, Nat.le_of_ble_eq_true rfl⟩ ⟨Nat.le_of_ble_eq_true rfl, Nat.le_of_ble_eq_true rfl⟩ dX8_idOf_3) V (fun r1 Zr1 hr1 H locs pr1 _ _ V => ?_)
  obtain ⟨rfl, I, pA_r1⟩ := pr1
  have A := A.tr pA_r1 (by decide)
  refine lv_imul hx hb dX8_idOf_6 ?_
  refine lv_topi (fun v2 ev2 => ?_)
  refine lv_iconst (v := 1) hx hb dX8_idOf_7 (by decide) ?_
  refine lv_iadd hx hb dX8_idOf_8 ?_
  refine lv_topi (fun v3 ev3 => ?_)
  refine lv_iload_n hx hb dX8_idOf_9 rfl (lv_at hl 1 rfl) ?_
  refine lv_iadd hx hb dX8_idOf_10 ?_
  refine lv_topi (fun v4 ev4 => ?_)
  refine lv_istore_n (lv' := [(2, .int v4), (0, .ref (zB Z + 36)), (1, .int label)]) hx hb dX8_idOf_11 rfl hl (by decide) rfl (fun ls hl => ?_)
  refine lv_iload_n hx hb dX8_idOf_12 rfl (lv_at hl 0 rfl) ?_
  refine lv_if_ne (tgt := 20) hx hb dX8_idOf_13 (by decide) (fun c_13 => ?_) (fun c_13 => ?_)
  · skip
    have k_0 : (0 : Int32).toInt = 0 := rfl
    have c_13 := pi_ne c_13
    refine lv_iload_n hx hb dX8_idOf_20 rfl (lv_at hl 0 rfl) ?_
    exact J_21 v4 v4 _ _ _ _ V I (A.wk (by decide)) (lv_sub hl [1, 2, 0] rfl) 
  · skip
    have k_0 : (0 : Int32).toInt = 0 := rfl
    have c_13 := pi_eq.mp c_13
    refine lv_iconst (v := 1) hx hb dX8_idOf_16 (by decide) ?_
    refine lv_goto (tgt := 21) hx hb dX8_idOf_17 (by decide) ?_
    exact J_21 v4 (1 : Int32) _ _ _ _ V I (A.wk (by decide)) (lv_sub hl [1, 2, 0] rfl) 
theorem dX10_find_0 : decode cX10_find 0 = .ok (.iconst 0, 1) := by decide +kernel
theorem dX10_find_1 : decode cX10_find 1 = .ok (.istore_n 2, 1) := by decide +kernel
theorem dX10_find_2 : decode cX10_find 2 = .ok (.iload_n 2, 1) := by decide +kernel
theorem dX10_find_3 : decode cX10_find 3 = .ok (.aload_n 0, 1) := by decide +kernel
theorem dX10_find_4 : decode cX10_find 4 = .ok (.getfield 27, 3) := by decide +kernel
theorem dX10_find_7 : decode cX10_find 7 = .ok (.if_icmp .ge 27, 3) := by decide +kernel
theorem dX10_find_10 : decode cX10_find 10 = .ok (.iload_n 2, 1) := by decide +kernel
theorem dX10_find_11 : decode cX10_find 11 = .ok (.bipush 40, 2) := by decide +kernel
theorem dX10_find_13 : decode cX10_find 13 = .ok (.if_icmp .ge 21, 3) := by decide +kernel
theorem dX10_find_16 : decode cX10_find 16 = .ok (.aload_n 0, 1) := by decide +kernel
theorem dX10_find_17 : decode cX10_find 17 = .ok (.getfield 11, 3) := by decide +kernel
theorem dX10_find_20 : decode cX10_find 20 = .ok (.iload_n 2, 1) := by decide +kernel
theorem dX10_find_21 : decode cX10_find 21 = .ok (.iaload, 1) := by decide +kernel
theorem dX10_find_22 : decode cX10_find 22 = .ok (.iload_n 1, 1) := by decide +kernel
theorem dX10_find_23 : decode cX10_find 23 = .ok (.if_icmp .ne 5, 3) := by decide +kernel
theorem dX10_find_26 : decode cX10_find 26 = .ok (.iload_n 2, 1) := by decide +kernel
theorem dX10_find_27 : decode cX10_find 27 = .ok (.ireturn, 1) := by decide +kernel
theorem dX10_find_28 : decode cX10_find 28 = .ok (.iinc 2 1, 3) := by decide +kernel
theorem dX10_find_31 : decode cX10_find 31 = .ok (.goto (-29), 3) := by decide +kernel
theorem dX10_find_34 : decode cX10_find 34 = .ok (.iconst (-1), 1) := by decide +kernel
theorem dX10_find_35 : decode cX10_find 35 = .ok (.ireturn, 1) := by decide +kernel
set_option maxHeartbeats 4000000 in
set_option maxRecDepth 100000 in
theorem m_X10_find (l : Launch) {Z : pZ} (S : pSh Z) {h : pH} (I : Iv Z h) (id : Int32)  : pMet l yX10_find cX10_find 3 (some .int) 0 0 0 0 Z h [.ref (zB Z + 123), .int id] (pQi Z (fun r Z1 h1 => Z = Z1 ∧ Iv Z h1 ∧ agrD [] h h1 ∧ (-1 ≤ r.toInt ∧ r.toInt ≤ 39))) := by
  refine pOfW (lv := [(0, .ref (zB Z + 123)), (1, .int id)]) (by decide) (Nat.le_of_ble_eq_true rfl) rfl ?_
  intro p e s m below meth c ls M hr hlk hnm V hl
  have hx := M.1.1
  have hb := M.1.2.1
  have A : agrD [] h h := agrD.rf
  have J_34 : ∀ (x34_2 : Int32) (hJ : pH) (H : Heap) (locs : List Loc) (ls : Array Slot), pV Z hJ s.heap H locs → Iv Z hJ → agrD [] h hJ → lv_has ls 3 [(0, .ref (zB Z + 123)), (1, .int id), (2, .int x34_2)] → (0 ≤ x34_2.toInt ∧ x34_2.toInt ≤ 40) → W p l e (pRm 0 0 0 0) s m ([.ref (zB Z + 123), .int id] : List Value).toArray below meth c H locs 0 0 (MQ below (pQi Z (fun r Z1 h1 => Z = Z1 ∧ Iv Z h1 ∧ agrD [] h h1 ∧ (-1 ≤ r.toInt ∧ r.toInt ≤ 39))) ([.ref (zB Z + 123), .int id] : List Value).toArray s 0 0 (pA (zB Z))) (F0 m 34 ls []) := by
    intro x34_2 hJ H locs ls V I A hl g_34_2
    refine lv_iconst (v := (-1)) hx hb dX10_find_34 (by decide) ?_
    have k_m1 : (-1 : Int32).toInt = -1 := rfl
    exact pe_i M V rfl rfl hr hlk rfl ⟨rfl, I, A.wk (by decide), by omega⟩ ⟨Nat.le_refl _, Nat.le_refl _⟩ dX10_find_35
  have J_2 : ∀ (n9 : Nat) (x2_2 : Int32) (hJ : pH) (H : Heap) (locs : List Loc) (ls : Array Slot), pV Z hJ s.heap H locs → Iv Z hJ → agrD [] h hJ → lv_has ls 3 [(0, .ref (zB Z + 123)), (1, .int id), (2, .int x2_2)] → (0 ≤ x2_2.toInt ∧ x2_2.toInt ≤ 40) → (40 - x2_2.toInt).toNat < n9 → W p l e (pRm 0 0 0 0) s m ([.ref (zB Z + 123), .int id] : List Value).toArray below meth c H locs 0 0 (MQ below (pQi Z (fun r Z1 h1 => Z = Z1 ∧ Iv Z h1 ∧ agrD [] h h1 ∧ (-1 ≤ r.toInt ∧ r.toInt ≤ 39))) ([.ref (zB Z + 123), .int id] : List Value).toArray s 0 0 (pA (zB Z))) (F0 m 2 ls []) := by
    intro n9
    induction n9 with
    | zero => intro x2_2 hJ H locs ls V I A hl g_2_2 hm9; exact absurd hm9 (Nat.not_lt_zero _)
    | succ n9 ih_2 =>
      intro x2_2 hJ H locs ls V I A hl g_2_2 hm9
      refine lv_iload_n hx hb dX10_find_2 rfl (lv_at hl 2 rfl) ?_
      refine lv_aload_n hx hb dX10_find_3 rfl (lv_at hl 0 rfl) ?_
      refine pg_i M V 10 5 (c_is_123 S) pC10 fk10_5 lkF_X10_27 dX10_find_4 ?_
      refine lv_topi (fun v1 ev1 => ?_)
      have tv1 : 0 ≤ v1.toInt ∧ v1.toInt ≤ 40 := by rw [ev1]; exact I.get (c_is_123 S) 5
      refine lv_icmp_ge (tgt := 34) hx hb dX10_find_7 (by decide) (fun c_7 => ?_) (fun c_7 => ?_)
      · skip
        have c_7 := pi_le.mp c_7
        exact J_34 x2_2 _ _ _ _ V I (A.wk (by decide)) (lv_sub hl [0, 1, 2] rfl) (by omega) 
      · skip
        have c_7 := pi_le' c_7
        refine lv_iload_n hx hb dX10_find_10 rfl (lv_at hl 2 rfl) ?_
        refine lv_bipush (v := 40) hx hb dX10_find_11 (by decide) ?_
        refine lv_icmp_ge (tgt := 34) hx hb dX10_find_13 (by decide) (fun c_13 => ?_) (fun c_13 => ?_)
        · skip
          have k_40 : (40 : Int32).toInt = 40 := rfl
          have c_13 := pi_le.mp c_13
          exact J_34 x2_2 _ _ _ _ V I (A.wk (by decide)) (lv_sub hl [0, 1, 2] rfl) (by omega) 
        · skip
          have k_40 : (40 : Int32).toInt = 40 := rfl
          have c_13 := pi_le' c_13
          refine lv_aload_n hx hb dX10_find_16 rfl (lv_at hl 0 rfl) ?_
          refine pg_r M V 10 0 (c_is_123 S) pC10 fk10_0 (c_r_123_0 S) lkF_X10_11 dX10_find_17 ?_
          refine lv_iload_n hx hb dX10_find_20 rfl (lv_at hl 2 rfl) ?_
          refine pa_i M V (c_is_124 S) (by rw [c_n_124 S]; exact pi_in (by omega)) dX10_find_21 ?_
          refine lv_topi (fun v2 ev2 => ?_)
          refine lv_iload_n hx hb dX10_find_22 rfl (lv_at hl 1 rfl) ?_
          refine lv_icmp_ne (tgt := 28) hx hb dX10_find_23 (by decide) (fun c_23 => ?_) (fun c_23 => ?_)
          · skip
            have c_23 := pi_ne c_23
            obtain ⟨v3, ev3⟩ : ∃ y : Int32, y = x2_2 + 1 := ⟨_, rfl⟩
            refine lv_iinc (v := v3) (lv' := [(2, .int v3), (0, .ref (zB Z + 123)), (1, .int id)]) hx hb dX10_find_28 hl (k := 2) rfl (by rw [ev3]; rfl) (by decide) rfl (fun ls hl => ?_)
            refine lv_goto (tgt := 2) hx hb dX10_find_31 (by decide) ?_
            have k_1 : (1 : Int32).toInt = 1 := rfl
            have tv3 : v3.toInt = x2_2.toInt + 1 := by rw [ev3]; have z9 := pi_add (x := x2_2) (y := (1 : Int32)); rw [k_1] at z9; exact z9 (by omega)
            exact ih_2 v3 _ _ _ _ V I (A.wk (by decide)) (lv_sub hl [1, 2, 0] rfl) (by omega) (by omega) 
          · skip
            have c_23 := pi_eq.mp c_23
            refine lv_iload_n hx hb dX10_find_26 rfl (lv_at hl 2 rfl) ?_
            exact pe_i M V rfl rfl hr hlk rfl ⟨rfl, I, A.wk (by decide), by omega⟩ ⟨Nat.le_refl _, Nat.le_refl _⟩ dX10_find_27
  refine lv_iconst (v := 0) hx hb dX10_find_0 (by decide) ?_
  refine lv_istore_n (lv' := [(2, .int (0 : Int32)), (0, .ref (zB Z + 123)), (1, .int id)]) hx hb dX10_find_1 rfl hl (by decide) rfl (fun ls hl => ?_)
  have k_0 : (0 : Int32).toInt = 0 := rfl
  exact J_2 _ (0 : Int32) _ _ _ _ V I (A.wk (by decide)) (lv_sub hl [1, 2, 0] rfl) (by omega) (Nat.lt_succ_self _) 
theorem dX10_claim_0 : decode cX10_claim 0 = .ok (.aload_n 0, 1) := by decide +kernel
theorem dX10_claim_1 : decode cX10_claim 1 = .ok (.iload_n 1, 1) := by decide +kernel
theorem dX10_claim_2 : decode cX10_claim 2 = .ok (.invokevirtual 31, 3) := by decide +kernel
theorem dX10_claim_5 : decode cX10_claim 5 = .ok (.istore_n 2, 1) := by decide +kernel
theorem dX10_claim_6 : decode cX10_claim 6 = .ok (.iload_n 2, 1) := by decide +kernel
theorem dX10_claim_7 : decode cX10_claim 7 = .ok (.iconst (-1), 1) := by decide +kernel
theorem dX10_claim_8 : decode cX10_claim 8 = .ok (.if_icmp .ne 12, 3) := by decide +kernel
theorem dX10_claim_11 : decode cX10_claim 11 = .ok (.aload_n 0, 1) := by decide +kernel
theorem dX10_claim_12 : decode cX10_claim 12 = .ok (.getfield 27, 3) := by decide +kernel
theorem dX10_claim_15 : decode cX10_claim 15 = .ok (.bipush 40, 2) := by decide +kernel
theorem dX10_claim_17 : decode cX10_claim 17 = .ok (.if_icmp .lt 5, 3) := by decide +kernel
theorem dX10_claim_20 : decode cX10_claim 20 = .ok (.iload_n 2, 1) := by decide +kernel
theorem dX10_claim_21 : decode cX10_claim 21 = .ok (.ireturn, 1) := by decide +kernel
theorem dX10_claim_22 : decode cX10_claim 22 = .ok (.aload_n 0, 1) := by decide +kernel
theorem dX10_claim_23 : decode cX10_claim 23 = .ok (.getfield 11, 3) := by decide +kernel
theorem dX10_claim_26 : decode cX10_claim 26 = .ok (.aload_n 0, 1) := by decide +kernel
theorem dX10_claim_27 : decode cX10_claim 27 = .ok (.getfield 27, 3) := by decide +kernel
theorem dX10_claim_30 : decode cX10_claim 30 = .ok (.iload_n 1, 1) := by decide +kernel
theorem dX10_claim_31 : decode cX10_claim 31 = .ok (.iastore, 1) := by decide +kernel
theorem dX10_claim_32 : decode cX10_claim 32 = .ok (.aload_n 0, 1) := by decide +kernel
theorem dX10_claim_33 : decode cX10_claim 33 = .ok (.dup, 1) := by decide +kernel
theorem dX10_claim_34 : decode cX10_claim 34 = .ok (.getfield 27, 3) := by decide +kernel
theorem dX10_claim_37 : decode cX10_claim 37 = .ok (.iconst 1, 1) := by decide +kernel
theorem dX10_claim_38 : decode cX10_claim 38 = .ok (.iadd, 1) := by decide +kernel
theorem dX10_claim_39 : decode cX10_claim 39 = .ok (.putfield 27, 3) := by decide +kernel
theorem dX10_claim_42 : decode cX10_claim 42 = .ok (.aload_n 0, 1) := by decide +kernel
theorem dX10_claim_43 : decode cX10_claim 43 = .ok (.getfield 27, 3) := by decide +kernel
theorem dX10_claim_46 : decode cX10_claim 46 = .ok (.iconst 1, 1) := by decide +kernel
theorem dX10_claim_47 : decode cX10_claim 47 = .ok (.isub, 1) := by decide +kernel
theorem dX10_claim_48 : decode cX10_claim 48 = .ok (.ireturn, 1) := by decide +kernel
set_option maxHeartbeats 4000000 in
set_option maxRecDepth 100000 in
theorem m_X10_claim (l : Launch) {Z : pZ} (S : pSh Z) {h : pH} (I : Iv Z h) (id : Int32)  : pMet l yX10_claim cX10_claim 3 (some .int) 1 0 0 22 Z h [.ref (zB Z + 123), .int id] (pQi Z (fun r Z1 h1 => Z = Z1 ∧ Iv Z h1 ∧ agrD [(123, 5), (124, 1000)] h h1 ∧ (-1 ≤ r.toInt ∧ r.toInt ≤ 39))) := by
  refine pOfW (lv := [(0, .ref (zB Z + 123)), (1, .int id)]) (by decide) (Nat.le_of_ble_eq_true rfl) rfl ?_
  intro p e s m below meth c ls M hr hlk hnm V hl
  have hx := M.1.1
  have hb := M.1.2.1
  have A : agrD [] h h := agrD.rf
  have J_20 : ∀ (x20_2 : Int32) (hJ : pH) (H : Heap) (locs : List Loc) (ls : Array Slot), pV Z hJ s.heap H locs → Iv Z hJ → agrD [] h hJ → lv_has ls 3 [(0, .ref (zB Z + 123)), (1, .int id), (2, .int x20_2)] → (-1 ≤ x20_2.toInt ∧ x20_2.toInt ≤ 39) → W p l e (pRm 1 0 0 22) s m ([.ref (zB Z + 123), .int id] : List Value).toArray below meth c H locs 0 0 (MQ below (pQi Z (fun r Z1 h1 => Z = Z1 ∧ Iv Z h1 ∧ agrD [(123, 5), (124, 1000)] h h1 ∧ (-1 ≤ r.toInt ∧ r.toInt ≤ 39))) ([.ref (zB Z + 123), .int id] : List Value).toArray s 0 0 (pA (zB Z))) (F0 m 20 ls []) := by
    intro x20_2 hJ H locs ls V I A hl g_20_2
    refine lv_iload_n hx hb dX10_claim_20 rfl (lv_at hl 2 rfl) ?_
    exact pe_i M V rfl rfl hr hlk rfl ⟨rfl, I, A.wk (by decide), by omega⟩ ⟨Nat.le_refl _, Nat.le_refl _⟩ dX10_claim_21
  refine lv_aload_n hx hb dX10_claim_0 rfl (lv_at hl 0 rfl) ?_
  refine lv_iload_n hx hb dX10_claim_1 rfl (lv_at hl 1 rfl) ?_
  refine pk_i (pr_V M V (m_X10_find l S I id ) km_X10_find (c_is_123 S) pC10 lkM_X10_31 rfl hl.1 rfl (Nat.le_of_ble_eq_true rfl) ⟨Nat.le_of_ble_eq_true rfl, Nat.le_of_ble_eq_true rfl⟩ ⟨Nat.le_of_ble_eq_true rfl, Nat.le_of_ble_eq_true rfl⟩ dX10_claim_2) V (fun r1 Zr1 hr1 H locs pr1 _ _ V => ?_)
  obtain ⟨rfl, I, pA_r1, fr1_0⟩ := pr1
  have A := A.tr pA_r1 (by decide)
  refine lv_istore_n (lv' := [(2, .int r1), (0, .ref (zB Z + 123)), (1, .int id)]) hx hb dX10_claim_5 rfl hl (by decide) rfl (fun ls hl => ?_)
  refine lv_iload_n hx hb dX10_claim_6 rfl (lv_at hl 0 rfl) ?_
  refine lv_iconst (v := (-1)) hx hb dX10_claim_7 (by decide) ?_
  refine lv_icmp_ne (tgt := 20) hx hb dX10_claim_8 (by decide) (fun c_8 => ?_) (fun c_8 => ?_)
  · skip
    have k_m1 : (-1 : Int32).toInt = -1 := rfl
    have c_8 := pi_ne c_8
    exact J_20 r1 _ _ _ _ V I (A.wk (by decide)) (lv_sub hl [1, 2, 0] rfl) (by omega) 
  · skip
    have k_m1 : (-1 : Int32).toInt = -1 := rfl
    have c_8 := pi_eq.mp c_8
    refine lv_aload_n hx hb dX10_claim_11 rfl (lv_at hl 1 rfl) ?_
    refine pg_i M V 10 5 (c_is_123 S) pC10 fk10_5 lkF_X10_27 dX10_claim_12 ?_
    refine lv_topi (fun v2 ev2 => ?_)
    have tv2 : 0 ≤ v2.toInt ∧ v2.toInt ≤ 40 := by rw [ev2]; exact I.get (c_is_123 S) 5
    refine lv_bipush (v := 40) hx hb dX10_claim_15 (by decide) ?_
    refine lv_icmp_lt (tgt := 22) hx hb dX10_claim_17 (by decide) (fun c_17 => ?_) (fun c_17 => ?_)
    · skip
      have k_40 : (40 : Int32).toInt = 40 := rfl
      have c_17 := pi_lt.mp c_17
      refine lv_aload_n hx hb dX10_claim_22 rfl (lv_at hl 1 rfl) ?_
      refine pg_r M V 10 0 (c_is_123 S) pC10 fk10_0 (c_r_123_0 S) lkF_X10_11 dX10_claim_23 ?_
      refine lv_aload_n hx hb dX10_claim_26 rfl (lv_at hl 1 rfl) ?_
      refine pg_iv M V 10 5 (v := v2) (c_is_123 S) pC10 fk10_5 ev2.symm lkF_X10_27 dX10_claim_27 ?_
      refine lv_iload_n hx hb dX10_claim_30 rfl (lv_at hl 2 rfl) ?_
      refine ps_i M V (c_is_124 S) (by rw [c_n_124 S]; exact pi_in (by omega)) dX10_claim_31 (fun H locs V => ?_)
      have A := A.wk (l3 := [(124, 1000)]) (by decide)
      have A := A.upA (o := 124) (k := v2.toNatClampNeg) (v := id) (by decide)
      have I := I.up (k := v2.toNatClampNeg) (v := id) (c_is_124 S) (pi_full _)
      refine lv_aload_n hx hb dX10_claim_32 rfl (lv_at hl 1 rfl) ?_
      refine lv_dup hx hb dX10_claim_33 rfl ?_
      refine pg_iv M V 10 5 (v := v2) (c_is_123 S) pC10 fk10_5 ev2.symm lkF_X10_27 dX10_claim_34 ?_
      refine lv_iconst (v := 1) hx hb dX10_claim_37 (by decide) ?_
      refine lv_iadd hx hb dX10_claim_38 ?_
      refine lv_topi (fun v3 ev3 => ?_)
      refine pp_i M V 10 5 (c_is_123 S) pC10 fk10_5 rfl lkF_X10_27 ⟨rfl, rfl⟩ dX10_claim_39 (fun H locs V => ?_)
      have A := A.wk (l3 := [(124, 1000), (123, 5)]) (by decide)
      have A := A.up (o := 123) (k := 5) (v := v3) (by decide)
      have k_1 : (1 : Int32).toInt = 1 := rfl
      have tv3 : v3.toInt = v2.toInt + 1 := by rw [ev3]; have z9 := pi_add (x := v2) (y := (1 : Int32)); rw [k_1] at z9; exact z9 (by omega)
      have I := I.up (k := 5) (v := v3) (c_is_123 S) (show (0 : Int) ≤ v3.toInt ∧ v3.toInt ≤ (40 : Int) by omega)
      refine lv_aload_n hx hb dX10_claim_42 rfl (lv_at hl 1 rfl) ?_
      refine pg_iv M V 10 5 (v := v3) (c_is_123 S) pC10 fk10_5 rfl lkF_X10_27 dX10_claim_43 ?_
      refine lv_iconst (v := 1) hx hb dX10_claim_46 (by decide) ?_
      refine lv_isub hx hb dX10_claim_47 ?_
      refine lv_topi (fun v4 ev4 => ?_)
      have tv4 : v4.toInt = v3.toInt - 1 := by rw [ev4]; have z9 := pi_sub (x := v3) (y := (1 : Int32)); rw [k_1] at z9; exact z9 (by omega)
      exact pe_i M V rfl rfl hr hlk rfl ⟨rfl, I, A.wk (by decide), by omega⟩ ⟨Nat.le_refl _, Nat.le_refl _⟩ dX10_claim_48
    · skip
      have k_40 : (40 : Int32).toInt = 40 := rfl
      have c_17 := pi_lt' c_17
      exact J_20 r1 _ _ _ _ V I (A.wk (by decide)) (lv_sub hl [1, 2, 0] rfl) (by omega) 
theorem dX10_isSlot_0 : decode cX10_isSlot 0 = .ok (.iload_n 0, 1) := by decide +kernel
theorem dX10_isSlot_1 : decode cX10_isSlot 1 = .ok (.iconst 0, 1) := by decide +kernel
theorem dX10_isSlot_2 : decode cX10_isSlot 2 = .ok (.bipush 39, 2) := by decide +kernel
theorem dX10_isSlot_4 : decode cX10_isSlot 4 = .ok (.invokestatic 35, 3) := by decide +kernel
theorem dX10_isSlot_7 : decode cX10_isSlot 7 = .ok (.ireturn, 1) := by decide +kernel
set_option maxHeartbeats 4000000 in
set_option maxRecDepth 100000 in
theorem m_X10_isSlot (l : Launch) {Z : pZ} {h : pH} (a : Int32)  : pMet l yX10_isSlot cX10_isSlot 1 (some .boolean) 1 0 0 22 Z h [.int a] (pQi Z (fun r Z1 h1 => Z = Z1 ∧ h = h1 ∧ ((r.toInt = 1 ∧ 0 ≤ a.toInt ∧ a.toInt ≤ 39) ∨ (r.toInt = 0 ∧ (a.toInt < 0 ∨ 39 < a.toInt))))) := by
  refine pOfW (lv := [(0, .int a)]) (by decide) (Nat.le_of_ble_eq_true rfl) rfl ?_
  intro p e s m below meth c ls M hr hlk hnm V hl
  have hx := M.1.1
  have hb := M.1.2.1
  refine lv_iload_n hx hb dX10_isSlot_0 rfl (lv_at hl 0 rfl) ?_
  refine lv_iconst (v := 0) hx hb dX10_isSlot_1 (by decide) ?_
  refine lv_bipush (v := 39) hx hb dX10_isSlot_2 (by decide) ?_
  have k_0 : (0 : Int32).toInt = 0 := rfl
  have k_39 : (39 : Int32).toInt = 39 := rfl
  refine pk_i (pr_SN M V (m_X11_isWithin l (Z := Z) (h := _) a (0 : Int32) (39 : Int32)) km_X11_isWithin lkN_X10_35 rfl hl.1 rfl (Nat.le_of_ble_eq_true rfl) ⟨Nat.le_of_ble_eq_true rfl, Nat.le_of_ble_eq_true rfl⟩ ⟨Nat.le_of_ble_eq_true rfl, Nat.le_of_ble_eq_true rfl⟩ dX10_isSlot_4) V (fun r1 Zr1 hr1 H locs pr1 _ _ V => ?_)
  obtain ⟨rfl, rfl, fr1_0⟩ := pr1
  exact pe_i M V rfl rfl hr hlk (pn_z (pi_z (by omega))).1 ⟨rfl, rfl, by omega⟩ ⟨Nat.le_refl _, Nat.le_refl _⟩ dX10_isSlot_7
theorem dX10_numberOf_0 : decode cX10_numberOf 0 = .ok (.aload_n 0, 1) := by decide +kernel
theorem dX10_numberOf_1 : decode cX10_numberOf 1 = .ok (.iload_n 1, 1) := by decide +kernel
theorem dX10_numberOf_2 : decode cX10_numberOf 2 = .ok (.invokevirtual 31, 3) := by decide +kernel
theorem dX10_numberOf_5 : decode cX10_numberOf 5 = .ok (.istore_n 2, 1) := by decide +kernel
theorem dX10_numberOf_6 : decode cX10_numberOf 6 = .ok (.iload_n 2, 1) := by decide +kernel
theorem dX10_numberOf_7 : decode cX10_numberOf 7 = .ok (.invokestatic 39, 3) := by decide +kernel
theorem dX10_numberOf_10 : decode cX10_numberOf 10 = .ok (.ifCond .eq 12, 3) := by decide +kernel
theorem dX10_numberOf_13 : decode cX10_numberOf 13 = .ok (.aload_n 0, 1) := by decide +kernel
theorem dX10_numberOf_14 : decode cX10_numberOf 14 = .ok (.getfield 15, 3) := by decide +kernel
theorem dX10_numberOf_17 : decode cX10_numberOf 17 = .ok (.iload_n 2, 1) := by decide +kernel
theorem dX10_numberOf_18 : decode cX10_numberOf 18 = .ok (.iaload, 1) := by decide +kernel
theorem dX10_numberOf_19 : decode cX10_numberOf 19 = .ok (.goto 4, 3) := by decide +kernel
theorem dX10_numberOf_22 : decode cX10_numberOf 22 = .ok (.iconst 0, 1) := by decide +kernel
theorem dX10_numberOf_23 : decode cX10_numberOf 23 = .ok (.ireturn, 1) := by decide +kernel
set_option maxHeartbeats 4000000 in
set_option maxRecDepth 100000 in
theorem m_X10_numberOf (l : Launch) {Z : pZ} (S : pSh Z) {h : pH} (I : Iv Z h) (id : Int32)  : pMet l yX10_numberOf cX10_numberOf 3 (some .int) 2 0 0 42 Z h [.ref (zB Z + 123), .int id] (pQi Z (fun r Z1 h1 => Z = Z1 ∧ Iv Z h1 ∧ agrD [] h h1)) := by
  refine pOfW (lv := [(0, .ref (zB Z + 123)), (1, .int id)]) (by decide) (Nat.le_of_ble_eq_true rfl) rfl ?_
  intro p e s m below meth c ls M hr hlk hnm V hl
  have hx := M.1.1
  have hb := M.1.2.1
  have A : agrD [] h h := agrD.rf
  have J_23 : ∀ (x23_2 : Int32) (y23_0 : Int32) (hJ : pH) (H : Heap) (locs : List Loc) (ls : Array Slot), pV Z hJ s.heap H locs → Iv Z hJ → agrD [] h hJ → lv_has ls 3 [(0, .ref (zB Z + 123)), (1, .int id), (2, .int x23_2)] → (-1 ≤ x23_2.toInt ∧ x23_2.toInt ≤ 39) → W p l e (pRm 2 0 0 42) s m ([.ref (zB Z + 123), .int id] : List Value).toArray below meth c H locs 0 0 (MQ below (pQi Z (fun r Z1 h1 => Z = Z1 ∧ Iv Z h1 ∧ agrD [] h h1)) ([.ref (zB Z + 123), .int id] : List Value).toArray s 0 0 (pA (zB Z))) (F0 m 23 ls [.int y23_0]) := by
    intro x23_2 y23_0 hJ H locs ls V I A hl g_23_2
    exact pe_i M V rfl rfl hr hlk rfl ⟨rfl, I, A.wk (by decide)⟩ ⟨Nat.le_refl _, Nat.le_refl _⟩ dX10_numberOf_23
  refine lv_aload_n hx hb dX10_numberOf_0 rfl (lv_at hl 0 rfl) ?_
  refine lv_iload_n hx hb dX10_numberOf_1 rfl (lv_at hl 1 rfl) ?_
  refine pk_i (pr_V M V (m_X10_find l S I id ) km_X10_find (c_is_123 S) pC10 lkM_X10_31 rfl hl.1 rfl (Nat.le_of_ble_eq_true rfl) ⟨Nat.le_of_ble_eq_true rfl, Nat.le_of_ble_eq_true rfl⟩ ⟨Nat.le_of_ble_eq_true rfl, Nat.le_of_ble_eq_true rfl⟩ dX10_numberOf_2) V (fun r1 Zr1 hr1 H locs pr1 _ _ V => ?_)
  obtain ⟨rfl, I, pA_r1, fr1_0⟩ := pr1
  have A := A.tr pA_r1 (by decide)
  refine lv_istore_n (lv' := [(2, .int r1), (0, .ref (zB Z + 123)), (1, .int id)]) hx hb dX10_numberOf_5 rfl hl (by decide) rfl (fun ls hl => ?_)
  refine lv_iload_n hx hb dX10_numberOf_6 rfl (lv_at hl 0 rfl) ?_
  refine pk_i (pr_S M V (m_X10_isSlot l (Z := Z) (h := _) r1) km_X10_isSlot lkM_X10_39 rfl hl.1 rfl (Nat.le_of_ble_eq_true rfl) ⟨Nat.le_of_ble_eq_true rfl, Nat.le_of_ble_eq_true rfl⟩ ⟨Nat.le_of_ble_eq_true rfl, Nat.le_of_ble_eq_true rfl⟩ dX10_numberOf_7) V (fun r2 Zr2 hr2 H locs pr2 _ _ V => ?_)
  obtain ⟨rfl, rfl, fr2_0⟩ := pr2
  refine lv_if_eq (tgt := 22) hx hb dX10_numberOf_10 (by decide) (fun c_10 => ?_) (fun c_10 => ?_)
  · skip
    have k_0 : (0 : Int32).toInt = 0 := rfl
    have c_10 := pi_eq.mp c_10
    refine lv_iconst (v := 0) hx hb dX10_numberOf_22 (by decide) ?_
    exact J_23 r1 (0 : Int32) _ _ _ _ V I (A.wk (by decide)) (lv_sub hl [1, 2, 0] rfl) (by omega) 
  · skip
    have k_0 : (0 : Int32).toInt = 0 := rfl
    have c_10 := pi_ne c_10
    refine lv_aload_n hx hb dX10_numberOf_13 rfl (lv_at hl 1 rfl) ?_
    refine pg_r M V 10 1 (c_is_123 S) pC10 fk10_1 (c_r_123_1 S) lkF_X10_15 dX10_numberOf_14 ?_
    refine lv_iload_n hx hb dX10_numberOf_17 rfl (lv_at hl 0 rfl) ?_
    refine pa_i M V (c_is_125 S) (by rw [c_n_125 S]; exact pi_in (by omega)) dX10_numberOf_18 ?_
    refine lv_topi (fun v3 ev3 => ?_)
    refine lv_goto (tgt := 23) hx hb dX10_numberOf_19 (by decide) ?_
    exact J_23 r1 v3 _ _ _ _ V I (A.wk (by decide)) (lv_sub hl [1, 2, 0] rfl) (by omega) 
theorem dX10_caretOf_0 : decode cX10_caretOf 0 = .ok (.aload_n 0, 1) := by decide +kernel
theorem dX10_caretOf_1 : decode cX10_caretOf 1 = .ok (.iload_n 1, 1) := by decide +kernel
theorem dX10_caretOf_2 : decode cX10_caretOf 2 = .ok (.invokevirtual 31, 3) := by decide +kernel
theorem dX10_caretOf_5 : decode cX10_caretOf 5 = .ok (.istore_n 2, 1) := by decide +kernel
theorem dX10_caretOf_6 : decode cX10_caretOf 6 = .ok (.iload_n 2, 1) := by decide +kernel
theorem dX10_caretOf_7 : decode cX10_caretOf 7 = .ok (.invokestatic 39, 3) := by decide +kernel
theorem dX10_caretOf_10 : decode cX10_caretOf 10 = .ok (.ifCond .eq 12, 3) := by decide +kernel
theorem dX10_caretOf_13 : decode cX10_caretOf 13 = .ok (.aload_n 0, 1) := by decide +kernel
theorem dX10_caretOf_14 : decode cX10_caretOf 14 = .ok (.getfield 21, 3) := by decide +kernel
theorem dX10_caretOf_17 : decode cX10_caretOf 17 = .ok (.iload_n 2, 1) := by decide +kernel
theorem dX10_caretOf_18 : decode cX10_caretOf 18 = .ok (.iaload, 1) := by decide +kernel
theorem dX10_caretOf_19 : decode cX10_caretOf 19 = .ok (.goto 4, 3) := by decide +kernel
theorem dX10_caretOf_22 : decode cX10_caretOf 22 = .ok (.iconst (-1), 1) := by decide +kernel
theorem dX10_caretOf_23 : decode cX10_caretOf 23 = .ok (.ireturn, 1) := by decide +kernel
set_option maxHeartbeats 4000000 in
set_option maxRecDepth 100000 in
theorem m_X10_caretOf (l : Launch) {Z : pZ} (S : pSh Z) {h : pH} (I : Iv Z h) (id : Int32)  : pMet l yX10_caretOf cX10_caretOf 3 (some .int) 2 0 0 42 Z h [.ref (zB Z + 123), .int id] (pQi Z (fun r Z1 h1 => Z = Z1 ∧ Iv Z h1 ∧ agrD [] h h1)) := by
  refine pOfW (lv := [(0, .ref (zB Z + 123)), (1, .int id)]) (by decide) (Nat.le_of_ble_eq_true rfl) rfl ?_
  intro p e s m below meth c ls M hr hlk hnm V hl
  have hx := M.1.1
  have hb := M.1.2.1
  have A : agrD [] h h := agrD.rf
  have J_23 : ∀ (x23_2 : Int32) (y23_0 : Int32) (hJ : pH) (H : Heap) (locs : List Loc) (ls : Array Slot), pV Z hJ s.heap H locs → Iv Z hJ → agrD [] h hJ → lv_has ls 3 [(0, .ref (zB Z + 123)), (1, .int id), (2, .int x23_2)] → (-1 ≤ x23_2.toInt ∧ x23_2.toInt ≤ 39) → W p l e (pRm 2 0 0 42) s m ([.ref (zB Z + 123), .int id] : List Value).toArray below meth c H locs 0 0 (MQ below (pQi Z (fun r Z1 h1 => Z = Z1 ∧ Iv Z h1 ∧ agrD [] h h1)) ([.ref (zB Z + 123), .int id] : List Value).toArray s 0 0 (pA (zB Z))) (F0 m 23 ls [.int y23_0]) := by
    intro x23_2 y23_0 hJ H locs ls V I A hl g_23_2
    exact pe_i M V rfl rfl hr hlk rfl ⟨rfl, I, A.wk (by decide)⟩ ⟨Nat.le_refl _, Nat.le_refl _⟩ dX10_caretOf_23
  refine lv_aload_n hx hb dX10_caretOf_0 rfl (lv_at hl 0 rfl) ?_
  refine lv_iload_n hx hb dX10_caretOf_1 rfl (lv_at hl 1 rfl) ?_
  refine pk_i (pr_V M V (m_X10_find l S I id ) km_X10_find (c_is_123 S) pC10 lkM_X10_31 rfl hl.1 rfl (Nat.le_of_ble_eq_true rfl) ⟨Nat.le_of_ble_eq_true rfl, Nat.le_of_ble_eq_true rfl⟩ ⟨Nat.le_of_ble_eq_true rfl, Nat.le_of_ble_eq_true rfl⟩ dX10_caretOf_2) V (fun r1 Zr1 hr1 H locs pr1 _ _ V => ?_)
  obtain ⟨rfl, I, pA_r1, fr1_0⟩ := pr1
  have A := A.tr pA_r1 (by decide)
  refine lv_istore_n (lv' := [(2, .int r1), (0, .ref (zB Z + 123)), (1, .int id)]) hx hb dX10_caretOf_5 rfl hl (by decide) rfl (fun ls hl => ?_)
  refine lv_iload_n hx hb dX10_caretOf_6 rfl (lv_at hl 0 rfl) ?_
  refine pk_i (pr_S M V (m_X10_isSlot l (Z := Z) (h := _) r1) km_X10_isSlot lkM_X10_39 rfl hl.1 rfl (Nat.le_of_ble_eq_true rfl) ⟨Nat.le_of_ble_eq_true rfl, Nat.le_of_ble_eq_true rfl⟩ ⟨Nat.le_of_ble_eq_true rfl, Nat.le_of_ble_eq_true rfl⟩ dX10_caretOf_7) V (fun r2 Zr2 hr2 H locs pr2 _ _ V => ?_)
  obtain ⟨rfl, rfl, fr2_0⟩ := pr2
  refine lv_if_eq (tgt := 22) hx hb dX10_caretOf_10 (by decide) (fun c_10 => ?_) (fun c_10 => ?_)
  · skip
    have k_0 : (0 : Int32).toInt = 0 := rfl
    have c_10 := pi_eq.mp c_10
    refine lv_iconst (v := (-1)) hx hb dX10_caretOf_22 (by decide) ?_
    exact J_23 r1 (-1 : Int32) _ _ _ _ V I (A.wk (by decide)) (lv_sub hl [1, 2, 0] rfl) (by omega) 
  · skip
    have k_0 : (0 : Int32).toInt = 0 := rfl
    have c_10 := pi_ne c_10
    refine lv_aload_n hx hb dX10_caretOf_13 rfl (lv_at hl 1 rfl) ?_
    refine pg_r M V 10 3 (c_is_123 S) pC10 fk10_3 (c_r_123_3 S) lkF_X10_21 dX10_caretOf_14 ?_
    refine lv_iload_n hx hb dX10_caretOf_17 rfl (lv_at hl 0 rfl) ?_
    refine pa_i M V (c_is_127 S) (by rw [c_n_127 S]; exact pi_in (by omega)) dX10_caretOf_18 ?_
    refine lv_topi (fun v3 ev3 => ?_)
    refine lv_goto (tgt := 23) hx hb dX10_caretOf_19 (by decide) ?_
    exact J_23 r1 v3 _ _ _ _ V I (A.wk (by decide)) (lv_sub hl [1, 2, 0] rfl) (by omega) 
theorem dX10_lengthOf_0 : decode cX10_lengthOf 0 = .ok (.aload_n 0, 1) := by decide +kernel
theorem dX10_lengthOf_1 : decode cX10_lengthOf 1 = .ok (.iload_n 1, 1) := by decide +kernel
theorem dX10_lengthOf_2 : decode cX10_lengthOf 2 = .ok (.invokevirtual 31, 3) := by decide +kernel
theorem dX10_lengthOf_5 : decode cX10_lengthOf 5 = .ok (.istore_n 2, 1) := by decide +kernel
theorem dX10_lengthOf_6 : decode cX10_lengthOf 6 = .ok (.iload_n 2, 1) := by decide +kernel
theorem dX10_lengthOf_7 : decode cX10_lengthOf 7 = .ok (.invokestatic 39, 3) := by decide +kernel
theorem dX10_lengthOf_10 : decode cX10_lengthOf 10 = .ok (.ifCond .eq 12, 3) := by decide +kernel
theorem dX10_lengthOf_13 : decode cX10_lengthOf 13 = .ok (.aload_n 0, 1) := by decide +kernel
theorem dX10_lengthOf_14 : decode cX10_lengthOf 14 = .ok (.getfield 18, 3) := by decide +kernel
theorem dX10_lengthOf_17 : decode cX10_lengthOf 17 = .ok (.iload_n 2, 1) := by decide +kernel
theorem dX10_lengthOf_18 : decode cX10_lengthOf 18 = .ok (.iaload, 1) := by decide +kernel
theorem dX10_lengthOf_19 : decode cX10_lengthOf 19 = .ok (.goto 4, 3) := by decide +kernel
theorem dX10_lengthOf_22 : decode cX10_lengthOf 22 = .ok (.iconst 0, 1) := by decide +kernel
theorem dX10_lengthOf_23 : decode cX10_lengthOf 23 = .ok (.ireturn, 1) := by decide +kernel
set_option maxHeartbeats 4000000 in
set_option maxRecDepth 100000 in
theorem m_X10_lengthOf (l : Launch) {Z : pZ} (S : pSh Z) {h : pH} (I : Iv Z h) (id : Int32)  : pMet l yX10_lengthOf cX10_lengthOf 3 (some .int) 2 0 0 42 Z h [.ref (zB Z + 123), .int id] (pQi Z (fun r Z1 h1 => Z = Z1 ∧ Iv Z h1 ∧ agrD [] h h1 ∧ (0 ≤ r.toInt ∧ r.toInt ≤ 12))) := by
  refine pOfW (lv := [(0, .ref (zB Z + 123)), (1, .int id)]) (by decide) (Nat.le_of_ble_eq_true rfl) rfl ?_
  intro p e s m below meth c ls M hr hlk hnm V hl
  have hx := M.1.1
  have hb := M.1.2.1
  have A : agrD [] h h := agrD.rf
  have J_23 : ∀ (x23_2 : Int32) (y23_0 : Int32) (hJ : pH) (H : Heap) (locs : List Loc) (ls : Array Slot), pV Z hJ s.heap H locs → Iv Z hJ → agrD [] h hJ → lv_has ls 3 [(0, .ref (zB Z + 123)), (1, .int id), (2, .int x23_2)] → (-1 ≤ x23_2.toInt ∧ x23_2.toInt ≤ 39) → (0 ≤ y23_0.toInt ∧ y23_0.toInt ≤ 12) → W p l e (pRm 2 0 0 42) s m ([.ref (zB Z + 123), .int id] : List Value).toArray below meth c H locs 0 0 (MQ below (pQi Z (fun r Z1 h1 => Z = Z1 ∧ Iv Z h1 ∧ agrD [] h h1 ∧ (0 ≤ r.toInt ∧ r.toInt ≤ 12))) ([.ref (zB Z + 123), .int id] : List Value).toArray s 0 0 (pA (zB Z))) (F0 m 23 ls [.int y23_0]) := by
    intro x23_2 y23_0 hJ H locs ls V I A hl g_23_2 gs_23_0
    exact pe_i M V rfl rfl hr hlk rfl ⟨rfl, I, A.wk (by decide), by omega⟩ ⟨Nat.le_refl _, Nat.le_refl _⟩ dX10_lengthOf_23
  refine lv_aload_n hx hb dX10_lengthOf_0 rfl (lv_at hl 0 rfl) ?_
  refine lv_iload_n hx hb dX10_lengthOf_1 rfl (lv_at hl 1 rfl) ?_
  refine pk_i (pr_V M V (m_X10_find l S I id ) km_X10_find (c_is_123 S) pC10 lkM_X10_31 rfl hl.1 rfl (Nat.le_of_ble_eq_true rfl) ⟨Nat.le_of_ble_eq_true rfl, Nat.le_of_ble_eq_true rfl⟩ ⟨Nat.le_of_ble_eq_true rfl, Nat.le_of_ble_eq_true rfl⟩ dX10_lengthOf_2) V (fun r1 Zr1 hr1 H locs pr1 _ _ V => ?_)
  obtain ⟨rfl, I, pA_r1, fr1_0⟩ := pr1
  have A := A.tr pA_r1 (by decide)
  refine lv_istore_n (lv' := [(2, .int r1), (0, .ref (zB Z + 123)), (1, .int id)]) hx hb dX10_lengthOf_5 rfl hl (by decide) rfl (fun ls hl => ?_)
  refine lv_iload_n hx hb dX10_lengthOf_6 rfl (lv_at hl 0 rfl) ?_
  refine pk_i (pr_S M V (m_X10_isSlot l (Z := Z) (h := _) r1) km_X10_isSlot lkM_X10_39 rfl hl.1 rfl (Nat.le_of_ble_eq_true rfl) ⟨Nat.le_of_ble_eq_true rfl, Nat.le_of_ble_eq_true rfl⟩ ⟨Nat.le_of_ble_eq_true rfl, Nat.le_of_ble_eq_true rfl⟩ dX10_lengthOf_7) V (fun r2 Zr2 hr2 H locs pr2 _ _ V => ?_)
  obtain ⟨rfl, rfl, fr2_0⟩ := pr2
  refine lv_if_eq (tgt := 22) hx hb dX10_lengthOf_10 (by decide) (fun c_10 => ?_) (fun c_10 => ?_)
  · skip
    have k_0 : (0 : Int32).toInt = 0 := rfl
    have c_10 := pi_eq.mp c_10
    refine lv_iconst (v := 0) hx hb dX10_lengthOf_22 (by decide) ?_
    exact J_23 r1 (0 : Int32) _ _ _ _ V I (A.wk (by decide)) (lv_sub hl [1, 2, 0] rfl) (by omega) (by omega) 
  · skip
    have k_0 : (0 : Int32).toInt = 0 := rfl
    have c_10 := pi_ne c_10
    refine lv_aload_n hx hb dX10_lengthOf_13 rfl (lv_at hl 1 rfl) ?_
    refine pg_r M V 10 2 (c_is_123 S) pC10 fk10_2 (c_r_123_2 S) lkF_X10_18 dX10_lengthOf_14 ?_
    refine lv_iload_n hx hb dX10_lengthOf_17 rfl (lv_at hl 0 rfl) ?_
    refine pa_i M V (c_is_126 S) (by rw [c_n_126 S]; exact pi_in (by omega)) dX10_lengthOf_18 ?_
    refine lv_topi (fun v3 ev3 => ?_)
    have tv3 : 0 ≤ v3.toInt ∧ v3.toInt ≤ 12 := by rw [ev3]; exact I.get (c_is_126 S) _
    refine lv_goto (tgt := 23) hx hb dX10_lengthOf_19 (by decide) ?_
    exact J_23 r1 v3 _ _ _ _ V I (A.wk (by decide)) (lv_sub hl [1, 2, 0] rfl) (by omega) (by omega) 
theorem dX10_setNumber_0 : decode cX10_setNumber 0 = .ok (.iload_n 2, 1) := by decide +kernel
theorem dX10_setNumber_1 : decode cX10_setNumber 1 = .ok (.ifCond .ne 11, 3) := by decide +kernel
theorem dX10_setNumber_4 : decode cX10_setNumber 4 = .ok (.aload_n 0, 1) := by decide +kernel
theorem dX10_setNumber_5 : decode cX10_setNumber 5 = .ok (.iload_n 1, 1) := by decide +kernel
theorem dX10_setNumber_6 : decode cX10_setNumber 6 = .ok (.invokevirtual 31, 3) := by decide +kernel
theorem dX10_setNumber_9 : decode cX10_setNumber 9 = .ok (.goto 8, 3) := by decide +kernel
theorem dX10_setNumber_12 : decode cX10_setNumber 12 = .ok (.aload_n 0, 1) := by decide +kernel
theorem dX10_setNumber_13 : decode cX10_setNumber 13 = .ok (.iload_n 1, 1) := by decide +kernel
theorem dX10_setNumber_14 : decode cX10_setNumber 14 = .ok (.invokevirtual 43, 3) := by decide +kernel
theorem dX10_setNumber_17 : decode cX10_setNumber 17 = .ok (.istore_n 3, 1) := by decide +kernel
theorem dX10_setNumber_18 : decode cX10_setNumber 18 = .ok (.iload_n 3, 1) := by decide +kernel
theorem dX10_setNumber_19 : decode cX10_setNumber 19 = .ok (.invokestatic 39, 3) := by decide +kernel
theorem dX10_setNumber_22 : decode cX10_setNumber 22 = .ok (.ifCond .eq 10, 3) := by decide +kernel
theorem dX10_setNumber_25 : decode cX10_setNumber 25 = .ok (.aload_n 0, 1) := by decide +kernel
theorem dX10_setNumber_26 : decode cX10_setNumber 26 = .ok (.getfield 15, 3) := by decide +kernel
theorem dX10_setNumber_29 : decode cX10_setNumber 29 = .ok (.iload_n 3, 1) := by decide +kernel
theorem dX10_setNumber_30 : decode cX10_setNumber 30 = .ok (.iload_n 2, 1) := by decide +kernel
theorem dX10_setNumber_31 : decode cX10_setNumber 31 = .ok (.iastore, 1) := by decide +kernel
theorem dX10_setNumber_32 : decode cX10_setNumber 32 = .ok (.return_, 1) := by decide +kernel
set_option maxHeartbeats 4000000 in
set_option maxRecDepth 100000 in
theorem m_X10_setNumber (l : Launch) {Z : pZ} (S : pSh Z) {h : pH} (I : Iv Z h) (id : Int32) (number : Int32)  : pMet l yX10_setNumber cX10_setNumber 4 none 2 0 0 44 Z h [.ref (zB Z + 123), .int id, .int number] (pQv Z (fun Z1 h1 => Z = Z1 ∧ Iv Z h1 ∧ agrD [(123, 5), (124, 1000), (125, 1000)] h h1)) := by
  refine pOfW (lv := [(0, .ref (zB Z + 123)), (1, .int id), (2, .int number)]) (by decide) (Nat.le_of_ble_eq_true rfl) rfl ?_
  intro p e s m below meth c ls M hr hlk hnm V hl
  have hx := M.1.1
  have hb := M.1.2.1
  have A : agrD [] h h := agrD.rf
  have J_32 : ∀ (x32_3 : Int32) (hJ : pH) (H : Heap) (locs : List Loc) (ls : Array Slot), pV Z hJ s.heap H locs → Iv Z hJ → agrD [(123, 5), (124, 1000), (125, 1000)] h hJ → lv_has ls 4 [(0, .ref (zB Z + 123)), (1, .int id), (2, .int number), (3, .int x32_3)] → (-1 ≤ x32_3.toInt ∧ x32_3.toInt ≤ 39) → W p l e (pRm 2 0 0 44) s m ([.ref (zB Z + 123), .int id, .int number] : List Value).toArray below meth c H locs 0 0 (MQ below (pQv Z (fun Z1 h1 => Z = Z1 ∧ Iv Z h1 ∧ agrD [(123, 5), (124, 1000), (125, 1000)] h h1)) ([.ref (zB Z + 123), .int id, .int number] : List Value).toArray s 0 0 (pA (zB Z))) (F0 m 32 ls []) := by
    intro x32_3 hJ H locs ls V I A hl g_32_3
    exact pe_v M V rfl rfl hr hlk ⟨rfl, I, A.wk (by decide)⟩ ⟨Nat.le_refl _, Nat.le_refl _⟩ dX10_setNumber_32
  have J_17 : ∀ (y17_0 : Int32) (hJ : pH) (H : Heap) (locs : List Loc) (ls : Array Slot), pV Z hJ s.heap H locs → Iv Z hJ → agrD [(123, 5), (124, 1000)] h hJ → lv_has ls 4 [(0, .ref (zB Z + 123)), (1, .int id), (2, .int number)] → (-1 ≤ y17_0.toInt ∧ y17_0.toInt ≤ 39) → W p l e (pRm 2 0 0 44) s m ([.ref (zB Z + 123), .int id, .int number] : List Value).toArray below meth c H locs 0 0 (MQ below (pQv Z (fun Z1 h1 => Z = Z1 ∧ Iv Z h1 ∧ agrD [(123, 5), (124, 1000), (125, 1000)] h h1)) ([.ref (zB Z + 123), .int id, .int number] : List Value).toArray s 0 0 (pA (zB Z))) (F0 m 17 ls [.int y17_0]) := by
    intro y17_0 hJ H locs ls V I A hl gs_17_0
    refine lv_istore_n (lv' := [(3, .int y17_0), (0, .ref (zB Z + 123)), (1, .int id), (2, .int number)]) hx hb dX10_setNumber_17 rfl hl (by decide) rfl (fun ls hl => ?_)
    refine lv_iload_n hx hb dX10_setNumber_18 rfl (lv_at hl 0 rfl) ?_
    refine pk_i (pr_S M V (m_X10_isSlot l (Z := Z) (h := _) (y17_0)) km_X10_isSlot lkM_X10_39 rfl hl.1 rfl (Nat.le_of_ble_eq_true rfl) ⟨Nat.le_of_ble_eq_true rfl, Nat.le_of_ble_eq_true rfl⟩ ⟨Nat.le_of_ble_eq_true rfl, Nat.le_of_ble_eq_true rfl⟩ dX10_setNumber_19) V (fun r1 Zr1 hr1 H locs pr1 _ _ V => ?_)
    obtain ⟨rfl, rfl, fr1_0⟩ := pr1
    refine lv_if_eq (tgt := 32) hx hb dX10_setNumber_22 (by decide) (fun c_22 => ?_) (fun c_22 => ?_)
    · skip
      have k_0 : (0 : Int32).toInt = 0 := rfl
      have c_22 := pi_eq.mp c_22
      exact J_32 y17_0 _ _ _ _ V I (A.wk (by decide)) (lv_sub hl [1, 2, 3, 0] rfl) (by omega) 
    · skip
      have k_0 : (0 : Int32).toInt = 0 := rfl
      have c_22 := pi_ne c_22
      refine lv_aload_n hx hb dX10_setNumber_25 rfl (lv_at hl 1 rfl) ?_
      refine pg_r M V 10 1 (c_is_123 S) pC10 fk10_1 (c_r_123_1 S) lkF_X10_15 dX10_setNumber_26 ?_
      refine lv_iload_n hx hb dX10_setNumber_29 rfl (lv_at hl 0 rfl) ?_
      refine lv_iload_n hx hb dX10_setNumber_30 rfl (lv_at hl 3 rfl) ?_
      refine ps_i M V (c_is_125 S) (by rw [c_n_125 S]; exact pi_in (by omega)) dX10_setNumber_31 (fun H locs V => ?_)
      have A := A.wk (l3 := [(123, 5), (124, 1000), (125, 1000)]) (by decide)
      have A := A.upA (o := 125) (k := y17_0.toNatClampNeg) (v := number) (by decide)
      have I := I.up (k := y17_0.toNatClampNeg) (v := number) (c_is_125 S) (pi_full _)
      exact J_32 y17_0 _ _ _ _ V I (A.wk (by decide)) (lv_sub hl [1, 2, 3, 0] rfl) (by omega) 
  refine lv_iload_n hx hb dX10_setNumber_0 rfl (lv_at hl 2 rfl) ?_
  refine lv_if_ne (tgt := 12) hx hb dX10_setNumber_1 (by decide) (fun c_1 => ?_) (fun c_1 => ?_)
  · skip
    have k_0 : (0 : Int32).toInt = 0 := rfl
    have c_1 := pi_ne c_1
    refine lv_aload_n hx hb dX10_setNumber_12 rfl (lv_at hl 0 rfl) ?_
    refine lv_iload_n hx hb dX10_setNumber_13 rfl (lv_at hl 1 rfl) ?_
    refine pk_i (pr_V M V (m_X10_claim l S I id ) km_X10_claim (c_is_123 S) pC10 lkM_X10_43 rfl hl.1 rfl (Nat.le_of_ble_eq_true rfl) ⟨Nat.le_of_ble_eq_true rfl, Nat.le_of_ble_eq_true rfl⟩ ⟨Nat.le_of_ble_eq_true rfl, Nat.le_of_ble_eq_true rfl⟩ dX10_setNumber_14) V (fun r2 Zr2 hr2 H locs pr2 _ _ V => ?_)
    obtain ⟨rfl, I, pA_r2, fr2_0⟩ := pr2
    have A := A.wk (l3 := [(123, 5), (124, 1000)]) (by decide)
    have A := A.tr pA_r2 (by decide)
    exact J_17 r2 _ _ _ _ V I (A.wk (by decide)) (lv_sub hl [0, 1, 2] rfl) (by omega) 
  · skip
    have k_0 : (0 : Int32).toInt = 0 := rfl
    have c_1 := pi_eq.mp c_1
    refine lv_aload_n hx hb dX10_setNumber_4 rfl (lv_at hl 0 rfl) ?_
    refine lv_iload_n hx hb dX10_setNumber_5 rfl (lv_at hl 1 rfl) ?_
    refine pk_i (pr_V M V (m_X10_find l S I id ) km_X10_find (c_is_123 S) pC10 lkM_X10_31 rfl hl.1 rfl (Nat.le_of_ble_eq_true rfl) ⟨Nat.le_of_ble_eq_true rfl, Nat.le_of_ble_eq_true rfl⟩ ⟨Nat.le_of_ble_eq_true rfl, Nat.le_of_ble_eq_true rfl⟩ dX10_setNumber_6) V (fun r3 Zr3 hr3 H locs pr3 _ _ V => ?_)
    obtain ⟨rfl, I, pA_r3, fr3_0⟩ := pr3
    have A := A.tr pA_r3 (by decide)
    refine lv_goto (tgt := 17) hx hb dX10_setNumber_9 (by decide) ?_
    exact J_17 r3 _ _ _ _ V I (A.wk (by decide)) (lv_sub hl [0, 1, 2] rfl) (by omega) 
theorem dX10_toggle_0 : decode cX10_toggle 0 = .ok (.aload_n 0, 1) := by decide +kernel
theorem dX10_toggle_1 : decode cX10_toggle 1 = .ok (.iload_n 1, 1) := by decide +kernel
theorem dX10_toggle_2 : decode cX10_toggle 2 = .ok (.aload_n 0, 1) := by decide +kernel
theorem dX10_toggle_3 : decode cX10_toggle 3 = .ok (.iload_n 1, 1) := by decide +kernel
theorem dX10_toggle_4 : decode cX10_toggle 4 = .ok (.invokevirtual 46, 3) := by decide +kernel
theorem dX10_toggle_7 : decode cX10_toggle 7 = .ok (.ifCond .ne 7, 3) := by decide +kernel
theorem dX10_toggle_10 : decode cX10_toggle 10 = .ok (.iconst 1, 1) := by decide +kernel
theorem dX10_toggle_11 : decode cX10_toggle 11 = .ok (.goto 4, 3) := by decide +kernel
theorem dX10_toggle_14 : decode cX10_toggle 14 = .ok (.iconst 0, 1) := by decide +kernel
theorem dX10_toggle_15 : decode cX10_toggle 15 = .ok (.invokevirtual 49, 3) := by decide +kernel
theorem dX10_toggle_18 : decode cX10_toggle 18 = .ok (.return_, 1) := by decide +kernel
set_option maxHeartbeats 4000000 in
set_option maxRecDepth 100000 in
theorem m_X10_toggle (l : Launch) {Z : pZ} (S : pSh Z) {h : pH} (I : Iv Z h) (id : Int32)  : pMet l yX10_toggle cX10_toggle 2 none 3 0 0 67 Z h [.ref (zB Z + 123), .int id] (pQv Z (fun Z1 h1 => Z = Z1 ∧ Iv Z h1 ∧ agrD [(123, 5), (124, 1000), (125, 1000)] h h1)) := by
  refine pOfW (lv := [(0, .ref (zB Z + 123)), (1, .int id)]) (by decide) (Nat.le_of_ble_eq_true rfl) rfl ?_
  intro p e s m below meth c ls M hr hlk hnm V hl
  have hx := M.1.1
  have hb := M.1.2.1
  have A : agrD [] h h := agrD.rf
  have J_15 : ∀ (y15_0 : Int32) (y15_1 : Int32) (hJ : pH) (H : Heap) (locs : List Loc) (ls : Array Slot), pV Z hJ s.heap H locs → Iv Z hJ → agrD [] h hJ → lv_has ls 2 [(0, .ref (zB Z + 123)), (1, .int id)] → (0 ≤ y15_0.toInt ∧ y15_0.toInt ≤ 1) → W p l e (pRm 3 0 0 67) s m ([.ref (zB Z + 123), .int id] : List Value).toArray below meth c H locs 0 0 (MQ below (pQv Z (fun Z1 h1 => Z = Z1 ∧ Iv Z h1 ∧ agrD [(123, 5), (124, 1000), (125, 1000)] h h1)) ([.ref (zB Z + 123), .int id] : List Value).toArray s 0 0 (pA (zB Z))) (F0 m 15 ls [.int y15_0, .int y15_1, .ref (zB Z + 123)]) := by
    intro y15_0 y15_1 hJ H locs ls V I A hl gs_15_0
    refine pk_v (pr_V M V (m_X10_setNumber l S I y15_1 y15_0 ) km_X10_setNumber (c_is_123 S) pC10 lkM_X10_49 rfl hl.1 rfl (Nat.le_of_ble_eq_true rfl) ⟨Nat.le_of_ble_eq_true rfl, Nat.le_of_ble_eq_true rfl⟩ ⟨Nat.le_of_ble_eq_true rfl, Nat.le_of_ble_eq_true rfl⟩ dX10_toggle_15) V (fun Zr1 hr1 H locs pr1 _ _ V => ?_)
    obtain ⟨rfl, I, pA_r1⟩ := pr1
    have A := A.wk (l3 := [(123, 5), (124, 1000), (125, 1000)]) (by decide)
    have A := A.tr pA_r1 (by decide)
    exact pe_v M V rfl rfl hr hlk ⟨rfl, I, A.wk (by decide)⟩ ⟨Nat.le_refl _, Nat.le_refl _⟩ dX10_toggle_18
  refine lv_aload_n hx hb dX10_toggle_0 rfl (lv_at hl 0 rfl) ?_
  refine lv_iload_n hx hb dX10_toggle_1 rfl (lv_at hl 1 rfl) ?_
  refine lv_aload_n hx hb dX10_toggle_2 rfl (lv_at hl 0 rfl) ?_
  refine lv_iload_n hx hb dX10_toggle_3 rfl (lv_at hl 1 rfl) ?_
  refine pk_i (pr_V M V (m_X10_numberOf l S I id ) km_X10_numberOf (c_is_123 S) pC10 lkM_X10_46 rfl hl.1 rfl (Nat.le_of_ble_eq_true rfl) ⟨Nat.le_of_ble_eq_true rfl, Nat.le_of_ble_eq_true rfl⟩ ⟨Nat.le_of_ble_eq_true rfl, Nat.le_of_ble_eq_true rfl⟩ dX10_toggle_4) V (fun r2 Zr2 hr2 H locs pr2 _ _ V => ?_)
  obtain ⟨rfl, I, pA_r2⟩ := pr2
  have A := A.tr pA_r2 (by decide)
  refine lv_if_ne (tgt := 14) hx hb dX10_toggle_7 (by decide) (fun c_7 => ?_) (fun c_7 => ?_)
  · skip
    have k_0 : (0 : Int32).toInt = 0 := rfl
    have c_7 := pi_ne c_7
    refine lv_iconst (v := 0) hx hb dX10_toggle_14 (by decide) ?_
    exact J_15 (0 : Int32) id _ _ _ _ V I (A.wk (by decide)) (lv_sub hl [0, 1] rfl) (by omega) 
  · skip
    have k_0 : (0 : Int32).toInt = 0 := rfl
    have c_7 := pi_eq.mp c_7
    refine lv_iconst (v := 1) hx hb dX10_toggle_10 (by decide) ?_
    refine lv_goto (tgt := 15) hx hb dX10_toggle_11 (by decide) ?_
    have k_1 : (1 : Int32).toInt = 1 := rfl
    exact J_15 (1 : Int32) id _ _ _ _ V I (A.wk (by decide)) (lv_sub hl [0, 1] rfl) (by omega) 
theorem dX6_hasRoom_0 : decode cX6_hasRoom 0 = .ok (.aload_n 0, 1) := by decide +kernel
theorem dX6_hasRoom_1 : decode cX6_hasRoom 1 = .ok (.getfield 36, 3) := by decide +kernel
theorem dX6_hasRoom_4 : decode cX6_hasRoom 4 = .ok (.bipush 8, 2) := by decide +kernel
theorem dX6_hasRoom_6 : decode cX6_hasRoom 6 = .ok (.if_icmp .ge 7, 3) := by decide +kernel
theorem dX6_hasRoom_9 : decode cX6_hasRoom 9 = .ok (.iconst 1, 1) := by decide +kernel
theorem dX6_hasRoom_10 : decode cX6_hasRoom 10 = .ok (.goto 4, 3) := by decide +kernel
theorem dX6_hasRoom_13 : decode cX6_hasRoom 13 = .ok (.iconst 0, 1) := by decide +kernel
theorem dX6_hasRoom_14 : decode cX6_hasRoom 14 = .ok (.ireturn, 1) := by decide +kernel
set_option maxHeartbeats 4000000 in
set_option maxRecDepth 100000 in
theorem m_X6_hasRoom (l : Launch) {Z : pZ} (S : pSh Z) {h : pH} (I : Iv Z h)  : pMet l yX6_hasRoom cX6_hasRoom 1 (some .boolean) 0 0 0 0 Z h [.ref (zB Z + 22)] (pQi Z (fun r Z1 h1 => Z = Z1 ∧ Iv Z h1 ∧ agrD [] h h1 ∧ (r.toInt = 0 ∨ r.toInt = 1))) := by
  refine pOfW (lv := [(0, .ref (zB Z + 22))]) (by decide) (Nat.le_of_ble_eq_true rfl) rfl ?_
  intro p e s m below meth c ls M hr hlk hnm V hl
  have hx := M.1.1
  have hb := M.1.2.1
  have A : agrD [] h h := agrD.rf
  have J_14 : ∀ (y14_0 : Int32) (hJ : pH) (H : Heap) (locs : List Loc) (ls : Array Slot), pV Z hJ s.heap H locs → Iv Z hJ → agrD [] h hJ → lv_has ls 1 [(0, .ref (zB Z + 22))] → (0 ≤ y14_0.toInt ∧ y14_0.toInt ≤ 1) → W p l e (pRm 0 0 0 0) s m ([.ref (zB Z + 22)] : List Value).toArray below meth c H locs 0 0 (MQ below (pQi Z (fun r Z1 h1 => Z = Z1 ∧ Iv Z h1 ∧ agrD [] h h1 ∧ (r.toInt = 0 ∨ r.toInt = 1))) ([.ref (zB Z + 22)] : List Value).toArray s 0 0 (pA (zB Z))) (F0 m 14 ls [.int y14_0]) := by
    intro y14_0 hJ H locs ls V I A hl gs_14_0
    exact pe_i M V rfl rfl hr hlk (pn_z (pi_z (by omega))).1 ⟨rfl, I, A.wk (by decide), by omega⟩ ⟨Nat.le_refl _, Nat.le_refl _⟩ dX6_hasRoom_14
  refine lv_aload_n hx hb dX6_hasRoom_0 rfl (lv_at hl 0 rfl) ?_
  refine pg_i M V 6 5 (c_is_22 S) pC6 fk6_5 lkF_X6_36 dX6_hasRoom_1 ?_
  refine lv_topi (fun v1 ev1 => ?_)
  refine lv_bipush (v := 8) hx hb dX6_hasRoom_4 (by decide) ?_
  refine lv_icmp_ge (tgt := 13) hx hb dX6_hasRoom_6 (by decide) (fun c_6 => ?_) (fun c_6 => ?_)
  · skip
    have k_8 : (8 : Int32).toInt = 8 := rfl
    have c_6 := pi_le.mp c_6
    refine lv_iconst (v := 0) hx hb dX6_hasRoom_13 (by decide) ?_
    have k_0 : (0 : Int32).toInt = 0 := rfl
    exact J_14 (0 : Int32) _ _ _ _ V I (A.wk (by decide)) (lv_sub hl [0] rfl) (by omega) 
  · skip
    have k_8 : (8 : Int32).toInt = 8 := rfl
    have c_6 := pi_le' c_6
    refine lv_iconst (v := 1) hx hb dX6_hasRoom_9 (by decide) ?_
    refine lv_goto (tgt := 14) hx hb dX6_hasRoom_10 (by decide) ?_
    have k_1 : (1 : Int32).toInt = 1 := rfl
    exact J_14 (1 : Int32) _ _ _ _ V I (A.wk (by decide)) (lv_sub hl [0] rfl) (by omega) 
theorem dX6_scrollOf_0 : decode cX6_scrollOf 0 = .ok (.iload_n 1, 1) := by decide +kernel
theorem dX6_scrollOf_1 : decode cX6_scrollOf 1 = .ok (.iconst 0, 1) := by decide +kernel
theorem dX6_scrollOf_2 : decode cX6_scrollOf 2 = .ok (.bipush 7, 2) := by decide +kernel
theorem dX6_scrollOf_4 : decode cX6_scrollOf 4 = .ok (.invokestatic 65, 3) := by decide +kernel
theorem dX6_scrollOf_7 : decode cX6_scrollOf 7 = .ok (.ifCond .eq 12, 3) := by decide +kernel
theorem dX6_scrollOf_10 : decode cX6_scrollOf 10 = .ok (.aload_n 0, 1) := by decide +kernel
theorem dX6_scrollOf_11 : decode cX6_scrollOf 11 = .ok (.getfield 11, 3) := by decide +kernel
theorem dX6_scrollOf_14 : decode cX6_scrollOf 14 = .ok (.iload_n 1, 1) := by decide +kernel
theorem dX6_scrollOf_15 : decode cX6_scrollOf 15 = .ok (.iaload, 1) := by decide +kernel
theorem dX6_scrollOf_16 : decode cX6_scrollOf 16 = .ok (.goto 4, 3) := by decide +kernel
theorem dX6_scrollOf_19 : decode cX6_scrollOf 19 = .ok (.iconst 0, 1) := by decide +kernel
theorem dX6_scrollOf_20 : decode cX6_scrollOf 20 = .ok (.ireturn, 1) := by decide +kernel
set_option maxHeartbeats 4000000 in
set_option maxRecDepth 100000 in
theorem m_X6_scrollOf (l : Launch) {Z : pZ} (S : pSh Z) {h : pH} (I : Iv Z h) (number : Int32)  : pMet l yX6_scrollOf cX6_scrollOf 2 (some .int) 1 0 0 22 Z h [.ref (zB Z + 22), .int number] (pQi Z (fun r Z1 h1 => Z = Z1 ∧ Iv Z h1 ∧ agrD [] h h1)) := by
  refine pOfW (lv := [(0, .ref (zB Z + 22)), (1, .int number)]) (by decide) (Nat.le_of_ble_eq_true rfl) rfl ?_
  intro p e s m below meth c ls M hr hlk hnm V hl
  have hx := M.1.1
  have hb := M.1.2.1
  have A : agrD [] h h := agrD.rf
  have J_20 : ∀ (y20_0 : Int32) (hJ : pH) (H : Heap) (locs : List Loc) (ls : Array Slot), pV Z hJ s.heap H locs → Iv Z hJ → agrD [] h hJ → lv_has ls 2 [(0, .ref (zB Z + 22)), (1, .int number)] → W p l e (pRm 1 0 0 22) s m ([.ref (zB Z + 22), .int number] : List Value).toArray below meth c H locs 0 0 (MQ below (pQi Z (fun r Z1 h1 => Z = Z1 ∧ Iv Z h1 ∧ agrD [] h h1)) ([.ref (zB Z + 22), .int number] : List Value).toArray s 0 0 (pA (zB Z))) (F0 m 20 ls [.int y20_0]) := by
    intro y20_0 hJ H locs ls V I A hl
    exact pe_i M V rfl rfl hr hlk rfl ⟨rfl, I, A.wk (by decide)⟩ ⟨Nat.le_refl _, Nat.le_refl _⟩ dX6_scrollOf_20
  refine lv_iload_n hx hb dX6_scrollOf_0 rfl (lv_at hl 1 rfl) ?_
  refine lv_iconst (v := 0) hx hb dX6_scrollOf_1 (by decide) ?_
  refine lv_bipush (v := 7) hx hb dX6_scrollOf_2 (by decide) ?_
  have k_0 : (0 : Int32).toInt = 0 := rfl
  have k_7 : (7 : Int32).toInt = 7 := rfl
  refine pk_i (pr_SN M V (m_X11_isWithin l (Z := Z) (h := _) number (0 : Int32) (7 : Int32)) km_X11_isWithin lkN_X6_65 rfl hl.1 rfl (Nat.le_of_ble_eq_true rfl) ⟨Nat.le_of_ble_eq_true rfl, Nat.le_of_ble_eq_true rfl⟩ ⟨Nat.le_of_ble_eq_true rfl, Nat.le_of_ble_eq_true rfl⟩ dX6_scrollOf_4) V (fun r1 Zr1 hr1 H locs pr1 _ _ V => ?_)
  obtain ⟨rfl, rfl, fr1_0⟩ := pr1
  refine lv_if_eq (tgt := 19) hx hb dX6_scrollOf_7 (by decide) (fun c_7 => ?_) (fun c_7 => ?_)
  · skip
    have c_7 := pi_eq.mp c_7
    refine lv_iconst (v := 0) hx hb dX6_scrollOf_19 (by decide) ?_
    exact J_20 (0 : Int32) _ _ _ _ V I (A.wk (by decide)) (lv_sub hl [0, 1] rfl) 
  · skip
    have c_7 := pi_ne c_7
    refine lv_aload_n hx hb dX6_scrollOf_10 rfl (lv_at hl 0 rfl) ?_
    refine pg_r M V 6 0 (c_is_22 S) pC6 fk6_0 (c_r_22_0 S) lkF_X6_11 dX6_scrollOf_11 ?_
    refine lv_iload_n hx hb dX6_scrollOf_14 rfl (lv_at hl 1 rfl) ?_
    refine pa_i M V (c_is_23 S) (by rw [c_n_23 S]; exact pi_in (by omega)) dX6_scrollOf_15 ?_
    refine lv_topi (fun v2 ev2 => ?_)
    refine lv_goto (tgt := 20) hx hb dX6_scrollOf_16 (by decide) ?_
    exact J_20 v2 _ _ _ _ V I (A.wk (by decide)) (lv_sub hl [0, 1] rfl) 
theorem dX6_setHigh_0 : decode cX6_setHigh 0 = .ok (.iload_n 1, 1) := by decide +kernel
theorem dX6_setHigh_1 : decode cX6_setHigh 1 = .ok (.iconst 0, 1) := by decide +kernel
theorem dX6_setHigh_2 : decode cX6_setHigh 2 = .ok (.bipush 7, 2) := by decide +kernel
theorem dX6_setHigh_4 : decode cX6_setHigh 4 = .ok (.invokestatic 65, 3) := by decide +kernel
theorem dX6_setHigh_7 : decode cX6_setHigh 7 = .ok (.ifCond .eq 10, 3) := by decide +kernel
theorem dX6_setHigh_10 : decode cX6_setHigh 10 = .ok (.aload_n 0, 1) := by decide +kernel
theorem dX6_setHigh_11 : decode cX6_setHigh 11 = .ok (.getfield 15, 3) := by decide +kernel
theorem dX6_setHigh_14 : decode cX6_setHigh 14 = .ok (.iload_n 1, 1) := by decide +kernel
theorem dX6_setHigh_15 : decode cX6_setHigh 15 = .ok (.iload_n 2, 1) := by decide +kernel
theorem dX6_setHigh_16 : decode cX6_setHigh 16 = .ok (.iastore, 1) := by decide +kernel
theorem dX6_setHigh_17 : decode cX6_setHigh 17 = .ok (.return_, 1) := by decide +kernel
set_option maxHeartbeats 4000000 in
set_option maxRecDepth 100000 in
theorem m_X6_setHigh (l : Launch) {Z : pZ} (S : pSh Z) {h : pH} (I : Iv Z h) (number : Int32) (high : Int32)  : pMet l yX6_setHigh cX6_setHigh 3 none 1 0 0 22 Z h [.ref (zB Z + 22), .int number, .int high] (pQv Z (fun Z1 h1 => Z = Z1 ∧ Iv Z h1 ∧ agrD [(24, 1000)] h h1)) := by
  refine pOfW (lv := [(0, .ref (zB Z + 22)), (1, .int number), (2, .int high)]) (by decide) (Nat.le_of_ble_eq_true rfl) rfl ?_
  intro p e s m below meth c ls M hr hlk hnm V hl
  have hx := M.1.1
  have hb := M.1.2.1
  have A : agrD [] h h := agrD.rf
  have J_17 : ∀ (hJ : pH) (H : Heap) (locs : List Loc) (ls : Array Slot), pV Z hJ s.heap H locs → Iv Z hJ → agrD [(24, 1000)] h hJ → lv_has ls 3 [(0, .ref (zB Z + 22)), (1, .int number), (2, .int high)] → W p l e (pRm 1 0 0 22) s m ([.ref (zB Z + 22), .int number, .int high] : List Value).toArray below meth c H locs 0 0 (MQ below (pQv Z (fun Z1 h1 => Z = Z1 ∧ Iv Z h1 ∧ agrD [(24, 1000)] h h1)) ([.ref (zB Z + 22), .int number, .int high] : List Value).toArray s 0 0 (pA (zB Z))) (F0 m 17 ls []) := by
    intro hJ H locs ls V I A hl
    exact pe_v M V rfl rfl hr hlk ⟨rfl, I, A.wk (by decide)⟩ ⟨Nat.le_refl _, Nat.le_refl _⟩ dX6_setHigh_17
  refine lv_iload_n hx hb dX6_setHigh_0 rfl (lv_at hl 1 rfl) ?_
  refine lv_iconst (v := 0) hx hb dX6_setHigh_1 (by decide) ?_
  refine lv_bipush (v := 7) hx hb dX6_setHigh_2 (by decide) ?_
  have k_0 : (0 : Int32).toInt = 0 := rfl
  have k_7 : (7 : Int32).toInt = 7 := rfl
  refine pk_i (pr_SN M V (m_X11_isWithin l (Z := Z) (h := _) number (0 : Int32) (7 : Int32)) km_X11_isWithin lkN_X6_65 rfl hl.1 rfl (Nat.le_of_ble_eq_true rfl) ⟨Nat.le_of_ble_eq_true rfl, Nat.le_of_ble_eq_true rfl⟩ ⟨Nat.le_of_ble_eq_true rfl, Nat.le_of_ble_eq_true rfl⟩ dX6_setHigh_4) V (fun r1 Zr1 hr1 H locs pr1 _ _ V => ?_)
  obtain ⟨rfl, rfl, fr1_0⟩ := pr1
  refine lv_if_eq (tgt := 17) hx hb dX6_setHigh_7 (by decide) (fun c_7 => ?_) (fun c_7 => ?_)
  · skip
    have c_7 := pi_eq.mp c_7
    exact J_17 _ _ _ _ V I (A.wk (by decide)) (lv_sub hl [0, 1, 2] rfl) 
  · skip
    have c_7 := pi_ne c_7
    refine lv_aload_n hx hb dX6_setHigh_10 rfl (lv_at hl 0 rfl) ?_
    refine pg_r M V 6 1 (c_is_22 S) pC6 fk6_1 (c_r_22_1 S) lkF_X6_15 dX6_setHigh_11 ?_
    refine lv_iload_n hx hb dX6_setHigh_14 rfl (lv_at hl 1 rfl) ?_
    refine lv_iload_n hx hb dX6_setHigh_15 rfl (lv_at hl 2 rfl) ?_
    refine ps_i M V (c_is_24 S) (by rw [c_n_24 S]; exact pi_in (by omega)) dX6_setHigh_16 (fun H locs V => ?_)
    have A := A.wk (l3 := [(24, 1000)]) (by decide)
    have A := A.upA (o := 24) (k := number.toNatClampNeg) (v := high) (by decide)
    have I := I.up (k := number.toNatClampNeg) (v := high) (c_is_24 S) (pi_full _)
    exact J_17 _ _ _ _ V I (A.wk (by decide)) (lv_sub hl [0, 1, 2] rfl) 
theorem dX6_tell_0 : decode cX6_tell 0 = .ok (.aload_n 0, 1) := by decide +kernel
theorem dX6_tell_1 : decode cX6_tell 1 = .ok (.getfield 36, 3) := by decide +kernel
theorem dX6_tell_4 : decode cX6_tell 4 = .ok (.iconst 0, 1) := by decide +kernel
theorem dX6_tell_5 : decode cX6_tell 5 = .ok (.bipush 7, 2) := by decide +kernel
theorem dX6_tell_7 : decode cX6_tell 7 = .ok (.invokestatic 55, 3) := by decide +kernel
theorem dX6_tell_10 : decode cX6_tell 10 = .ok (.istore 4, 2) := by decide +kernel
theorem dX6_tell_12 : decode cX6_tell 12 = .ok (.aload_n 0, 1) := by decide +kernel
theorem dX6_tell_13 : decode cX6_tell 13 = .ok (.getfield 11, 3) := by decide +kernel
theorem dX6_tell_16 : decode cX6_tell 16 = .ok (.iload 4, 2) := by decide +kernel
theorem dX6_tell_18 : decode cX6_tell 18 = .ok (.iaload, 1) := by decide +kernel
theorem dX6_tell_19 : decode cX6_tell 19 = .ok (.iload 4, 2) := by decide +kernel
theorem dX6_tell_21 : decode cX6_tell 21 = .ok (.aload_n 0, 1) := by decide +kernel
theorem dX6_tell_22 : decode cX6_tell 22 = .ok (.getfield 32, 3) := by decide +kernel
theorem dX6_tell_25 : decode cX6_tell 25 = .ok (.if_icmp .ne 10, 3) := by decide +kernel
theorem dX6_tell_28 : decode cX6_tell 28 = .ok (.bipush 10, 2) := by decide +kernel
theorem dX6_tell_30 : decode cX6_tell 30 = .ok (.iload_n 2, 1) := by decide +kernel
theorem dX6_tell_31 : decode cX6_tell 31 = .ok (.imul, 1) := by decide +kernel
theorem dX6_tell_32 : decode cX6_tell 32 = .ok (.goto 4, 3) := by decide +kernel
theorem dX6_tell_35 : decode cX6_tell 35 = .ok (.iconst 0, 1) := by decide +kernel
theorem dX6_tell_36 : decode cX6_tell 36 = .ok (.iadd, 1) := by decide +kernel
theorem dX6_tell_37 : decode cX6_tell 37 = .ok (.istore 5, 2) := by decide +kernel
theorem dX6_tell_39 : decode cX6_tell 39 = .ok (.aload_n 0, 1) := by decide +kernel
theorem dX6_tell_40 : decode cX6_tell 40 = .ok (.getfield 11, 3) := by decide +kernel
theorem dX6_tell_43 : decode cX6_tell 43 = .ok (.iload 4, 2) := by decide +kernel
theorem dX6_tell_45 : decode cX6_tell 45 = .ok (.iload 5, 2) := by decide +kernel
theorem dX6_tell_47 : decode cX6_tell 47 = .ok (.iconst 0, 1) := by decide +kernel
theorem dX6_tell_48 : decode cX6_tell 48 = .ok (.iconst 0, 1) := by decide +kernel
theorem dX6_tell_49 : decode cX6_tell 49 = .ok (.aload_n 0, 1) := by decide +kernel
theorem dX6_tell_50 : decode cX6_tell 50 = .ok (.getfield 15, 3) := by decide +kernel
theorem dX6_tell_53 : decode cX6_tell 53 = .ok (.iload 4, 2) := by decide +kernel
theorem dX6_tell_55 : decode cX6_tell 55 = .ok (.iaload, 1) := by decide +kernel
theorem dX6_tell_56 : decode cX6_tell 56 = .ok (.iload_n 3, 1) := by decide +kernel
theorem dX6_tell_57 : decode cX6_tell 57 = .ok (.isub, 1) := by decide +kernel
theorem dX6_tell_58 : decode cX6_tell 58 = .ok (.invokestatic 59, 3) := by decide +kernel
theorem dX6_tell_61 : decode cX6_tell 61 = .ok (.invokestatic 55, 3) := by decide +kernel
theorem dX6_tell_64 : decode cX6_tell 64 = .ok (.iastore, 1) := by decide +kernel
theorem dX6_tell_65 : decode cX6_tell 65 = .ok (.aload_n 0, 1) := by decide +kernel
theorem dX6_tell_66 : decode cX6_tell 66 = .ok (.getfield 18, 3) := by decide +kernel
theorem dX6_tell_69 : decode cX6_tell 69 = .ok (.iload 4, 2) := by decide +kernel
theorem dX6_tell_71 : decode cX6_tell 71 = .ok (.iload_n 1, 1) := by decide +kernel
theorem dX6_tell_72 : decode cX6_tell 72 = .ok (.iastore, 1) := by decide +kernel
theorem dX6_tell_73 : decode cX6_tell 73 = .ok (.aload_n 0, 1) := by decide +kernel
theorem dX6_tell_74 : decode cX6_tell 74 = .ok (.dup, 1) := by decide +kernel
theorem dX6_tell_75 : decode cX6_tell 75 = .ok (.getfield 36, 3) := by decide +kernel
theorem dX6_tell_78 : decode cX6_tell 78 = .ok (.iconst 1, 1) := by decide +kernel
theorem dX6_tell_79 : decode cX6_tell 79 = .ok (.iadd, 1) := by decide +kernel
theorem dX6_tell_80 : decode cX6_tell 80 = .ok (.putfield 36, 3) := by decide +kernel
theorem dX6_tell_83 : decode cX6_tell 83 = .ok (.iload 4, 2) := by decide +kernel
theorem dX6_tell_85 : decode cX6_tell 85 = .ok (.ireturn, 1) := by decide +kernel
set_option maxHeartbeats 4000000 in
set_option maxRecDepth 100000 in
theorem m_X6_tell (l : Launch) {Z : pZ} (S : pSh Z) {h : pH} (I : Iv Z h) (window : Int32) (lines : Int32) (view : Int32)  : pMet l yX6_tell cX6_tell 6 (some .int) 2 0 0 43 Z h [.ref (zB Z + 22), .int window, .int lines, .int view] (pQi Z (fun r Z1 h1 => Z = Z1 ∧ Iv Z h1 ∧ agrD [(22, 5), (23, 1000), (25, 1000)] h h1 ∧ (0 ≤ r.toInt ∧ r.toInt ≤ 7))) := by
  refine pOfW (lv := [(0, .ref (zB Z + 22)), (1, .int window), (2, .int lines), (3, .int view)]) (by decide) (Nat.le_of_ble_eq_true rfl) rfl ?_
  intro p e s m below meth c ls M hr hlk hnm V hl
  have hx := M.1.1
  have hb := M.1.2.1
  have A : agrD [] h h := agrD.rf
  have J_36 : ∀ (x36_4 : Int32) (y36_0 : Int32) (y36_1 : Int32) (hJ : pH) (H : Heap) (locs : List Loc) (ls : Array Slot), pV Z hJ s.heap H locs → Iv Z hJ → agrD [] h hJ → lv_has ls 6 [(0, .ref (zB Z + 22)), (1, .int window), (2, .int lines), (3, .int view), (4, .int x36_4)] → (0 ≤ x36_4.toInt ∧ x36_4.toInt ≤ 7) → W p l e (pRm 2 0 0 43) s m ([.ref (zB Z + 22), .int window, .int lines, .int view] : List Value).toArray below meth c H locs 0 0 (MQ below (pQi Z (fun r Z1 h1 => Z = Z1 ∧ Iv Z h1 ∧ agrD [(22, 5), (23, 1000), (25, 1000)] h h1 ∧ (0 ≤ r.toInt ∧ r.toInt ≤ 7))) ([.ref (zB Z + 22), .int window, .int lines, .int view] : List Value).toArray s 0 0 (pA (zB Z))) (F0 m 36 ls [.int y36_0, .int y36_1]) := by
    intro x36_4 y36_0 y36_1 hJ H locs ls V I A hl e36
    refine lv_iadd hx hb dX6_tell_36 ?_
    refine lv_topi (fun v1 ev1 => ?_)
    refine lv_istore (lv' := [(5, .int v1), (0, .ref (zB Z + 22)), (1, .int window), (2, .int lines), (3, .int view), (4, .int x36_4)]) hx hb dX6_tell_37 hl (by decide) rfl (fun ls hl => ?_)
    refine lv_aload_n hx hb dX6_tell_39 rfl (lv_at hl 1 rfl) ?_
    refine pg_r M V 6 0 (c_is_22 S) pC6 fk6_0 (c_r_22_0 S) lkF_X6_11 dX6_tell_40 ?_
    refine lv_iload hx hb dX6_tell_43 (lv_at hl 5 rfl) ?_
    refine lv_iload hx hb dX6_tell_45 (lv_at hl 0 rfl) ?_
    refine lv_iconst (v := 0) hx hb dX6_tell_47 (by decide) ?_
    refine lv_iconst (v := 0) hx hb dX6_tell_48 (by decide) ?_
    refine lv_aload_n hx hb dX6_tell_49 rfl (lv_at hl 1 rfl) ?_
    refine pg_r M V 6 1 (c_is_22 S) pC6 fk6_1 (c_r_22_1 S) lkF_X6_15 dX6_tell_50 ?_
    refine lv_iload hx hb dX6_tell_53 (lv_at hl 5 rfl) ?_
    refine pa_i M V (c_is_24 S) (by rw [c_n_24 S]; exact pi_in (by omega)) dX6_tell_55 ?_
    refine lv_topi (fun v2 ev2 => ?_)
    refine lv_iload_n hx hb dX6_tell_56 rfl (lv_at hl 4 rfl) ?_
    refine lv_isub hx hb dX6_tell_57 ?_
    refine lv_topi (fun v3 ev3 => ?_)
    have k_0 : (0 : Int32).toInt = 0 := rfl
    refine pm_max M hl.1 lkJ_X6_59 ⟨Nat.le_of_ble_eq_true rfl, Nat.le_of_ble_eq_true rfl⟩ ⟨Nat.zero_le _, Nat.zero_le _⟩ dX6_tell_58 (fun r4 fr4 => ?_)
    refine pk_i (pr_SN M V (m_X11_bring l (Z := Z) (h := _) v1 (0 : Int32) r4) km_X11_bring lkN_X6_55 rfl hl.1 rfl (Nat.le_of_ble_eq_true rfl) ⟨Nat.le_of_ble_eq_true rfl, Nat.le_of_ble_eq_true rfl⟩ ⟨Nat.le_of_ble_eq_true rfl, Nat.le_of_ble_eq_true rfl⟩ dX6_tell_61) V (fun r5 Zr5 hr5 H locs pr5 _ _ V => ?_)
    obtain ⟨rfl, rfl, fr5_0⟩ := pr5
    refine ps_i M V (c_is_23 S) (by rw [c_n_23 S]; exact pi_in (by omega)) dX6_tell_64 (fun H locs V => ?_)
    have A := A.wk (l3 := [(23, 1000)]) (by decide)
    have A := A.upA (o := 23) (k := x36_4.toNatClampNeg) (v := r5) (by decide)
    have I := I.up (k := x36_4.toNatClampNeg) (v := r5) (c_is_23 S) (pi_full _)
    refine lv_aload_n hx hb dX6_tell_65 rfl (lv_at hl 1 rfl) ?_
    refine pg_r M V 6 2 (c_is_22 S) pC6 fk6_2 (c_r_22_2 S) lkF_X6_18 dX6_tell_66 ?_
    refine lv_iload hx hb dX6_tell_69 (lv_at hl 5 rfl) ?_
    refine lv_iload_n hx hb dX6_tell_71 rfl (lv_at hl 2 rfl) ?_
    refine ps_i M V (c_is_25 S) (by rw [c_n_25 S]; exact pi_in (by omega)) dX6_tell_72 (fun H locs V => ?_)
    have A := A.wk (l3 := [(23, 1000), (25, 1000)]) (by decide)
    have A := A.upA (o := 25) (k := x36_4.toNatClampNeg) (v := window) (by decide)
    have I := I.up (k := x36_4.toNatClampNeg) (v := window) (c_is_25 S) (pi_full _)
    refine lv_aload_n hx hb dX6_tell_73 rfl (lv_at hl 1 rfl) ?_
    refine lv_dup hx hb dX6_tell_74 rfl ?_
    refine pg_i M V 6 5 (c_is_22 S) pC6 fk6_5 lkF_X6_36 dX6_tell_75 ?_
    refine lv_topi (fun v6 ev6 => ?_)
    refine lv_iconst (v := 1) hx hb dX6_tell_78 (by decide) ?_
    refine lv_iadd hx hb dX6_tell_79 ?_
    refine lv_topi (fun v7 ev7 => ?_)
    refine pp_i M V 6 5 (c_is_22 S) pC6 fk6_5 rfl lkF_X6_36 ⟨rfl, rfl⟩ dX6_tell_80 (fun H locs V => ?_)
    have A := A.wk (l3 := [(23, 1000), (25, 1000), (22, 5)]) (by decide)
    have A := A.up (o := 22) (k := 5) (v := v7) (by decide)
    have I := I.up (k := 5) (v := v7) (c_is_22 S) (pi_full _)
    refine lv_iload hx hb dX6_tell_83 (lv_at hl 5 rfl) ?_
    exact pe_i M V rfl rfl hr hlk rfl ⟨rfl, I, A.wk (by decide), by omega⟩ ⟨Nat.le_refl _, Nat.le_refl _⟩ dX6_tell_85
  refine lv_aload_n hx hb dX6_tell_0 rfl (lv_at hl 0 rfl) ?_
  refine pg_i M V 6 5 (c_is_22 S) pC6 fk6_5 lkF_X6_36 dX6_tell_1 ?_
  refine lv_topi (fun v8 ev8 => ?_)
  refine lv_iconst (v := 0) hx hb dX6_tell_4 (by decide) ?_
  refine lv_bipush (v := 7) hx hb dX6_tell_5 (by decide) ?_
  have k_0 : (0 : Int32).toInt = 0 := rfl
  have k_7 : (7 : Int32).toInt = 7 := rfl
  refine pk_i (pr_SN M V (m_X11_bring l (Z := Z) (h := _) v8 (0 : Int32) (7 : Int32)) km_X11_bring lkN_X6_55 rfl hl.1 rfl (Nat.le_of_ble_eq_true rfl) ⟨Nat.le_of_ble_eq_true rfl, Nat.le_of_ble_eq_true rfl⟩ ⟨Nat.le_of_ble_eq_true rfl, Nat.le_of_ble_eq_true rfl⟩ dX6_tell_7) V (fun r9 Zr9 hr9 H locs pr9 _ _ V => ?_)
  obtain ⟨rfl, rfl, fr9_0⟩ := pr9
  refine lv_istore (lv' := [(4, .int r9), (0, .ref (zB Z + 22)), (1, .int window), (2, .int lines), (3, .int view)]) hx hb dX6_tell_10 hl (by decide) rfl (fun ls hl => ?_)
  refine lv_aload_n hx hb dX6_tell_12 rfl (lv_at hl 1 rfl) ?_
  refine pg_r M V 6 0 (c_is_22 S) pC6 fk6_0 (c_r_22_0 S) lkF_X6_11 dX6_tell_13 ?_
  refine lv_iload hx hb dX6_tell_16 (lv_at hl 0 rfl) ?_
  refine pa_i M V (c_is_23 S) (by rw [c_n_23 S]; exact pi_in (by omega)) dX6_tell_18 ?_
  refine lv_topi (fun v10 ev10 => ?_)
  refine lv_iload hx hb dX6_tell_19 (lv_at hl 0 rfl) ?_
  refine lv_aload_n hx hb dX6_tell_21 rfl (lv_at hl 1 rfl) ?_
  refine pg_i M V 6 6 (c_is_22 S) pC6 fk6_6 lkF_X6_32 dX6_tell_22 ?_
  refine lv_topi (fun v11 ev11 => ?_)
  refine lv_icmp_ne (tgt := 35) hx hb dX6_tell_25 (by decide) (fun c_25 => ?_) (fun c_25 => ?_)
  · skip
    have c_25 := pi_ne c_25
    refine lv_iconst (v := 0) hx hb dX6_tell_35 (by decide) ?_
    exact J_36 r9 (0 : Int32) v10 _ _ _ _ V I (A.wk (by decide)) (lv_sub hl [1, 2, 3, 4, 0] rfl) (by omega) 
  · skip
    have c_25 := pi_eq.mp c_25
    refine lv_bipush (v := 10) hx hb dX6_tell_28 (by decide) ?_
    refine lv_iload_n hx hb dX6_tell_30 rfl (lv_at hl 3 rfl) ?_
    refine lv_imul hx hb dX6_tell_31 ?_
    refine lv_topi (fun v12 ev12 => ?_)
    refine lv_goto (tgt := 36) hx hb dX6_tell_32 (by decide) ?_
    exact J_36 r9 v12 v10 _ _ _ _ V I (A.wk (by decide)) (lv_sub hl [1, 2, 3, 4, 0] rfl) (by omega) 
