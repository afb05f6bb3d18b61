theorem dX9_startList_0 : decode cX9_startList 0 = .ok (.aload_n 0, 1) := by decide +kernel
theorem dX9_startList_1 : decode cX9_startList 1 = .ok (.aload_n 0, 1) := by decide +kernel
theorem dX9_startList_2 : decode cX9_startList 2 = .ok (.getfield 18, 3) := by decide +kernel
theorem dX9_startList_5 : decode cX9_startList 5 = .ok (.putfield 28, 3) := by decide +kernel
theorem dX9_startList_8 : decode cX9_startList 8 = .ok (.aload_n 0, 1) := by decide +kernel
theorem dX9_startList_9 : decode cX9_startList 9 = .ok (.aload_n 0, 1) := by decide +kernel
theorem dX9_startList_10 : decode cX9_startList 10 = .ok (.getfield 22, 3) := by decide +kernel
theorem dX9_startList_13 : decode cX9_startList 13 = .ok (.putfield 31, 3) := by decide +kernel
theorem dX9_startList_16 : decode cX9_startList 16 = .ok (.return_, 1) := by decide +kernel
set_option maxHeartbeats 4000000 in
set_option maxRecDepth 100000 in
theorem m_X9_startList_129 (l : Launch) {Z : pZ} (S : pSh Z) {h : pH} (I : Iv Z h)  : pMet l yX9_startList cX9_startList 1 none 0 0 0 0 Z h [.ref (zB Z + 129)] (pQv Z (fun Z1 h1 => Z = Z1 ∧ Iv Z h1 ∧ agrD [(129, 4), (129, 5)] h h1)) := by
  refine pOfW (lv := [(0, .ref (zB Z + 129))]) (by decide) (Nat.le_of_ble_eq_true rfl) rfl ?_
  intro p e s m below meth c ls M hr hlk hnm V hl
  have hx := M.1.1
  have hb := M.1.2.1
  have A : agrD [] h h := agrD.rf
  refine lv_aload_n hx hb dX9_startList_0 rfl (lv_at hl 0 rfl) ?_
  refine lv_aload_n hx hb dX9_startList_1 rfl (lv_at hl 0 rfl) ?_
  refine pg_i M V 9 2 (c_is_129 S) pC9 fk9_2 lkF_X9_18 dX9_startList_2 ?_
  refine lv_topi (fun v1 ev1 => ?_)
  have tv1 : 0 ≤ v1.toInt ∧ v1.toInt ≤ 9000 := by rw [ev1]; exact I.get (c_is_129 S) 2
  refine pp_i M V 9 4 (c_is_129 S) pC9 fk9_4 rfl lkF_X9_28 ⟨rfl, rfl⟩ dX9_startList_5 (fun H locs V => ?_)
  have A := A.wk (l3 := [(129, 4)]) (by decide)
  have A := A.up (o := 129) (k := 4) (v := v1) (by decide)
  have I := I.up (k := 4) (v := v1) (c_is_129 S) (pi_full _)
  refine lv_aload_n hx hb dX9_startList_8 rfl (lv_at hl 0 rfl) ?_
  refine lv_aload_n hx hb dX9_startList_9 rfl (lv_at hl 0 rfl) ?_
  refine pg_i M V 9 3 (c_is_129 S) pC9 fk9_3 lkF_X9_22 dX9_startList_10 ?_
  refine lv_topi (fun v2 ev2 => ?_)
  have tv2 : 0 ≤ v2.toInt ∧ v2.toInt ≤ 9000 := by rw [ev2]; exact I.get (c_is_129 S) 3
  refine pp_i M V 9 5 (c_is_129 S) pC9 fk9_5 rfl lkF_X9_31 ⟨rfl, rfl⟩ dX9_startList_13 (fun H locs V => ?_)
  have A := A.wk (l3 := [(129, 4), (129, 5)]) (by decide)
  have A := A.up (o := 129) (k := 5) (v := v2) (by decide)
  have I := I.up (k := 5) (v := v2) (c_is_129 S) (pi_full _)
  exact pe_v M V rfl rfl hr hlk ⟨rfl, I, A.wk (by decide)⟩ ⟨Nat.le_refl _, Nat.le_refl _⟩ dX9_startList_16
set_option maxHeartbeats 4000000 in
set_option maxRecDepth 100000 in
theorem m_X9_startList_132 (l : Launch) {Z : pZ} (S : pSh Z) {h : pH} (I : Iv Z h)  : pMet l yX9_startList cX9_startList 1 none 0 0 0 0 Z h [.ref (zB Z + 132)] (pQv Z (fun Z1 h1 => Z = Z1 ∧ Iv Z h1 ∧ agrD [(132, 4), (132, 5)] h h1)) := by
  refine pOfW (lv := [(0, .ref (zB Z + 132))]) (by decide) (Nat.le_of_ble_eq_true rfl) rfl ?_
  intro p e s m below meth c ls M hr hlk hnm V hl
  have hx := M.1.1
  have hb := M.1.2.1
  have A : agrD [] h h := agrD.rf
  refine lv_aload_n hx hb dX9_startList_0 rfl (lv_at hl 0 rfl) ?_
  refine lv_aload_n hx hb dX9_startList_1 rfl (lv_at hl 0 rfl) ?_
  refine pg_i M V 9 2 (c_is_132 S) pC9 fk9_2 lkF_X9_18 dX9_startList_2 ?_
  refine lv_topi (fun v1 ev1 => ?_)
  have tv1 : 0 ≤ v1.toInt ∧ v1.toInt ≤ 9000 := by rw [ev1]; exact I.get (c_is_132 S) 2
  refine pp_i M V 9 4 (c_is_132 S) pC9 fk9_4 rfl lkF_X9_28 ⟨rfl, rfl⟩ dX9_startList_5 (fun H locs V => ?_)
  have A := A.wk (l3 := [(132, 4)]) (by decide)
  have A := A.up (o := 132) (k := 4) (v := v1) (by decide)
  have I := I.up (k := 4) (v := v1) (c_is_132 S) (pi_full _)
  refine lv_aload_n hx hb dX9_startList_8 rfl (lv_at hl 0 rfl) ?_
  refine lv_aload_n hx hb dX9_startList_9 rfl (lv_at hl 0 rfl) ?_
  refine pg_i M V 9 3 (c_is_132 S) pC9 fk9_3 lkF_X9_22 dX9_startList_10 ?_
  refine lv_topi (fun v2 ev2 => ?_)
  have tv2 : 0 ≤ v2.toInt ∧ v2.toInt ≤ 9000 := by rw [ev2]; exact I.get (c_is_132 S) 3
  refine pp_i M V 9 5 (c_is_132 S) pC9 fk9_5 rfl lkF_X9_31 ⟨rfl, rfl⟩ dX9_startList_13 (fun H locs V => ?_)
  have A := A.wk (l3 := [(132, 4), (132, 5)]) (by decide)
  have A := A.up (o := 132) (k := 5) (v := v2) (by decide)
  have I := I.up (k := 5) (v := v2) (c_is_132 S) (pi_full _)
  exact pe_v M V rfl rfl hr hlk ⟨rfl, I, A.wk (by decide)⟩ ⟨Nat.le_refl _, Nat.le_refl _⟩ dX9_startList_16
theorem dX9_clear_0 : decode cX9_clear 0 = .ok (.aload_n 0, 1) := by decide +kernel
theorem dX9_clear_1 : decode cX9_clear 1 = .ok (.iconst 0, 1) := by decide +kernel
theorem dX9_clear_2 : decode cX9_clear 2 = .ok (.putfield 18, 3) := by decide +kernel
theorem dX9_clear_5 : decode cX9_clear 5 = .ok (.aload_n 0, 1) := by decide +kernel
theorem dX9_clear_6 : decode cX9_clear 6 = .ok (.iconst 0, 1) := by decide +kernel
theorem dX9_clear_7 : decode cX9_clear 7 = .ok (.putfield 22, 3) := by decide +kernel
theorem dX9_clear_10 : decode cX9_clear 10 = .ok (.aload_n 0, 1) := by decide +kernel
theorem dX9_clear_11 : decode cX9_clear 11 = .ok (.invokevirtual 25, 3) := by decide +kernel
theorem dX9_clear_14 : decode cX9_clear 14 = .ok (.return_, 1) := by decide +kernel
set_option maxHeartbeats 4000000 in
set_option maxRecDepth 100000 in
theorem m_X9_clear_129 (l : Launch) {Z : pZ} (S : pSh Z) {h : pH} (I : Iv Z h)  : pMet l yX9_clear cX9_clear 1 none 1 0 0 20 Z h [.ref (zB Z + 129)] (pQv Z (fun Z1 h1 => Z = Z1 ∧ Iv Z h1 ∧ agrD [(129, 1000)] h h1 ∧ ((h1 129 2).toInt = 0 ∧ (h1 129 3).toInt = 0))) := by
  refine pOfW (lv := [(0, .ref (zB Z + 129))]) (by decide) (Nat.le_of_ble_eq_true rfl) rfl ?_
  intro p e s m below meth c ls M hr hlk hnm V hl
  have hx := M.1.1
  have hb := M.1.2.1
  have A : agrD [] h h := agrD.rf
  refine lv_aload_n hx hb dX9_clear_0 rfl (lv_at hl 0 rfl) ?_
  refine lv_iconst (v := 0) hx hb dX9_clear_1 (by decide) ?_
  refine pp_i M V 9 2 (c_is_129 S) pC9 fk9_2 rfl lkF_X9_18 ⟨rfl, rfl⟩ dX9_clear_2 (fun H locs V => ?_)
  have A := A.wk (l3 := [(129, 2)]) (by decide)
  have A := A.up (o := 129) (k := 2) (v := (0 : Int32)) (by decide)
  have k_0 : (0 : Int32).toInt = 0 := rfl
  have I := I.up (k := 2) (v := (0 : Int32)) (c_is_129 S) (show (0 : Int) ≤ (0 : Int32).toInt ∧ (0 : Int32).toInt ≤ (9000 : Int) by omega)
  refine lv_aload_n hx hb dX9_clear_5 rfl (lv_at hl 0 rfl) ?_
  refine lv_iconst (v := 0) hx hb dX9_clear_6 (by decide) ?_
  refine pp_i M V 9 3 (c_is_129 S) pC9 fk9_3 rfl lkF_X9_22 ⟨rfl, rfl⟩ dX9_clear_7 (fun H locs V => ?_)
  have A := A.wk (l3 := [(129, 2), (129, 3)]) (by decide)
  have A := A.up (o := 129) (k := 3) (v := (0 : Int32)) (by decide)
  have I := I.up (k := 3) (v := (0 : Int32)) (c_is_129 S) (show (0 : Int) ≤ (0 : Int32).toInt ∧ (0 : Int32).toInt ≤ (9000 : Int) by omega)
  refine lv_aload_n hx hb dX9_clear_10 rfl (lv_at hl 0 rfl) ?_
  refine pk_v (pr_V M V (m_X9_startList_129 l S I  ) km_X9_startList (c_is_129 S) pC9 lkM_X9_25 rfl hl.1 rfl (Nat.le_of_ble_eq_true rfl) ⟨Nat.le_of_ble_eq_true rfl, Nat.le_of_ble_eq_true rfl⟩ ⟨Nat.le_of_ble_eq_true rfl, Nat.le_of_ble_eq_true rfl⟩ dX9_clear_11) V (fun Zr1 hr1 H locs pr1 _ _ V => ?_)
  obtain ⟨rfl, I, pA_r1⟩ := pr1
  have A := A.wk (l3 := [(129, 2), (129, 3), (129, 4), (129, 5)]) (by decide)
  have A := A.tr pA_r1 (by decide)
  exact pe_v M V rfl rfl hr hlk ⟨rfl, I, A.wk (by decide), ⟨congrArg Int32.toInt ((pA_r1.get 129 2 (by decide)).trans (show _ = (0 : Int32) from rfl)), congrArg Int32.toInt ((pA_r1.get 129 3 (by decide)).trans (show _ = (0 : Int32) from rfl))⟩⟩ ⟨Nat.le_refl _, Nat.le_refl _⟩ dX9_clear_14
set_option maxHeartbeats 4000000 in
set_option maxRecDepth 100000 in
theorem m_X9_clear_132 (l : Launch) {Z : pZ} (S : pSh Z) {h : pH} (I : Iv Z h)  : pMet l yX9_clear cX9_clear 1 none 1 0 0 20 Z h [.ref (zB Z + 132)] (pQv Z (fun Z1 h1 => Z = Z1 ∧ Iv Z h1 ∧ agrD [(132, 1000)] h h1 ∧ ((h1 132 2).toInt = 0 ∧ (h1 132 3).toInt = 0))) := by
  refine pOfW (lv := [(0, .ref (zB Z + 132))]) (by decide) (Nat.le_of_ble_eq_true rfl) rfl ?_
  intro p e s m below meth c ls M hr hlk hnm V hl
  have hx := M.1.1
  have hb := M.1.2.1
  have A : agrD [] h h := agrD.rf
  refine lv_aload_n hx hb dX9_clear_0 rfl (lv_at hl 0 rfl) ?_
  refine lv_iconst (v := 0) hx hb dX9_clear_1 (by decide) ?_
  refine pp_i M V 9 2 (c_is_132 S) pC9 fk9_2 rfl lkF_X9_18 ⟨rfl, rfl⟩ dX9_clear_2 (fun H locs V => ?_)
  have A := A.wk (l3 := [(132, 2)]) (by decide)
  have A := A.up (o := 132) (k := 2) (v := (0 : Int32)) (by decide)
  have k_0 : (0 : Int32).toInt = 0 := rfl
  have I := I.up (k := 2) (v := (0 : Int32)) (c_is_132 S) (show (0 : Int) ≤ (0 : Int32).toInt ∧ (0 : Int32).toInt ≤ (9000 : Int) by omega)
  refine lv_aload_n hx hb dX9_clear_5 rfl (lv_at hl 0 rfl) ?_
  refine lv_iconst (v := 0) hx hb dX9_clear_6 (by decide) ?_
  refine pp_i M V 9 3 (c_is_132 S) pC9 fk9_3 rfl lkF_X9_22 ⟨rfl, rfl⟩ dX9_clear_7 (fun H locs V => ?_)
  have A := A.wk (l3 := [(132, 2), (132, 3)]) (by decide)
  have A := A.up (o := 132) (k := 3) (v := (0 : Int32)) (by decide)
  have I := I.up (k := 3) (v := (0 : Int32)) (c_is_132 S) (show (0 : Int) ≤ (0 : Int32).toInt ∧ (0 : Int32).toInt ≤ (9000 : Int) by omega)
  refine lv_aload_n hx hb dX9_clear_10 rfl (lv_at hl 0 rfl) ?_
  refine pk_v (pr_V M V (m_X9_startList_132 l S I  ) km_X9_startList (c_is_132 S) pC9 lkM_X9_25 rfl hl.1 rfl (Nat.le_of_ble_eq_true rfl) ⟨Nat.le_of_ble_eq_true rfl, Nat.le_of_ble_eq_true rfl⟩ ⟨Nat.le_of_ble_eq_true rfl, Nat.le_of_ble_eq_true rfl⟩ dX9_clear_11) V (fun Zr1 hr1 H locs pr1 _ _ V => ?_)
  obtain ⟨rfl, I, pA_r1⟩ := pr1
  have A := A.wk (l3 := [(132, 2), (132, 3), (132, 4), (132, 5)]) (by decide)
  have A := A.tr pA_r1 (by decide)
  exact pe_v M V rfl rfl hr hlk ⟨rfl, I, A.wk (by decide), ⟨congrArg Int32.toInt ((pA_r1.get 132 2 (by decide)).trans (show _ = (0 : Int32) from rfl)), congrArg Int32.toInt ((pA_r1.get 132 3 (by decide)).trans (show _ = (0 : Int32) from rfl))⟩⟩ ⟨Nat.le_refl _, Nat.le_refl _⟩ dX9_clear_14
theorem dX9_partAt_0 : decode cX9_partAt 0 = .ok (.iload_n 1, 1) := by decide +kernel
theorem dX9_partAt_1 : decode cX9_partAt 1 = .ok (.iconst 0, 1) := by decide +kernel
theorem dX9_partAt_2 : decode cX9_partAt 2 = .ok (.aload_n 0, 1) := by decide +kernel
theorem dX9_partAt_3 : decode cX9_partAt 3 = .ok (.getfield 15, 3) := by decide +kernel
theorem dX9_partAt_6 : decode cX9_partAt 6 = .ok (.arraylength, 1) := by decide +kernel
theorem dX9_partAt_7 : decode cX9_partAt 7 = .ok (.iconst 1, 1) := by decide +kernel
theorem dX9_partAt_8 : decode cX9_partAt 8 = .ok (.isub, 1) := by decide +kernel
theorem dX9_partAt_9 : decode cX9_partAt 9 = .ok (.invokestatic 62, 3) := by decide +kernel
theorem dX9_partAt_12 : decode cX9_partAt 12 = .ok (.ifCond .eq 12, 3) := by decide +kernel
theorem dX9_partAt_15 : decode cX9_partAt 15 = .ok (.aload_n 0, 1) := by decide +kernel
theorem dX9_partAt_16 : decode cX9_partAt 16 = .ok (.getfield 15, 3) := by decide +kernel
theorem dX9_partAt_19 : decode cX9_partAt 19 = .ok (.iload_n 1, 1) := by decide +kernel
theorem dX9_partAt_20 : decode cX9_partAt 20 = .ok (.iaload, 1) := by decide +kernel
theorem dX9_partAt_21 : decode cX9_partAt 21 = .ok (.goto 4, 3) := by decide +kernel
theorem dX9_partAt_24 : decode cX9_partAt 24 = .ok (.iconst (-1), 1) := by decide +kernel
theorem dX9_partAt_25 : decode cX9_partAt 25 = .ok (.ireturn, 1) := by decide +kernel
set_option maxHeartbeats 4000000 in
set_option maxRecDepth 100000 in
theorem m_X9_partAt_129 (l : Launch) {Z : pZ} (S : pSh Z) {h : pH} (I : Iv Z h) (a9 : Int32) (K : pSk Z) : pMet l yX9_partAt cX9_partAt 2 (some .int) 1 0 0 22 Z h [.ref (zB Z + 129), .int a9] (pQi Z (fun r Z1 h1 => Z = Z1 ∧ Iv Z h1 ∧ agrD [] h h1)) := by
  refine pOfW (lv := [(0, .ref (zB Z + 129)), (1, .int a9)]) (by decide) (Nat.le_of_ble_eq_true rfl) rfl ?_
  intro p e s m below meth c ls M hr hlk hnm V hl
  have hx := M.1.1
  have hb := M.1.2.1
  have A : agrD [] h h := agrD.rf
  have J_25 : ∀ (y25_0 : Int32) (hJ : pH) (H : Heap) (locs : List Loc) (ls : Array Slot), pV Z hJ s.heap H locs → Iv Z hJ → agrD [] h hJ → lv_has ls 2 [(0, .ref (zB Z + 129)), (1, .int a9)] → W p l e (pRm 1 0 0 22) s m ([.ref (zB Z + 129), .int a9] : List Value).toArray below meth c H locs 0 0 (MQ below (pQi Z (fun r Z1 h1 => Z = Z1 ∧ Iv Z h1 ∧ agrD [] h h1)) ([.ref (zB Z + 129), .int a9] : List Value).toArray s 0 0 (pA (zB Z))) (F0 m 25 ls [.int y25_0]) := by
    intro y25_0 hJ H locs ls V I A hl
    exact pe_i M V rfl rfl hr hlk rfl ⟨rfl, I, A.wk (by decide)⟩ ⟨Nat.le_refl _, Nat.le_refl _⟩ dX9_partAt_25
  refine lv_iload_n hx hb dX9_partAt_0 rfl (lv_at hl 1 rfl) ?_
  refine lv_iconst (v := 0) hx hb dX9_partAt_1 (by decide) ?_
  refine lv_aload_n hx hb dX9_partAt_2 rfl (lv_at hl 0 rfl) ?_
  refine pg_r M V 9 1 (c_is_129 S) pC9 fk9_1 K.2.1.1 lkF_X9_15 dX9_partAt_3 ?_
  refine pa_len M V K.2.1.2.1 dX9_partAt_6 ?_
  refine lv_topi (fun v1 ev1 => ?_)
  have nv1 := K.2.1.2.2.2
  have tv1 : v1.toInt = (zN Z (qA Z 129 1) : Int) := by rw [ev1]; exact pi_len (by omega)
  refine lv_iconst (v := 1) hx hb dX9_partAt_7 (by decide) ?_
  refine lv_isub hx hb dX9_partAt_8 ?_
  refine lv_topi (fun v2 ev2 => ?_)
  have k_0 : (0 : Int32).toInt = 0 := rfl
  have k_1 : (1 : Int32).toInt = 1 := rfl
  have tv2 : v2.toInt = v1.toInt - 1 := by rw [ev2]; have z9 := pi_sub (x := v1) (y := (1 : Int32)); rw [k_1] at z9; exact z9 (by omega)
  refine pk_i (pr_SN M V (m_X11_isWithin l (Z := Z) (h := _) a9 (0 : Int32) v2) km_X11_isWithin lkN_X9_62 rfl hl.1 rfl (Nat.le_of_ble_eq_true rfl) ⟨Nat.le_of_ble_eq_true rfl, Nat.le_of_ble_eq_true rfl⟩ ⟨Nat.le_of_ble_eq_true rfl, Nat.le_of_ble_eq_true rfl⟩ dX9_partAt_9) V (fun r3 Zr3 hr3 H locs pr3 _ _ V => ?_)
  obtain ⟨rfl, rfl, fr3_0⟩ := pr3
  refine lv_if_eq (tgt := 24) hx hb dX9_partAt_12 (by decide) (fun c_12 => ?_) (fun c_12 => ?_)
  · skip
    have c_12 := pi_eq.mp c_12
    refine lv_iconst (v := (-1)) hx hb dX9_partAt_24 (by decide) ?_
    exact J_25 (-1 : Int32) _ _ _ _ V I (A.wk (by decide)) (lv_sub hl [0, 1] rfl) 
  · skip
    have c_12 := pi_ne c_12
    refine lv_aload_n hx hb dX9_partAt_15 rfl (lv_at hl 0 rfl) ?_
    refine pg_r M V 9 1 (c_is_129 S) pC9 fk9_1 K.2.1.1 lkF_X9_15 dX9_partAt_16 ?_
    refine lv_iload_n hx hb dX9_partAt_19 rfl (lv_at hl 1 rfl) ?_
    refine pa_i M V K.2.1.2.1 (pi_in (by omega)) dX9_partAt_20 ?_
    refine lv_topi (fun v4 ev4 => ?_)
    refine lv_goto (tgt := 25) hx hb dX9_partAt_21 (by decide) ?_
    exact J_25 v4 _ _ _ _ V I (A.wk (by decide)) (lv_sub hl [0, 1] rfl) 
set_option maxHeartbeats 4000000 in
set_option maxRecDepth 100000 in
theorem m_X9_partAt_132 (l : Launch) {Z : pZ} (S : pSh Z) {h : pH} (I : Iv Z h) (a9 : Int32) (K : pSk Z) : pMet l yX9_partAt cX9_partAt 2 (some .int) 1 0 0 22 Z h [.ref (zB Z + 132), .int a9] (pQi Z (fun r Z1 h1 => Z = Z1 ∧ Iv Z h1 ∧ agrD [] h h1)) := by
  refine pOfW (lv := [(0, .ref (zB Z + 132)), (1, .int a9)]) (by decide) (Nat.le_of_ble_eq_true rfl) rfl ?_
  intro p e s m below meth c ls M hr hlk hnm V hl
  have hx := M.1.1
  have hb := M.1.2.1
  have A : agrD [] h h := agrD.rf
  have J_25 : ∀ (y25_0 : Int32) (hJ : pH) (H : Heap) (locs : List Loc) (ls : Array Slot), pV Z hJ s.heap H locs → Iv Z hJ → agrD [] h hJ → lv_has ls 2 [(0, .ref (zB Z + 132)), (1, .int a9)] → W p l e (pRm 1 0 0 22) s m ([.ref (zB Z + 132), .int a9] : List Value).toArray below meth c H locs 0 0 (MQ below (pQi Z (fun r Z1 h1 => Z = Z1 ∧ Iv Z h1 ∧ agrD [] h h1)) ([.ref (zB Z + 132), .int a9] : List Value).toArray s 0 0 (pA (zB Z))) (F0 m 25 ls [.int y25_0]) := by
    intro y25_0 hJ H locs ls V I A hl
    exact pe_i M V rfl rfl hr hlk rfl ⟨rfl, I, A.wk (by decide)⟩ ⟨Nat.le_refl _, Nat.le_refl _⟩ dX9_partAt_25
  refine lv_iload_n hx hb dX9_partAt_0 rfl (lv_at hl 1 rfl) ?_
  refine lv_iconst (v := 0) hx hb dX9_partAt_1 (by decide) ?_
  refine lv_aload_n hx hb dX9_partAt_2 rfl (lv_at hl 0 rfl) ?_
  refine pg_r M V 9 1 (c_is_132 S) pC9 fk9_1 K.2.2.2.1 lkF_X9_15 dX9_partAt_3 ?_
  refine pa_len M V K.2.2.2.2.1 dX9_partAt_6 ?_
  refine lv_topi (fun v1 ev1 => ?_)
  have nv1 := K.2.2.2.2.2.2
  have tv1 : v1.toInt = (zN Z (qA Z 132 1) : Int) := by rw [ev1]; exact pi_len (by omega)
  refine lv_iconst (v := 1) hx hb dX9_partAt_7 (by decide) ?_
  refine lv_isub hx hb dX9_partAt_8 ?_
  refine lv_topi (fun v2 ev2 => ?_)
  have k_0 : (0 : Int32).toInt = 0 := rfl
  have k_1 : (1 : Int32).toInt = 1 := rfl
  have tv2 : v2.toInt = v1.toInt - 1 := by rw [ev2]; have z9 := pi_sub (x := v1) (y := (1 : Int32)); rw [k_1] at z9; exact z9 (by omega)
  refine pk_i (pr_SN M V (m_X11_isWithin l (Z := Z) (h := _) a9 (0 : Int32) v2) km_X11_isWithin lkN_X9_62 rfl hl.1 rfl (Nat.le_of_ble_eq_true rfl) ⟨Nat.le_of_ble_eq_true rfl, Nat.le_of_ble_eq_true rfl⟩ ⟨Nat.le_of_ble_eq_true rfl, Nat.le_of_ble_eq_true rfl⟩ dX9_partAt_9) V (fun r3 Zr3 hr3 H locs pr3 _ _ V => ?_)
  obtain ⟨rfl, rfl, fr3_0⟩ := pr3
  refine lv_if_eq (tgt := 24) hx hb dX9_partAt_12 (by decide) (fun c_12 => ?_) (fun c_12 => ?_)
  · skip
    have c_12 := pi_eq.mp c_12
    refine lv_iconst (v := (-1)) hx hb dX9_partAt_24 (by decide) ?_
    exact J_25 (-1 : Int32) _ _ _ _ V I (A.wk (by decide)) (lv_sub hl [0, 1] rfl) 
  · skip
    have c_12 := pi_ne c_12
    refine lv_aload_n hx hb dX9_partAt_15 rfl (lv_at hl 0 rfl) ?_
    refine pg_r M V 9 1 (c_is_132 S) pC9 fk9_1 K.2.2.2.1 lkF_X9_15 dX9_partAt_16 ?_
    refine lv_iload_n hx hb dX9_partAt_19 rfl (lv_at hl 1 rfl) ?_
    refine pa_i M V K.2.2.2.2.1 (pi_in (by omega)) dX9_partAt_20 ?_
    refine lv_topi (fun v4 ev4 => ?_)
    refine lv_goto (tgt := 25) hx hb dX9_partAt_21 (by decide) ?_
    exact J_25 v4 _ _ _ _ V I (A.wk (by decide)) (lv_sub hl [0, 1] rfl) 
theorem dX9_lastPart_0 : decode cX9_lastPart 0 = .ok (.aload_n 0, 1) := by decide +kernel
theorem dX9_lastPart_1 : decode cX9_lastPart 1 = .ok (.getfield 22, 3) := by decide +kernel
theorem dX9_lastPart_4 : decode cX9_lastPart 4 = .ok (.aload_n 0, 1) := by decide +kernel
theorem dX9_lastPart_5 : decode cX9_lastPart 5 = .ok (.getfield 31, 3) := by decide +kernel
theorem dX9_lastPart_8 : decode cX9_lastPart 8 = .ok (.if_icmp .le 21, 3) := by decide +kernel
theorem dX9_lastPart_11 : decode cX9_lastPart 11 = .ok (.aload_n 0, 1) := by decide +kernel
theorem dX9_lastPart_12 : decode cX9_lastPart 12 = .ok (.aload_n 0, 1) := by decide +kernel
theorem dX9_lastPart_13 : decode cX9_lastPart 13 = .ok (.getfield 22, 3) := by decide +kernel
theorem dX9_lastPart_16 : decode cX9_lastPart 16 = .ok (.iconst 1, 1) := by decide +kernel
theorem dX9_lastPart_17 : decode cX9_lastPart 17 = .ok (.isub, 1) := by decide +kernel
theorem dX9_lastPart_18 : decode cX9_lastPart 18 = .ok (.bipush 8, 2) := by decide +kernel
theorem dX9_lastPart_20 : decode cX9_lastPart 20 = .ok (.imul, 1) := by decide +kernel
theorem dX9_lastPart_21 : decode cX9_lastPart 21 = .ok (.iload_n 1, 1) := by decide +kernel
theorem dX9_lastPart_22 : decode cX9_lastPart 22 = .ok (.iadd, 1) := by decide +kernel
theorem dX9_lastPart_23 : decode cX9_lastPart 23 = .ok (.invokevirtual 59, 3) := by decide +kernel
theorem dX9_lastPart_26 : decode cX9_lastPart 26 = .ok (.goto 4, 3) := by decide +kernel
theorem dX9_lastPart_29 : decode cX9_lastPart 29 = .ok (.iconst (-1), 1) := by decide +kernel
theorem dX9_lastPart_30 : decode cX9_lastPart 30 = .ok (.ireturn, 1) := by decide +kernel
set_option maxHeartbeats 4000000 in
set_option maxRecDepth 100000 in
theorem m_X9_lastPart (l : Launch) {Z : pZ} (S : pSh Z) {h : pH} (I : Iv Z h) (what : Int32) (K : pSk Z) (hw : 0 ≤ what.toInt ∧ what.toInt ≤ 7) : pMet l yX9_lastPart cX9_lastPart 2 (some .int) 2 0 0 43 Z h [.ref (zB Z + 129), .int what] (pQi Z (fun r Z1 h1 => Z = Z1 ∧ Iv Z h1 ∧ agrD [] h h1)) := by
  refine pOfW (lv := [(0, .ref (zB Z + 129)), (1, .int what)]) (by decide) (Nat.le_of_ble_eq_true rfl) rfl ?_
  intro p e s m below meth c ls M hr hlk hnm V hl
  have hx := M.1.1
  have hb := M.1.2.1
  have A : agrD [] h h := agrD.rf
  have J_30 : ∀ (y30_0 : Int32) (hJ : pH) (H : Heap) (locs : List Loc) (ls : Array Slot), pV Z hJ s.heap H locs → Iv Z hJ → agrD [] h hJ → lv_has ls 2 [(0, .ref (zB Z + 129)), (1, .int what)] → (0 ≤ what.toInt ∧ what.toInt ≤ 7) → W p l e (pRm 2 0 0 43) s m ([.ref (zB Z + 129), .int what] : List Value).toArray below meth c H locs 0 0 (MQ below (pQi Z (fun r Z1 h1 => Z = Z1 ∧ Iv Z h1 ∧ agrD [] h h1)) ([.ref (zB Z + 129), .int what] : List Value).toArray s 0 0 (pA (zB Z))) (F0 m 30 ls [.int y30_0]) := by
    intro y30_0 hJ H locs ls V I A hl g_30_1
    exact pe_i M V rfl rfl hr hlk rfl ⟨rfl, I, A.wk (by decide)⟩ ⟨Nat.le_refl _, Nat.le_refl _⟩ dX9_lastPart_30
  refine lv_aload_n hx hb dX9_lastPart_0 rfl (lv_at hl 0 rfl) ?_
  refine pg_i M V 9 3 (c_is_129 S) pC9 fk9_3 lkF_X9_22 dX9_lastPart_1 ?_
  refine lv_topi (fun v1 ev1 => ?_)
  have tv1 : 0 ≤ v1.toInt ∧ v1.toInt ≤ 9000 := by rw [ev1]; exact I.get (c_is_129 S) 3
  refine lv_aload_n hx hb dX9_lastPart_4 rfl (lv_at hl 0 rfl) ?_
  refine pg_i M V 9 5 (c_is_129 S) pC9 fk9_5 lkF_X9_31 dX9_lastPart_5 ?_
  refine lv_topi (fun v2 ev2 => ?_)
  refine lv_icmp_le (tgt := 29) hx hb dX9_lastPart_8 (by decide) (fun c_8 => ?_) (fun c_8 => ?_)
  · skip
    have c_8 := pi_le.mp c_8
    refine lv_iconst (v := (-1)) hx hb dX9_lastPart_29 (by decide) ?_
    exact J_30 (-1 : Int32) _ _ _ _ V I (A.wk (by decide)) (lv_sub hl [0, 1] rfl) (by omega) 
  · skip
    have c_8 := pi_le' c_8
    refine lv_aload_n hx hb dX9_lastPart_11 rfl (lv_at hl 0 rfl) ?_
    refine lv_aload_n hx hb dX9_lastPart_12 rfl (lv_at hl 0 rfl) ?_
    refine pg_iv M V 9 3 (v := v1) (c_is_129 S) pC9 fk9_3 ev1.symm lkF_X9_22 dX9_lastPart_13 ?_
    refine lv_iconst (v := 1) hx hb dX9_lastPart_16 (by decide) ?_
    refine lv_isub hx hb dX9_lastPart_17 ?_
    refine lv_topi (fun v3 ev3 => ?_)
    refine lv_bipush (v := 8) hx hb dX9_lastPart_18 (by decide) ?_
    refine lv_imul hx hb dX9_lastPart_20 ?_
    refine lv_topi (fun v4 ev4 => ?_)
    refine lv_iload_n hx hb dX9_lastPart_21 rfl (lv_at hl 1 rfl) ?_
    refine lv_iadd hx hb dX9_lastPart_22 ?_
    refine lv_topi (fun v5 ev5 => ?_)
    have k_1 : (1 : Int32).toInt = 1 := rfl
    have tv3 : v3.toInt = v1.toInt - 1 := by rw [ev3]; have z9 := pi_sub (x := v1) (y := (1 : Int32)); rw [k_1] at z9; exact z9 (by omega)
    have k_8 : (8 : Int32).toInt = 8 := rfl
    have tv4 : v4.toInt = v3.toInt * 8 := by rw [ev4]; have z9 := pi_mul (x := v3) (y := (8 : Int32)); rw [k_8] at z9; exact z9 (by omega)
    have tv5 : v5.toInt = v4.toInt + what.toInt := by rw [ev5]; exact pi_add (by omega)
    refine pk_i (pr_V M V (m_X9_partAt_129 l S I v5 K) km_X9_partAt (c_is_129 S) pC9 lkM_X9_59 rfl hl.1 rfl (Nat.le_of_ble_eq_true rfl) ⟨Nat.le_of_ble_eq_true rfl, Nat.le_of_ble_eq_true rfl⟩ ⟨Nat.le_of_ble_eq_true rfl, Nat.le_of_ble_eq_true rfl⟩ dX9_lastPart_23) V (fun r6 Zr6 hr6 H locs pr6 _ _ V => ?_)
    obtain ⟨rfl, I, pA_r6⟩ := pr6
    have A := A.tr pA_r6 (by decide)
    refine lv_goto (tgt := 30) hx hb dX9_lastPart_26 (by decide) ?_
    exact J_30 r6 _ _ _ _ V I (A.wk (by decide)) (lv_sub hl [0, 1] rfl) (by omega) 
theorem dX9_offsetFor_0 : decode cX9_offsetFor 0 = .ok (.aload_n 0, 1) := by decide +kernel
theorem dX9_offsetFor_1 : decode cX9_offsetFor 1 = .ok (.iconst 5, 1) := by decide +kernel
theorem dX9_offsetFor_2 : decode cX9_offsetFor 2 = .ok (.invokevirtual 66, 3) := by decide +kernel
theorem dX9_offsetFor_5 : decode cX9_offsetFor 5 = .ok (.istore_n 2, 1) := by decide +kernel
theorem dX9_offsetFor_6 : decode cX9_offsetFor 6 = .ok (.iload_n 2, 1) := by decide +kernel
theorem dX9_offsetFor_7 : decode cX9_offsetFor 7 = .ok (.iconst (-1), 1) := by decide +kernel
theorem dX9_offsetFor_8 : decode cX9_offsetFor 8 = .ok (.if_icmp .eq 15, 3) := by decide +kernel
theorem dX9_offsetFor_11 : decode cX9_offsetFor 11 = .ok (.iload_n 1, 1) := by decide +kernel
theorem dX9_offsetFor_12 : decode cX9_offsetFor 12 = .ok (.iload_n 2, 1) := by decide +kernel
theorem dX9_offsetFor_13 : decode cX9_offsetFor 13 = .ok (.isub, 1) := by decide +kernel
theorem dX9_offsetFor_14 : decode cX9_offsetFor 14 = .ok (.bipush 64, 2) := by decide +kernel
theorem dX9_offsetFor_16 : decode cX9_offsetFor 16 = .ok (.if_icmp .ge 7, 3) := by decide +kernel
theorem dX9_offsetFor_19 : decode cX9_offsetFor 19 = .ok (.iload_n 2, 1) := by decide +kernel
theorem dX9_offsetFor_20 : decode cX9_offsetFor 20 = .ok (.goto 4, 3) := by decide +kernel
theorem dX9_offsetFor_23 : decode cX9_offsetFor 23 = .ok (.iload_n 1, 1) := by decide +kernel
theorem dX9_offsetFor_24 : decode cX9_offsetFor 24 = .ok (.ireturn, 1) := by decide +kernel
set_option maxHeartbeats 4000000 in
set_option maxRecDepth 100000 in
theorem m_X9_offsetFor (l : Launch) {Z : pZ} (S : pSh Z) {h : pH} (I : Iv Z h) (before : Int32) (K : pSk Z) : pMet l yX9_offsetFor cX9_offsetFor 3 (some .int) 3 0 0 64 Z h [.ref (zB Z + 129), .int before] (pQi Z (fun r Z1 h1 => Z = Z1 ∧ Iv Z h1 ∧ agrD [] h h1)) := by
  refine pOfW (lv := [(0, .ref (zB Z + 129)), (1, .int before)]) (by decide) (Nat.le_of_ble_eq_true rfl) rfl ?_
  intro p e s m below meth c ls M hr hlk hnm V hl
  have hx := M.1.1
  have hb := M.1.2.1
  have A : agrD [] h h := agrD.rf
  have J_24 : ∀ (x24_2 : Int32) (y24_0 : Int32) (hJ : pH) (H : Heap) (locs : List Loc) (ls : Array Slot), pV Z hJ s.heap H locs → Iv Z hJ → agrD [] h hJ → lv_has ls 3 [(0, .ref (zB Z + 129)), (1, .int before), (2, .int x24_2)] → W p l e (pRm 3 0 0 64) s m ([.ref (zB Z + 129), .int before] : List Value).toArray below meth c H locs 0 0 (MQ below (pQi Z (fun r Z1 h1 => Z = Z1 ∧ Iv Z h1 ∧ agrD [] h h1)) ([.ref (zB Z + 129), .int before] : List Value).toArray s 0 0 (pA (zB Z))) (F0 m 24 ls [.int y24_0]) := by
    intro x24_2 y24_0 hJ H locs ls V I A hl
    exact pe_i M V rfl rfl hr hlk rfl ⟨rfl, I, A.wk (by decide)⟩ ⟨Nat.le_refl _, Nat.le_refl _⟩ dX9_offsetFor_24
  have J_23 : ∀ (x23_2 : Int32) (hJ : pH) (H : Heap) (locs : List Loc) (ls : Array Slot), pV Z hJ s.heap H locs → Iv Z hJ → agrD [] h hJ → lv_has ls 3 [(0, .ref (zB Z + 129)), (1, .int before), (2, .int x23_2)] → W p l e (pRm 3 0 0 64) s m ([.ref (zB Z + 129), .int before] : List Value).toArray below meth c H locs 0 0 (MQ below (pQi Z (fun r Z1 h1 => Z = Z1 ∧ Iv Z h1 ∧ agrD [] h h1)) ([.ref (zB Z + 129), .int before] : List Value).toArray s 0 0 (pA (zB Z))) (F0 m 23 ls []) := by
    intro x23_2 hJ H locs ls V I A hl
    refine lv_iload_n hx hb dX9_offsetFor_23 rfl (lv_at hl 1 rfl) ?_
    exact J_24 x23_2 before _ _ _ _ V I (A.wk (by decide)) (lv_sub hl [0, 1, 2] rfl) 
  refine lv_aload_n hx hb dX9_offsetFor_0 rfl (lv_at hl 0 rfl) ?_
  refine lv_iconst (v := 5) hx hb dX9_offsetFor_1 (by decide) ?_
  have k_5 : (5 : Int32).toInt = 5 := rfl
  refine pk_i (pr_V M V (m_X9_lastPart l S I (5 : Int32) K (by omega)) km_X9_lastPart (c_is_129 S) pC9 lkM_X9_66 rfl hl.1 rfl (Nat.le_of_ble_eq_true rfl) ⟨Nat.le_of_ble_eq_true rfl, Nat.le_of_ble_eq_true rfl⟩ ⟨Nat.le_of_ble_eq_true rfl, Nat.le_of_ble_eq_true rfl⟩ dX9_offsetFor_2) V (fun r1 Zr1 hr1 H locs pr1 _ _ V => ?_)
  obtain ⟨rfl, I, pA_r1⟩ := pr1
  have A := A.tr pA_r1 (by decide)
  refine lv_istore_n (lv' := [(2, .int r1), (0, .ref (zB Z + 129)), (1, .int before)]) hx hb dX9_offsetFor_5 rfl hl (by decide) rfl (fun ls hl => ?_)
  refine lv_iload_n hx hb dX9_offsetFor_6 rfl (lv_at hl 0 rfl) ?_
  refine lv_iconst (v := (-1)) hx hb dX9_offsetFor_7 (by decide) ?_
  refine lv_icmp_eq (tgt := 23) hx hb dX9_offsetFor_8 (by decide) (fun c_8 => ?_) (fun c_8 => ?_)
  · skip
    have k_m1 : (-1 : Int32).toInt = -1 := rfl
    have c_8 := pi_eq.mp c_8
    exact J_23 r1 _ _ _ _ V I (A.wk (by decide)) (lv_sub hl [1, 2, 0] rfl) 
  · skip
    have k_m1 : (-1 : Int32).toInt = -1 := rfl
    have c_8 := pi_ne c_8
    refine lv_iload_n hx hb dX9_offsetFor_11 rfl (lv_at hl 2 rfl) ?_
    refine lv_iload_n hx hb dX9_offsetFor_12 rfl (lv_at hl 0 rfl) ?_
    refine lv_isub hx hb dX9_offsetFor_13 ?_
    refine lv_topi (fun v2 ev2 => ?_)
    refine lv_bipush (v := 64) hx hb dX9_offsetFor_14 (by decide) ?_
    refine lv_icmp_ge (tgt := 23) hx hb dX9_offsetFor_16 (by decide) (fun c_16 => ?_) (fun c_16 => ?_)
    · skip
      have k_64 : (64 : Int32).toInt = 64 := rfl
      have c_16 := pi_le.mp c_16
      exact J_23 r1 _ _ _ _ V I (A.wk (by decide)) (lv_sub hl [1, 2, 0] rfl) 
    · skip
      have k_64 : (64 : Int32).toInt = 64 := rfl
      have c_16 := pi_le' c_16
      refine lv_iload_n hx hb dX9_offsetFor_19 rfl (lv_at hl 0 rfl) ?_
      refine lv_goto (tgt := 24) hx hb dX9_offsetFor_20 (by decide) ?_
      exact J_24 r1 r1 _ _ _ _ V I (A.wk (by decide)) (lv_sub hl [1, 2, 0] rfl) 
theorem dX9_fitsLast_0 : decode cX9_fitsLast 0 = .ok (.aload_n 0, 1) := by decide +kernel
theorem dX9_fitsLast_1 : decode cX9_fitsLast 1 = .ok (.iconst 5, 1) := by decide +kernel
theorem dX9_fitsLast_2 : decode cX9_fitsLast 2 = .ok (.invokevirtual 66, 3) := by decide +kernel
theorem dX9_fitsLast_5 : decode cX9_fitsLast 5 = .ok (.iload_n 1, 1) := by decide +kernel
theorem dX9_fitsLast_6 : decode cX9_fitsLast 6 = .ok (.if_icmp .ne 64, 3) := by decide +kernel
theorem dX9_fitsLast_9 : decode cX9_fitsLast 9 = .ok (.aload_n 0, 1) := by decide +kernel
theorem dX9_fitsLast_10 : decode cX9_fitsLast 10 = .ok (.iconst 4, 1) := by decide +kernel
theorem dX9_fitsLast_11 : decode cX9_fitsLast 11 = .ok (.invokevirtual 66, 3) := by decide +kernel
theorem dX9_fitsLast_14 : decode cX9_fitsLast 14 = .ok (.iload_n 2, 1) := by decide +kernel
theorem dX9_fitsLast_15 : decode cX9_fitsLast 15 = .ok (.if_icmp .ne 55, 3) := by decide +kernel
theorem dX9_fitsLast_18 : decode cX9_fitsLast 18 = .ok (.aload_n 0, 1) := by decide +kernel
theorem dX9_fitsLast_19 : decode cX9_fitsLast 19 = .ok (.iconst 0, 1) := by decide +kernel
theorem dX9_fitsLast_20 : decode cX9_fitsLast 20 = .ok (.invokevirtual 66, 3) := by decide +kernel
theorem dX9_fitsLast_23 : decode cX9_fitsLast 23 = .ok (.aload_n 3, 1) := by decide +kernel
theorem dX9_fitsLast_24 : decode cX9_fitsLast 24 = .ok (.getfield 69, 3) := by decide +kernel
theorem dX9_fitsLast_27 : decode cX9_fitsLast 27 = .ok (.if_icmp .ne 43, 3) := by decide +kernel
theorem dX9_fitsLast_30 : decode cX9_fitsLast 30 = .ok (.aload_n 0, 1) := by decide +kernel
theorem dX9_fitsLast_31 : decode cX9_fitsLast 31 = .ok (.iconst 1, 1) := by decide +kernel
theorem dX9_fitsLast_32 : decode cX9_fitsLast 32 = .ok (.invokevirtual 66, 3) := by decide +kernel
theorem dX9_fitsLast_35 : decode cX9_fitsLast 35 = .ok (.aload_n 3, 1) := by decide +kernel
theorem dX9_fitsLast_36 : decode cX9_fitsLast 36 = .ok (.getfield 72, 3) := by decide +kernel
theorem dX9_fitsLast_39 : decode cX9_fitsLast 39 = .ok (.if_icmp .ne 31, 3) := by decide +kernel
theorem dX9_fitsLast_42 : decode cX9_fitsLast 42 = .ok (.aload_n 0, 1) := by decide +kernel
theorem dX9_fitsLast_43 : decode cX9_fitsLast 43 = .ok (.iconst 2, 1) := by decide +kernel
theorem dX9_fitsLast_44 : decode cX9_fitsLast 44 = .ok (.invokevirtual 66, 3) := by decide +kernel
theorem dX9_fitsLast_47 : decode cX9_fitsLast 47 = .ok (.aload_n 3, 1) := by decide +kernel
theorem dX9_fitsLast_48 : decode cX9_fitsLast 48 = .ok (.getfield 75, 3) := by decide +kernel
theorem dX9_fitsLast_51 : decode cX9_fitsLast 51 = .ok (.if_icmp .ne 19, 3) := by decide +kernel
theorem dX9_fitsLast_54 : decode cX9_fitsLast 54 = .ok (.aload_n 0, 1) := by decide +kernel
theorem dX9_fitsLast_55 : decode cX9_fitsLast 55 = .ok (.iconst 3, 1) := by decide +kernel
theorem dX9_fitsLast_56 : decode cX9_fitsLast 56 = .ok (.invokevirtual 66, 3) := by decide +kernel
theorem dX9_fitsLast_59 : decode cX9_fitsLast 59 = .ok (.aload_n 3, 1) := by decide +kernel
theorem dX9_fitsLast_60 : decode cX9_fitsLast 60 = .ok (.getfield 78, 3) := by decide +kernel
theorem dX9_fitsLast_63 : decode cX9_fitsLast 63 = .ok (.if_icmp .ne 7, 3) := by decide +kernel
theorem dX9_fitsLast_66 : decode cX9_fitsLast 66 = .ok (.iconst 1, 1) := by decide +kernel
theorem dX9_fitsLast_67 : decode cX9_fitsLast 67 = .ok (.goto 4, 3) := by decide +kernel
theorem dX9_fitsLast_70 : decode cX9_fitsLast 70 = .ok (.iconst 0, 1) := by decide +kernel
theorem dX9_fitsLast_71 : decode cX9_fitsLast 71 = .ok (.ireturn, 1) := by decide +kernel
set_option maxHeartbeats 4000000 in
set_option maxRecDepth 100000 in
theorem m_X9_fitsLast (l : Launch) {Z : pZ} (S : pSh Z) {h : pH} (I : Iv Z h) (offset : Int32) (texture : Int32) (o2 : Nat) (ho2 : pIs Z o2 2) (K : pSk Z) : pMet l yX9_fitsLast cX9_fitsLast 4 (some .boolean) 3 0 0 64 Z h [.ref (zB Z + 129), .int offset, .int texture, .ref (zB Z + o2)] (pQi Z (fun r Z1 h1 => Z = Z1 ∧ Iv Z h1 ∧ agrD [] h h1 ∧ (r.toInt = 0 ∨ r.toInt = 1))) := by
  refine pOfW (lv := [(0, .ref (zB Z + 129)), (1, .int offset), (2, .int texture), (3, .ref (zB Z + o2))]) (by decide) (Nat.le_of_ble_eq_true rfl) rfl ?_
  intro p e s m below meth c ls M hr hlk hnm V hl
  have hx := M.1.1
  have hb := M.1.2.1
  have A : agrD [] h h := agrD.rf
  have J_71 : ∀ (y71_0 : Int32) (hJ : pH) (H : Heap) (locs : List Loc) (ls : Array Slot), pV Z hJ s.heap H locs → Iv Z hJ → agrD [] h hJ → lv_has ls 4 [(0, .ref (zB Z + 129)), (1, .int offset), (2, .int texture), (3, .ref (zB Z + o2))] → (0 ≤ y71_0.toInt ∧ y71_0.toInt ≤ 1) → W p l e (pRm 3 0 0 64) s m ([.ref (zB Z + 129), .int offset, .int texture, .ref (zB Z + o2)] : List Value).toArray below meth c H locs 0 0 (MQ below (pQi Z (fun r Z1 h1 => Z = Z1 ∧ Iv Z h1 ∧ agrD [] h h1 ∧ (r.toInt = 0 ∨ r.toInt = 1))) ([.ref (zB Z + 129), .int offset, .int texture, .ref (zB Z + o2)] : List Value).toArray s 0 0 (pA (zB Z))) (F0 m 71 ls [.int y71_0]) := by
    intro y71_0 hJ H locs ls V I A hl gs_71_0
    exact pe_i M V rfl rfl hr hlk (pn_z (pi_z (by omega))).1 ⟨rfl, I, A.wk (by decide), by omega⟩ ⟨Nat.le_refl _, Nat.le_refl _⟩ dX9_fitsLast_71
  have J_70 : ∀ (hJ : pH) (H : Heap) (locs : List Loc) (ls : Array Slot), pV Z hJ s.heap H locs → Iv Z hJ → agrD [] h hJ → lv_has ls 4 [(0, .ref (zB Z + 129)), (1, .int offset), (2, .int texture), (3, .ref (zB Z + o2))] → W p l e (pRm 3 0 0 64) s m ([.ref (zB Z + 129), .int offset, .int texture, .ref (zB Z + o2)] : List Value).toArray below meth c H locs 0 0 (MQ below (pQi Z (fun r Z1 h1 => Z = Z1 ∧ Iv Z h1 ∧ agrD [] h h1 ∧ (r.toInt = 0 ∨ r.toInt = 1))) ([.ref (zB Z + 129), .int offset, .int texture, .ref (zB Z + o2)] : List Value).toArray s 0 0 (pA (zB Z))) (F0 m 70 ls []) := by
    intro hJ H locs ls V I A hl
    refine lv_iconst (v := 0) hx hb dX9_fitsLast_70 (by decide) ?_
    have k_0 : (0 : Int32).toInt = 0 := rfl
    exact J_71 (0 : Int32) _ _ _ _ V I (A.wk (by decide)) (lv_sub hl [0, 1, 2, 3] rfl) (by omega) 
  refine lv_aload_n hx hb dX9_fitsLast_0 rfl (lv_at hl 0 rfl) ?_
  refine lv_iconst (v := 5) hx hb dX9_fitsLast_1 (by decide) ?_
  have k_5 : (5 : Int32).toInt = 5 := rfl
  refine pk_i (pr_V M V (m_X9_lastPart l S I (5 : Int32) K (by omega)) km_X9_lastPart (c_is_129 S) pC9 lkM_X9_66 rfl hl.1 rfl (Nat.le_of_ble_eq_true rfl) ⟨Nat.le_of_ble_eq_true rfl, Nat.le_of_ble_eq_true rfl⟩ ⟨Nat.le_of_ble_eq_true rfl, Nat.le_of_ble_eq_true rfl⟩ dX9_fitsLast_2) V (fun r1 Zr1 hr1 H locs pr1 _ _ V => ?_)
  obtain ⟨rfl, I, pA_r1⟩ := pr1
  have A := A.tr pA_r1 (by decide)
  refine lv_iload_n hx hb dX9_fitsLast_5 rfl (lv_at hl 1 rfl) ?_
  refine lv_icmp_ne (tgt := 70) hx hb dX9_fitsLast_6 (by decide) (fun c_6 => ?_) (fun c_6 => ?_)
  · skip
    have c_6 := pi_ne c_6
    exact J_70 _ _ _ _ V I (A.wk (by decide)) (lv_sub hl [0, 1, 2, 3] rfl) 
  · skip
    have c_6 := pi_eq.mp c_6
    refine lv_aload_n hx hb dX9_fitsLast_9 rfl (lv_at hl 0 rfl) ?_
    refine lv_iconst (v := 4) hx hb dX9_fitsLast_10 (by decide) ?_
    have k_4 : (4 : Int32).toInt = 4 := rfl
    refine pk_i (pr_V M V (m_X9_lastPart l S I (4 : Int32) K (by omega)) km_X9_lastPart (c_is_129 S) pC9 lkM_X9_66 rfl hl.1 rfl (Nat.le_of_ble_eq_true rfl) ⟨Nat.le_of_ble_eq_true rfl, Nat.le_of_ble_eq_true rfl⟩ ⟨Nat.le_of_ble_eq_true rfl, Nat.le_of_ble_eq_true rfl⟩ dX9_fitsLast_11) V (fun r2 Zr2 hr2 H locs pr2 _ _ V => ?_)
    obtain ⟨rfl, I, pA_r2⟩ := pr2
    have A := A.tr pA_r2 (by decide)
    refine lv_iload_n hx hb dX9_fitsLast_14 rfl (lv_at hl 2 rfl) ?_
    refine lv_icmp_ne (tgt := 70) hx hb dX9_fitsLast_15 (by decide) (fun c_15 => ?_) (fun c_15 => ?_)
    · skip
      have c_15 := pi_ne c_15
      exact J_70 _ _ _ _ V I (A.wk (by decide)) (lv_sub hl [0, 1, 2, 3] rfl) 
    · skip
      have c_15 := pi_eq.mp c_15
      refine lv_aload_n hx hb dX9_fitsLast_18 rfl (lv_at hl 0 rfl) ?_
      refine lv_iconst (v := 0) hx hb dX9_fitsLast_19 (by decide) ?_
      have k_0 : (0 : Int32).toInt = 0 := rfl
      refine pk_i (pr_V M V (m_X9_lastPart l S I (0 : Int32) K (by omega)) km_X9_lastPart (c_is_129 S) pC9 lkM_X9_66 rfl hl.1 rfl (Nat.le_of_ble_eq_true rfl) ⟨Nat.le_of_ble_eq_true rfl, Nat.le_of_ble_eq_true rfl⟩ ⟨Nat.le_of_ble_eq_true rfl, Nat.le_of_ble_eq_true rfl⟩ dX9_fitsLast_20) V (fun r3 Zr3 hr3 H locs pr3 _ _ V => ?_)
      obtain ⟨rfl, I, pA_r3⟩ := pr3
      have A := A.tr pA_r3 (by decide)
      refine lv_aload_n hx hb dX9_fitsLast_23 rfl (lv_at hl 3 rfl) ?_
      refine pg_i M V 2 0 ho2 pC2 fk2_0 lkF_X9_69 dX9_fitsLast_24 ?_
      refine lv_topi (fun v4 ev4 => ?_)
      refine lv_icmp_ne (tgt := 70) hx hb dX9_fitsLast_27 (by decide) (fun c_27 => ?_) (fun c_27 => ?_)
      · skip
        have c_27 := pi_ne c_27
        exact J_70 _ _ _ _ V I (A.wk (by decide)) (lv_sub hl [0, 1, 2, 3] rfl) 
      · skip
        have c_27 := pi_eq.mp c_27
        refine lv_aload_n hx hb dX9_fitsLast_30 rfl (lv_at hl 0 rfl) ?_
        refine lv_iconst (v := 1) hx hb dX9_fitsLast_31 (by decide) ?_
        have k_1 : (1 : Int32).toInt = 1 := rfl
        refine pk_i (pr_V M V (m_X9_lastPart l S I (1 : Int32) K (by omega)) km_X9_lastPart (c_is_129 S) pC9 lkM_X9_66 rfl hl.1 rfl (Nat.le_of_ble_eq_true rfl) ⟨Nat.le_of_ble_eq_true rfl, Nat.le_of_ble_eq_true rfl⟩ ⟨Nat.le_of_ble_eq_true rfl, Nat.le_of_ble_eq_true rfl⟩ dX9_fitsLast_32) V (fun r5 Zr5 hr5 H locs pr5 _ _ V => ?_)
        obtain ⟨rfl, I, pA_r5⟩ := pr5
        have A := A.tr pA_r5 (by decide)
        refine lv_aload_n hx hb dX9_fitsLast_35 rfl (lv_at hl 3 rfl) ?_
        refine pg_i M V 2 1 ho2 pC2 fk2_1 lkF_X9_72 dX9_fitsLast_36 ?_
        refine lv_topi (fun v6 ev6 => ?_)
        refine lv_icmp_ne (tgt := 70) hx hb dX9_fitsLast_39 (by decide) (fun c_39 => ?_) (fun c_39 => ?_)
        · skip
          have c_39 := pi_ne c_39
          exact J_70 _ _ _ _ V I (A.wk (by decide)) (lv_sub hl [0, 1, 2, 3] rfl) 
        · skip
          have c_39 := pi_eq.mp c_39
          refine lv_aload_n hx hb dX9_fitsLast_42 rfl (lv_at hl 0 rfl) ?_
          refine lv_iconst (v := 2) hx hb dX9_fitsLast_43 (by decide) ?_
          have k_2 : (2 : Int32).toInt = 2 := rfl
          refine pk_i (pr_V M V (m_X9_lastPart l S I (2 : Int32) K (by omega)) km_X9_lastPart (c_is_129 S) pC9 lkM_X9_66 rfl hl.1 rfl (Nat.le_of_ble_eq_true rfl) ⟨Nat.le_of_ble_eq_true rfl, Nat.le_of_ble_eq_true rfl⟩ ⟨Nat.le_of_ble_eq_true rfl, Nat.le_of_ble_eq_true rfl⟩ dX9_fitsLast_44) V (fun r7 Zr7 hr7 H locs pr7 _ _ V => ?_)
          obtain ⟨rfl, I, pA_r7⟩ := pr7
          have A := A.tr pA_r7 (by decide)
          refine lv_aload_n hx hb dX9_fitsLast_47 rfl (lv_at hl 3 rfl) ?_
          refine pg_i M V 2 2 ho2 pC2 fk2_2 lkF_X9_75 dX9_fitsLast_48 ?_
          refine lv_topi (fun v8 ev8 => ?_)
          refine lv_icmp_ne (tgt := 70) hx hb dX9_fitsLast_51 (by decide) (fun c_51 => ?_) (fun c_51 => ?_)
          · skip
            have c_51 := pi_ne c_51
            exact J_70 _ _ _ _ V I (A.wk (by decide)) (lv_sub hl [0, 1, 2, 3] rfl) 
          · skip
            have c_51 := pi_eq.mp c_51
            refine lv_aload_n hx hb dX9_fitsLast_54 rfl (lv_at hl 0 rfl) ?_
            refine lv_iconst (v := 3) hx hb dX9_fitsLast_55 (by decide) ?_
            have k_3 : (3 : Int32).toInt = 3 := rfl
            refine pk_i (pr_V M V (m_X9_lastPart l S I (3 : Int32) K (by omega)) km_X9_lastPart (c_is_129 S) pC9 lkM_X9_66 rfl hl.1 rfl (Nat.le_of_ble_eq_true rfl) ⟨Nat.le_of_ble_eq_true rfl, Nat.le_of_ble_eq_true rfl⟩ ⟨Nat.le_of_ble_eq_true rfl, Nat.le_of_ble_eq_true rfl⟩ dX9_fitsLast_56) V (fun r9 Zr9 hr9 H locs pr9 _ _ V => ?_)
            obtain ⟨rfl, I, pA_r9⟩ := pr9
            have A := A.tr pA_r9 (by decide)
            refine lv_aload_n hx hb dX9_fitsLast_59 rfl (lv_at hl 3 rfl) ?_
            refine pg_i M V 2 3 ho2 pC2 fk2_3 lkF_X9_78 dX9_fitsLast_60 ?_
            refine lv_topi (fun v10 ev10 => ?_)
            refine lv_icmp_ne (tgt := 70) hx hb dX9_fitsLast_63 (by decide) (fun c_63 => ?_) (fun c_63 => ?_)
            · skip
              have c_63 := pi_ne c_63
              exact J_70 _ _ _ _ V I (A.wk (by decide)) (lv_sub hl [0, 1, 2, 3] rfl) 
            · skip
              have c_63 := pi_eq.mp c_63
              refine lv_iconst (v := 1) hx hb dX9_fitsLast_66 (by decide) ?_
              refine lv_goto (tgt := 71) hx hb dX9_fitsLast_67 (by decide) ?_
              exact J_71 (1 : Int32) _ _ _ _ V I (A.wk (by decide)) (lv_sub hl [0, 1, 2, 3] rfl) (by omega) 
theorem dX9_addToLast_0 : decode cX9_addToLast 0 = .ok (.aload_n 0, 1) := by decide +kernel
theorem dX9_addToLast_1 : decode cX9_addToLast 1 = .ok (.getfield 22, 3) := by decide +kernel
theorem dX9_addToLast_4 : decode cX9_addToLast 4 = .ok (.iconst 1, 1) := by decide +kernel
theorem dX9_addToLast_5 : decode cX9_addToLast 5 = .ok (.isub, 1) := by decide +kernel
theorem dX9_addToLast_6 : decode cX9_addToLast 6 = .ok (.bipush 8, 2) := by decide +kernel
theorem dX9_addToLast_8 : decode cX9_addToLast 8 = .ok (.imul, 1) := by decide +kernel
theorem dX9_addToLast_9 : decode cX9_addToLast 9 = .ok (.bipush 7, 2) := by decide +kernel
theorem dX9_addToLast_11 : decode cX9_addToLast 11 = .ok (.iadd, 1) := by decide +kernel
theorem dX9_addToLast_12 : decode cX9_addToLast 12 = .ok (.istore_n 1, 1) := by decide +kernel
theorem dX9_addToLast_13 : decode cX9_addToLast 13 = .ok (.iload_n 1, 1) := by decide +kernel
theorem dX9_addToLast_14 : decode cX9_addToLast 14 = .ok (.iconst 0, 1) := by decide +kernel
theorem dX9_addToLast_15 : decode cX9_addToLast 15 = .ok (.aload_n 0, 1) := by decide +kernel
theorem dX9_addToLast_16 : decode cX9_addToLast 16 = .ok (.getfield 15, 3) := by decide +kernel
theorem dX9_addToLast_19 : decode cX9_addToLast 19 = .ok (.arraylength, 1) := by decide +kernel
theorem dX9_addToLast_20 : decode cX9_addToLast 20 = .ok (.iconst 1, 1) := by decide +kernel
theorem dX9_addToLast_21 : decode cX9_addToLast 21 = .ok (.isub, 1) := by decide +kernel
theorem dX9_addToLast_22 : decode cX9_addToLast 22 = .ok (.invokestatic 62, 3) := by decide +kernel
theorem dX9_addToLast_25 : decode cX9_addToLast 25 = .ok (.ifCond .eq 14, 3) := by decide +kernel
theorem dX9_addToLast_28 : decode cX9_addToLast 28 = .ok (.aload_n 0, 1) := by decide +kernel
theorem dX9_addToLast_29 : decode cX9_addToLast 29 = .ok (.getfield 15, 3) := by decide +kernel
theorem dX9_addToLast_32 : decode cX9_addToLast 32 = .ok (.iload_n 1, 1) := by decide +kernel
theorem dX9_addToLast_33 : decode cX9_addToLast 33 = .ok (.dup2, 1) := by decide +kernel
theorem dX9_addToLast_34 : decode cX9_addToLast 34 = .ok (.iaload, 1) := by decide +kernel
theorem dX9_addToLast_35 : decode cX9_addToLast 35 = .ok (.bipush 6, 2) := by decide +kernel
theorem dX9_addToLast_37 : decode cX9_addToLast 37 = .ok (.iadd, 1) := by decide +kernel
theorem dX9_addToLast_38 : decode cX9_addToLast 38 = .ok (.iastore, 1) := by decide +kernel
theorem dX9_addToLast_39 : decode cX9_addToLast 39 = .ok (.return_, 1) := by decide +kernel
set_option maxHeartbeats 4000000 in
set_option maxRecDepth 100000 in
theorem m_X9_addToLast (l : Launch) {Z : pZ} (S : pSh Z) {h : pH} (I : Iv Z h) (K : pSk Z) : pMet l yX9_addToLast cX9_addToLast 2 none 1 0 0 22 Z h [.ref (zB Z + 129)] (pQv Z (fun Z1 h1 => Z = Z1 ∧ Iv Z h1 ∧ agrD [] h h1)) := by
  refine pOfW (lv := [(0, .ref (zB Z + 129))]) (by decide) (Nat.le_of_ble_eq_true rfl) rfl ?_
  intro p e s m below meth c ls M hr hlk hnm V hl
  have hx := M.1.1
  have hb := M.1.2.1
  have A : agrD [] h h := agrD.rf
  have J_39 : ∀ (x39_1 : Int32) (hJ : pH) (H : Heap) (locs : List Loc) (ls : Array Slot), pV Z hJ s.heap H locs → Iv Z hJ → agrD [] h hJ → lv_has ls 2 [(0, .ref (zB Z + 129)), (1, .int x39_1)] → (-1 ≤ x39_1.toInt ∧ x39_1.toInt ≤ 71999) → W p l e (pRm 1 0 0 22) s m ([.ref (zB Z + 129)] : List Value).toArray below meth c H locs 0 0 (MQ below (pQv Z (fun Z1 h1 => Z = Z1 ∧ Iv Z h1 ∧ agrD [] h h1)) ([.ref (zB Z + 129)] : List Value).toArray s 0 0 (pA (zB Z))) (F0 m 39 ls []) := by
    intro x39_1 hJ H locs ls V I A hl g_39_1
    exact pe_v M V rfl rfl hr hlk ⟨rfl, I, A.wk (by decide)⟩ ⟨Nat.le_refl _, Nat.le_refl _⟩ dX9_addToLast_39
  refine lv_aload_n hx hb dX9_addToLast_0 rfl (lv_at hl 0 rfl) ?_
  refine pg_i M V 9 3 (c_is_129 S) pC9 fk9_3 lkF_X9_22 dX9_addToLast_1 ?_
  refine lv_topi (fun v1 ev1 => ?_)
  have tv1 : 0 ≤ v1.toInt ∧ v1.toInt ≤ 9000 := by rw [ev1]; exact I.get (c_is_129 S) 3
  refine lv_iconst (v := 1) hx hb dX9_addToLast_4 (by decide) ?_
  refine lv_isub hx hb dX9_addToLast_5 ?_
  refine lv_topi (fun v2 ev2 => ?_)
  refine lv_bipush (v := 8) hx hb dX9_addToLast_6 (by decide) ?_
  refine lv_imul hx hb dX9_addToLast_8 ?_
  refine lv_topi (fun v3 ev3 => ?_)
  refine lv_bipush (v := 7) hx hb dX9_addToLast_9 (by decide) ?_
  refine lv_iadd hx hb dX9_addToLast_11 ?_
  refine lv_topi (fun v4 ev4 => ?_)
  refine lv_istore_n (lv' := [(1, .int v4), (0, .ref (zB Z + 129))]) hx hb dX9_addToLast_12 rfl hl (by decide) rfl (fun ls hl => ?_)
  refine lv_iload_n hx hb dX9_addToLast_13 rfl (lv_at hl 0 rfl) ?_
  refine lv_iconst (v := 0) hx hb dX9_addToLast_14 (by decide) ?_
  refine lv_aload_n hx hb dX9_addToLast_15 rfl (lv_at hl 1 rfl) ?_
  refine pg_r M V 9 1 (c_is_129 S) pC9 fk9_1 K.2.1.1 lkF_X9_15 dX9_addToLast_16 ?_
  refine pa_len M V K.2.1.2.1 dX9_addToLast_19 ?_
  refine lv_topi (fun v5 ev5 => ?_)
  have nv5 := K.2.1.2.2.2
  have tv5 : v5.toInt = (zN Z (qA Z 129 1) : Int) := by rw [ev5]; exact pi_len (by omega)
  refine lv_iconst (v := 1) hx hb dX9_addToLast_20 (by decide) ?_
  refine lv_isub hx hb dX9_addToLast_21 ?_
  refine lv_topi (fun v6 ev6 => ?_)
  have k_1 : (1 : Int32).toInt = 1 := rfl
  have tv2 : v2.toInt = v1.toInt - 1 := by rw [ev2]; have z9 := pi_sub (x := v1) (y := (1 : Int32)); rw [k_1] at z9; exact z9 (by omega)
  have k_8 : (8 : Int32).toInt = 8 := rfl
  have tv3 : v3.toInt = v2.toInt * 8 := by rw [ev3]; have z9 := pi_mul (x := v2) (y := (8 : Int32)); rw [k_8] at z9; exact z9 (by omega)
  have k_7 : (7 : Int32).toInt = 7 := rfl
  have tv4 : v4.toInt = v3.toInt + 7 := by rw [ev4]; have z9 := pi_add (x := v3) (y := (7 : Int32)); rw [k_7] at z9; exact z9 (by omega)
  have k_0 : (0 : Int32).toInt = 0 := rfl
  have tv6 : v6.toInt = v5.toInt - 1 := by rw [ev6]; have z9 := pi_sub (x := v5) (y := (1 : Int32)); rw [k_1] at z9; exact z9 (by omega)
  refine pk_i (pr_SN M V (m_X11_isWithin l (Z := Z) (h := _) v4 (0 : Int32) v6) km_X11_isWithin lkN_X9_62 rfl hl.1 rfl (Nat.le_of_ble_eq_true rfl) ⟨Nat.le_of_ble_eq_true rfl, Nat.le_of_ble_eq_true rfl⟩ ⟨Nat.le_of_ble_eq_true rfl, Nat.le_of_ble_eq_true rfl⟩ dX9_addToLast_22) V (fun r7 Zr7 hr7 H locs pr7 _ _ V => ?_)
  obtain ⟨rfl, rfl, fr7_0⟩ := pr7
  refine lv_if_eq (tgt := 39) hx hb dX9_addToLast_25 (by decide) (fun c_25 => ?_) (fun c_25 => ?_)
  · skip
    have c_25 := pi_eq.mp c_25
    exact J_39 v4 _ _ _ _ V I (A.wk (by decide)) (lv_sub hl [1, 0] rfl) (by omega) 
  · skip
    have c_25 := pi_ne c_25
    refine lv_aload_n hx hb dX9_addToLast_28 rfl (lv_at hl 1 rfl) ?_
    refine pg_r M V 9 1 (c_is_129 S) pC9 fk9_1 K.2.1.1 lkF_X9_15 dX9_addToLast_29 ?_
    refine lv_iload_n hx hb dX9_addToLast_32 rfl (lv_at hl 0 rfl) ?_
    refine lv_dup2_11 hx hb dX9_addToLast_33 rfl rfl ?_
    refine pa_i M V K.2.1.2.1 (pi_in (by omega)) dX9_addToLast_34 ?_
    refine lv_topi (fun v8 ev8 => ?_)
    refine lv_bipush (v := 6) hx hb dX9_addToLast_35 (by decide) ?_
    refine lv_iadd hx hb dX9_addToLast_37 ?_
    refine lv_topi (fun v9 ev9 => ?_)
    refine ps_i M V K.2.1.2.1 (pi_in (by omega)) dX9_addToLast_38 (fun H locs V => ?_)
    have A := A.upN (k := v4.toNatClampNeg) (v := v9) K.2.1.2.2.1.1
    have I := I.upN (k := v4.toNatClampNeg) (v := v9) K.2.1.2.1 K.2.1.2.2.1
    exact J_39 v4 _ _ _ _ V I (A.wk (by decide)) (lv_sub hl [1, 0] rfl) (by omega) 
theorem dX9_shiftCommands_0 : decode cX9_shiftCommands 0 = .ok (.aload_n 0, 1) := by decide +kernel
theorem dX9_shiftCommands_1 : decode cX9_shiftCommands 1 = .ok (.getfield 22, 3) := by decide +kernel
theorem dX9_shiftCommands_4 : decode cX9_shiftCommands 4 = .ok (.istore_n 2, 1) := by decide +kernel
theorem dX9_shiftCommands_5 : decode cX9_shiftCommands 5 = .ok (.iload_n 2, 1) := by decide +kernel
theorem dX9_shiftCommands_6 : decode cX9_shiftCommands 6 = .ok (.aload_n 0, 1) := by decide +kernel
theorem dX9_shiftCommands_7 : decode cX9_shiftCommands 7 = .ok (.getfield 22, 3) := by decide +kernel
theorem dX9_shiftCommands_10 : decode cX9_shiftCommands 10 = .ok (.iload_n 1, 1) := by decide +kernel
theorem dX9_shiftCommands_11 : decode cX9_shiftCommands 11 = .ok (.iadd, 1) := by decide +kernel
theorem dX9_shiftCommands_12 : decode cX9_shiftCommands 12 = .ok (.if_icmp .ge 66, 3) := by decide +kernel
theorem dX9_shiftCommands_15 : decode cX9_shiftCommands 15 = .ok (.iload_n 2, 1) := by decide +kernel
theorem dX9_shiftCommands_16 : decode cX9_shiftCommands 16 = .ok (.bipush 8, 2) := by decide +kernel
theorem dX9_shiftCommands_18 : decode cX9_shiftCommands 18 = .ok (.imul, 1) := by decide +kernel
theorem dX9_shiftCommands_19 : decode cX9_shiftCommands 19 = .ok (.istore_n 3, 1) := by decide +kernel
theorem dX9_shiftCommands_20 : decode cX9_shiftCommands 20 = .ok (.iload_n 3, 1) := by decide +kernel
theorem dX9_shiftCommands_21 : decode cX9_shiftCommands 21 = .ok (.iconst 0, 1) := by decide +kernel
theorem dX9_shiftCommands_22 : decode cX9_shiftCommands 22 = .ok (.aload_n 0, 1) := by decide +kernel
theorem dX9_shiftCommands_23 : decode cX9_shiftCommands 23 = .ok (.getfield 15, 3) := by decide +kernel
theorem dX9_shiftCommands_26 : decode cX9_shiftCommands 26 = .ok (.arraylength, 1) := by decide +kernel
theorem dX9_shiftCommands_27 : decode cX9_shiftCommands 27 = .ok (.bipush 8, 2) := by decide +kernel
theorem dX9_shiftCommands_29 : decode cX9_shiftCommands 29 = .ok (.isub, 1) := by decide +kernel
theorem dX9_shiftCommands_30 : decode cX9_shiftCommands 30 = .ok (.invokestatic 62, 3) := by decide +kernel
theorem dX9_shiftCommands_33 : decode cX9_shiftCommands 33 = .ok (.ifCond .eq 39, 3) := by decide +kernel
theorem dX9_shiftCommands_36 : decode cX9_shiftCommands 36 = .ok (.aload_n 0, 1) := by decide +kernel
theorem dX9_shiftCommands_37 : decode cX9_shiftCommands 37 = .ok (.getfield 15, 3) := by decide +kernel
theorem dX9_shiftCommands_40 : decode cX9_shiftCommands 40 = .ok (.iload_n 3, 1) := by decide +kernel
theorem dX9_shiftCommands_41 : decode cX9_shiftCommands 41 = .ok (.iconst 5, 1) := by decide +kernel
theorem dX9_shiftCommands_42 : decode cX9_shiftCommands 42 = .ok (.iadd, 1) := by decide +kernel
theorem dX9_shiftCommands_43 : decode cX9_shiftCommands 43 = .ok (.dup2, 1) := by decide +kernel
theorem dX9_shiftCommands_44 : decode cX9_shiftCommands 44 = .ok (.iaload, 1) := by decide +kernel
theorem dX9_shiftCommands_45 : decode cX9_shiftCommands 45 = .ok (.aload_n 0, 1) := by decide +kernel
theorem dX9_shiftCommands_46 : decode cX9_shiftCommands 46 = .ok (.getfield 18, 3) := by decide +kernel
theorem dX9_shiftCommands_49 : decode cX9_shiftCommands 49 = .ok (.iconst 4, 1) := by decide +kernel
theorem dX9_shiftCommands_50 : decode cX9_shiftCommands 50 = .ok (.imul, 1) := by decide +kernel
theorem dX9_shiftCommands_51 : decode cX9_shiftCommands 51 = .ok (.iadd, 1) := by decide +kernel
theorem dX9_shiftCommands_52 : decode cX9_shiftCommands 52 = .ok (.iastore, 1) := by decide +kernel
theorem dX9_shiftCommands_53 : decode cX9_shiftCommands 53 = .ok (.aload_n 0, 1) := by decide +kernel
theorem dX9_shiftCommands_54 : decode cX9_shiftCommands 54 = .ok (.getfield 15, 3) := by decide +kernel
theorem dX9_shiftCommands_57 : decode cX9_shiftCommands 57 = .ok (.iload_n 3, 1) := by decide +kernel
theorem dX9_shiftCommands_58 : decode cX9_shiftCommands 58 = .ok (.bipush 6, 2) := by decide +kernel
theorem dX9_shiftCommands_60 : decode cX9_shiftCommands 60 = .ok (.iadd, 1) := by decide +kernel
theorem dX9_shiftCommands_61 : decode cX9_shiftCommands 61 = .ok (.dup2, 1) := by decide +kernel
theorem dX9_shiftCommands_62 : decode cX9_shiftCommands 62 = .ok (.iaload, 1) := by decide +kernel
theorem dX9_shiftCommands_63 : decode cX9_shiftCommands 63 = .ok (.aload_n 0, 1) := by decide +kernel
theorem dX9_shiftCommands_64 : decode cX9_shiftCommands 64 = .ok (.getfield 18, 3) := by decide +kernel
theorem dX9_shiftCommands_67 : decode cX9_shiftCommands 67 = .ok (.bipush 6, 2) := by decide +kernel
theorem dX9_shiftCommands_69 : decode cX9_shiftCommands 69 = .ok (.imul, 1) := by decide +kernel
theorem dX9_shiftCommands_70 : decode cX9_shiftCommands 70 = .ok (.iadd, 1) := by decide +kernel
theorem dX9_shiftCommands_71 : decode cX9_shiftCommands 71 = .ok (.iastore, 1) := by decide +kernel
theorem dX9_shiftCommands_72 : decode cX9_shiftCommands 72 = .ok (.iinc 2 1, 3) := by decide +kernel
theorem dX9_shiftCommands_75 : decode cX9_shiftCommands 75 = .ok (.goto (-70), 3) := by decide +kernel
theorem dX9_shiftCommands_78 : decode cX9_shiftCommands 78 = .ok (.return_, 1) := by decide +kernel
set_option maxHeartbeats 4000000 in
set_option maxRecDepth 100000 in
theorem m_X9_shiftCommands (l : Launch) {Z : pZ} (S : pSh Z) {h : pH} (I : Iv Z h) (nc : Int32) (K : pSk Z) (hnc : 0 ≤ nc.toInt ∧ nc.toInt ≤ 9000) : pMet l yX9_shiftCommands cX9_shiftCommands 4 none 1 0 0 22 Z h [.ref (zB Z + 132), .int nc] (pQv Z (fun Z1 h1 => Z = Z1 ∧ Iv Z h1 ∧ agrD [] h h1)) := by
  refine pOfW (lv := [(0, .ref (zB Z + 132)), (1, .int nc)]) (by decide) (Nat.le_of_ble_eq_true rfl) rfl ?_
  intro p e s m below meth c ls M hr hlk hnm V hl
  have hx := M.1.1
  have hb := M.1.2.1
  have A : agrD [] h h := agrD.rf
  have J_5 : ∀ (n9 : Nat) (x5_2 : Int32) (hJ : pH) (H : Heap) (locs : List Loc) (ls : Array Slot), pV Z hJ s.heap H locs → Iv Z hJ → agrD [] h hJ → lv_has ls 4 [(0, .ref (zB Z + 132)), (1, .int nc), (2, .int x5_2)] → (0 ≤ nc.toInt ∧ nc.toInt ≤ 9000) → (0 ≤ x5_2.toInt ∧ x5_2.toInt ≤ 18000) → (18001 - x5_2.toInt).toNat < n9 → W p l e (pRm 1 0 0 22) s m ([.ref (zB Z + 132), .int nc] : List Value).toArray below meth c H locs 0 0 (MQ below (pQv Z (fun Z1 h1 => Z = Z1 ∧ Iv Z h1 ∧ agrD [] h h1)) ([.ref (zB Z + 132), .int nc] : List Value).toArray s 0 0 (pA (zB Z))) (F0 m 5 ls []) := by
    intro n9
    induction n9 with
    | zero => intro x5_2 hJ H locs ls V I A hl g_5_1 g_5_2 hm9; exact absurd hm9 (Nat.not_lt_zero _)
    | succ n9 ih_5 =>
      intro x5_2 hJ H locs ls V I A hl g_5_1 g_5_2 hm9
      have J_72 : ∀ (x72_3 : Int32) (hJ : pH) (H : Heap) (locs : List Loc) (ls : Array Slot), pV Z hJ s.heap H locs → Iv Z hJ → agrD [] h hJ → lv_has ls 4 [(0, .ref (zB Z + 132)), (1, .int nc), (2, .int x5_2), (3, .int x72_3)] → (0 ≤ nc.toInt ∧ nc.toInt ≤ 9000) → (0 ≤ x5_2.toInt ∧ x5_2.toInt ≤ 17999) → (0 ≤ x72_3.toInt ∧ x72_3.toInt ≤ 143992) → W p l e (pRm 1 0 0 22) s m ([.ref (zB Z + 132), .int nc] : List Value).toArray below meth c H locs 0 0 (MQ below (pQv Z (fun Z1 h1 => Z = Z1 ∧ Iv Z h1 ∧ agrD [] h h1)) ([.ref (zB Z + 132), .int nc] : List Value).toArray s 0 0 (pA (zB Z))) (F0 m 72 ls []) := by
        intro x72_3 hJ H locs ls V I A hl g_72_1 g_72_2 g_72_3
        obtain ⟨v1, ev1⟩ : ∃ y : Int32, y = x5_2 + 1 := ⟨_, rfl⟩
        refine lv_iinc (v := v1) (lv' := [(2, .int v1), (0, .ref (zB Z + 132)), (1, .int nc), (3, .int x72_3)]) hx hb dX9_shiftCommands_72 hl (k := 2) rfl (by rw [ev1]; rfl) (by decide) rfl (fun ls hl => ?_)
        refine lv_goto (tgt := 5) hx hb dX9_shiftCommands_75 (by decide) ?_
        have k_1 : (1 : Int32).toInt = 1 := rfl
        have tv1 : v1.toInt = x5_2.toInt + 1 := by rw [ev1]; have z9 := pi_add (x := x5_2) (y := (1 : Int32)); rw [k_1] at z9; exact z9 (by omega)
        exact ih_5 v1 _ _ _ _ V I (A.wk (by decide)) (lv_sub hl [1, 2, 0] rfl) (by omega) (by omega) (by omega) 
      refine lv_iload_n hx hb dX9_shiftCommands_5 rfl (lv_at hl 2 rfl) ?_
      refine lv_aload_n hx hb dX9_shiftCommands_6 rfl (lv_at hl 0 rfl) ?_
      refine pg_i M V 9 3 (c_is_132 S) pC9 fk9_3 lkF_X9_22 dX9_shiftCommands_7 ?_
      refine lv_topi (fun v2 ev2 => ?_)
      have tv2 : 0 ≤ v2.toInt ∧ v2.toInt ≤ 9000 := by rw [ev2]; exact I.get (c_is_132 S) 3
      refine lv_iload_n hx hb dX9_shiftCommands_10 rfl (lv_at hl 1 rfl) ?_
      refine lv_iadd hx hb dX9_shiftCommands_11 ?_
      refine lv_topi (fun v3 ev3 => ?_)
      refine lv_icmp_ge (tgt := 78) hx hb dX9_shiftCommands_12 (by decide) (fun c_12 => ?_) (fun c_12 => ?_)
      · skip
        have tv3 : v3.toInt = v2.toInt + nc.toInt := by rw [ev3]; exact pi_add (by omega)
        have c_12 := pi_le.mp c_12
        exact pe_v M V rfl rfl hr hlk ⟨rfl, I, A.wk (by decide)⟩ ⟨Nat.le_refl _, Nat.le_refl _⟩ dX9_shiftCommands_78
      · skip
        have tv3 : v3.toInt = v2.toInt + nc.toInt := by rw [ev3]; exact pi_add (by omega)
        have c_12 := pi_le' c_12
        refine lv_iload_n hx hb dX9_shiftCommands_15 rfl (lv_at hl 2 rfl) ?_
        refine lv_bipush (v := 8) hx hb dX9_shiftCommands_16 (by decide) ?_
        refine lv_imul hx hb dX9_shiftCommands_18 ?_
        refine lv_topi (fun v4 ev4 => ?_)
        refine lv_istore_n (lv' := [(3, .int v4), (0, .ref (zB Z + 132)), (1, .int nc), (2, .int x5_2)]) hx hb dX9_shiftCommands_19 rfl hl (by decide) rfl (fun ls hl => ?_)
        refine lv_iload_n hx hb dX9_shiftCommands_20 rfl (lv_at hl 0 rfl) ?_
        refine lv_iconst (v := 0) hx hb dX9_shiftCommands_21 (by decide) ?_
        refine lv_aload_n hx hb dX9_shiftCommands_22 rfl (lv_at hl 1 rfl) ?_
        refine pg_r M V 9 1 (c_is_132 S) pC9 fk9_1 K.2.2.2.1 lkF_X9_15 dX9_shiftCommands_23 ?_
        refine pa_len M V K.2.2.2.2.1 dX9_shiftCommands_26 ?_
        refine lv_topi (fun v5 ev5 => ?_)
        have nv5 := K.2.2.2.2.2.2
        have tv5 : v5.toInt = (zN Z (qA Z 132 1) : Int) := by rw [ev5]; exact pi_len (by omega)
        refine lv_bipush (v := 8) hx hb dX9_shiftCommands_27 (by decide) ?_
        refine lv_isub hx hb dX9_shiftCommands_29 ?_
        refine lv_topi (fun v6 ev6 => ?_)
        have k_8 : (8 : Int32).toInt = 8 := rfl
        have tv4 : v4.toInt = x5_2.toInt * 8 := by rw [ev4]; have z9 := pi_mul (x := x5_2) (y := (8 : Int32)); rw [k_8] at z9; exact z9 (by omega)
        have k_0 : (0 : Int32).toInt = 0 := rfl
        have tv6 : v6.toInt = v5.toInt - 8 := by rw [ev6]; have z9 := pi_sub (x := v5) (y := (8 : Int32)); rw [k_8] at z9; exact z9 (by omega)
        refine pk_i (pr_SN M V (m_X11_isWithin l (Z := Z) (h := _) v4 (0 : Int32) v6) km_X11_isWithin lkN_X9_62 rfl hl.1 rfl (Nat.le_of_ble_eq_true rfl) ⟨Nat.le_of_ble_eq_true rfl, Nat.le_of_ble_eq_true rfl⟩ ⟨Nat.le_of_ble_eq_true rfl, Nat.le_of_ble_eq_true rfl⟩ dX9_shiftCommands_30) V (fun r7 Zr7 hr7 H locs pr7 _ _ V => ?_)
        obtain ⟨rfl, rfl, fr7_0⟩ := pr7
        refine lv_if_eq (tgt := 72) hx hb dX9_shiftCommands_33 (by decide) (fun c_33 => ?_) (fun c_33 => ?_)
        · skip
          have c_33 := pi_eq.mp c_33
          exact J_72 v4 _ _ _ _ V I (A.wk (by decide)) (lv_sub hl [1, 2, 3, 0] rfl) (by omega) (by omega) (by omega) 
        · skip
          have c_33 := pi_ne c_33
          refine lv_aload_n hx hb dX9_shiftCommands_36 rfl (lv_at hl 1 rfl) ?_
          refine pg_r M V 9 1 (c_is_132 S) pC9 fk9_1 K.2.2.2.1 lkF_X9_15 dX9_shiftCommands_37 ?_
          refine lv_iload_n hx hb dX9_shiftCommands_40 rfl (lv_at hl 0 rfl) ?_
          refine lv_iconst (v := 5) hx hb dX9_shiftCommands_41 (by decide) ?_
          refine lv_iadd hx hb dX9_shiftCommands_42 ?_
          refine lv_topi (fun v8 ev8 => ?_)
          refine lv_dup2_11 hx hb dX9_shiftCommands_43 rfl rfl ?_
          have k_5 : (5 : Int32).toInt = 5 := rfl
          have tv8 : v8.toInt = v4.toInt + 5 := by rw [ev8]; have z9 := pi_add (x := v4) (y := (5 : Int32)); rw [k_5] at z9; exact z9 (by omega)
          refine pa_i M V K.2.2.2.2.1 (pi_in (by omega)) dX9_shiftCommands_44 ?_
          refine lv_topi (fun v9 ev9 => ?_)
          refine lv_aload_n hx hb dX9_shiftCommands_45 rfl (lv_at hl 1 rfl) ?_
          refine pg_i M V 9 2 (c_is_132 S) pC9 fk9_2 lkF_X9_18 dX9_shiftCommands_46 ?_
          refine lv_topi (fun v10 ev10 => ?_)
          have tv10 : 0 ≤ v10.toInt ∧ v10.toInt ≤ 9000 := by rw [ev10]; exact I.get (c_is_132 S) 2
          refine lv_iconst (v := 4) hx hb dX9_shiftCommands_49 (by decide) ?_
          refine lv_imul hx hb dX9_shiftCommands_50 ?_
          refine lv_topi (fun v11 ev11 => ?_)
          refine lv_iadd hx hb dX9_shiftCommands_51 ?_
          refine lv_topi (fun v12 ev12 => ?_)
          refine ps_i M V K.2.2.2.2.1 (pi_in (by omega)) dX9_shiftCommands_52 (fun H locs V => ?_)
          have A := A.upN (k := v8.toNatClampNeg) (v := v12) K.2.2.2.2.2.1.1
          have I := I.upN (k := v8.toNatClampNeg) (v := v12) K.2.2.2.2.1 K.2.2.2.2.2.1
          refine lv_aload_n hx hb dX9_shiftCommands_53 rfl (lv_at hl 1 rfl) ?_
          refine pg_r M V 9 1 (c_is_132 S) pC9 fk9_1 K.2.2.2.1 lkF_X9_15 dX9_shiftCommands_54 ?_
          refine lv_iload_n hx hb dX9_shiftCommands_57 rfl (lv_at hl 0 rfl) ?_
          refine lv_bipush (v := 6) hx hb dX9_shiftCommands_58 (by decide) ?_
          refine lv_iadd hx hb dX9_shiftCommands_60 ?_
          refine lv_topi (fun v13 ev13 => ?_)
          refine lv_dup2_11 hx hb dX9_shiftCommands_61 rfl rfl ?_
          have k_6 : (6 : Int32).toInt = 6 := rfl
          have tv13 : v13.toInt = v4.toInt + 6 := by rw [ev13]; have z9 := pi_add (x := v4) (y := (6 : Int32)); rw [k_6] at z9; exact z9 (by omega)
          refine pa_i M V K.2.2.2.2.1 (pi_in (by omega)) dX9_shiftCommands_62 ?_
          refine lv_topi (fun v14 ev14 => ?_)
          refine lv_aload_n hx hb dX9_shiftCommands_63 rfl (lv_at hl 1 rfl) ?_
          refine pg_i M V 9 2 (c_is_132 S) pC9 fk9_2 lkF_X9_18 dX9_shiftCommands_64 ?_
          refine lv_topi (fun v15 ev15 => ?_)
          have tv15 : 0 ≤ v15.toInt ∧ v15.toInt ≤ 9000 := by rw [ev15]; exact I.get (c_is_132 S) 2
          refine lv_bipush (v := 6) hx hb dX9_shiftCommands_67 (by decide) ?_
          refine lv_imul hx hb dX9_shiftCommands_69 ?_
          refine lv_topi (fun v16 ev16 => ?_)
          refine lv_iadd hx hb dX9_shiftCommands_70 ?_
          refine lv_topi (fun v17 ev17 => ?_)
          refine ps_i M V K.2.2.2.2.1 (pi_in (by omega)) dX9_shiftCommands_71 (fun H locs V => ?_)
          have A := A.upN (k := v13.toNatClampNeg) (v := v17) K.2.2.2.2.2.1.1
          have I := I.upN (k := v13.toNatClampNeg) (v := v17) K.2.2.2.2.1 K.2.2.2.2.2.1
          exact J_72 v4 _ _ _ _ V I (A.wk (by decide)) (lv_sub hl [1, 2, 3, 0] rfl) (by omega) (by omega) (by omega) 
  refine lv_aload_n hx hb dX9_shiftCommands_0 rfl (lv_at hl 0 rfl) ?_
  refine pg_i M V 9 3 (c_is_132 S) pC9 fk9_3 lkF_X9_22 dX9_shiftCommands_1 ?_
  refine lv_topi (fun v18 ev18 => ?_)
  have tv18 : 0 ≤ v18.toInt ∧ v18.toInt ≤ 9000 := by rw [ev18]; exact I.get (c_is_132 S) 3
  refine lv_istore_n (lv' := [(2, .int v18), (0, .ref (zB Z + 132)), (1, .int nc)]) hx hb dX9_shiftCommands_4 rfl hl (by decide) rfl (fun ls hl => ?_)
  exact J_5 _ v18 _ _ _ _ V I (A.wk (by decide)) (lv_sub hl [1, 2, 0] rfl) (by omega) (by omega) (Nat.lt_succ_self _) 
theorem dX9_commandPart_0 : decode cX9_commandPart 0 = .ok (.iload_n 1, 1) := by decide +kernel
theorem dX9_commandPart_1 : decode cX9_commandPart 1 = .ok (.iconst 0, 1) := by decide +kernel
theorem dX9_commandPart_2 : decode cX9_commandPart 2 = .ok (.aload_n 0, 1) := by decide +kernel
theorem dX9_commandPart_3 : decode cX9_commandPart 3 = .ok (.getfield 22, 3) := by decide +kernel
theorem dX9_commandPart_6 : decode cX9_commandPart 6 = .ok (.iconst 1, 1) := by decide +kernel
theorem dX9_commandPart_7 : decode cX9_commandPart 7 = .ok (.isub, 1) := by decide +kernel
theorem dX9_commandPart_8 : decode cX9_commandPart 8 = .ok (.invokestatic 62, 3) := by decide +kernel
theorem dX9_commandPart_11 : decode cX9_commandPart 11 = .ok (.ifCond .eq 13, 3) := by decide +kernel
theorem dX9_commandPart_14 : decode cX9_commandPart 14 = .ok (.iload_n 2, 1) := by decide +kernel
theorem dX9_commandPart_15 : decode cX9_commandPart 15 = .ok (.iconst 0, 1) := by decide +kernel
theorem dX9_commandPart_16 : decode cX9_commandPart 16 = .ok (.bipush 7, 2) := by decide +kernel
theorem dX9_commandPart_18 : decode cX9_commandPart 18 = .ok (.invokestatic 62, 3) := by decide +kernel
theorem dX9_commandPart_21 : decode cX9_commandPart 21 = .ok (.ifCond .ne 5, 3) := by decide +kernel
theorem dX9_commandPart_24 : decode cX9_commandPart 24 = .ok (.iconst (-1), 1) := by decide +kernel
theorem dX9_commandPart_25 : decode cX9_commandPart 25 = .ok (.ireturn, 1) := by decide +kernel
theorem dX9_commandPart_26 : decode cX9_commandPart 26 = .ok (.aload_n 0, 1) := by decide +kernel
theorem dX9_commandPart_27 : decode cX9_commandPart 27 = .ok (.iload_n 1, 1) := by decide +kernel
theorem dX9_commandPart_28 : decode cX9_commandPart 28 = .ok (.bipush 8, 2) := by decide +kernel
theorem dX9_commandPart_30 : decode cX9_commandPart 30 = .ok (.imul, 1) := by decide +kernel
theorem dX9_commandPart_31 : decode cX9_commandPart 31 = .ok (.iload_n 2, 1) := by decide +kernel
theorem dX9_commandPart_32 : decode cX9_commandPart 32 = .ok (.iadd, 1) := by decide +kernel
theorem dX9_commandPart_33 : decode cX9_commandPart 33 = .ok (.invokevirtual 59, 3) := by decide +kernel
theorem dX9_commandPart_36 : decode cX9_commandPart 36 = .ok (.ireturn, 1) := by decide +kernel
set_option maxHeartbeats 4000000 in
set_option maxRecDepth 100000 in
theorem m_X9_commandPart (l : Launch) {Z : pZ} (S : pSh Z) {h : pH} (I : Iv Z h) (k : Int32) (what : Int32) (K : pSk Z) : pMet l yX9_commandPart cX9_commandPart 3 (some .int) 2 0 0 43 Z h [.ref (zB Z + 132), .int k, .int what] (pQi Z (fun r Z1 h1 => Z = Z1 ∧ Iv Z h1 ∧ agrD [] h h1)) := by
  refine pOfW (lv := [(0, .ref (zB Z + 132)), (1, .int k), (2, .int what)]) (by decide) (Nat.le_of_ble_eq_true rfl) rfl ?_
  intro p e s m below meth c ls M hr hlk hnm V hl
  have hx := M.1.1
  have hb := M.1.2.1
  have A : agrD [] h h := agrD.rf
  have J_24 : ∀ (hJ : pH) (H : Heap) (locs : List Loc) (ls : Array Slot), pV Z hJ s.heap H locs → Iv Z hJ → agrD [] h hJ → lv_has ls 3 [(0, .ref (zB Z + 132)), (1, .int k), (2, .int what)] → W p l e (pRm 2 0 0 43) s m ([.ref (zB Z + 132), .int k, .int what] : List Value).toArray below meth c H locs 0 0 (MQ below (pQi Z (fun r Z1 h1 => Z = Z1 ∧ Iv Z h1 ∧ agrD [] h h1)) ([.ref (zB Z + 132), .int k, .int what] : List Value).toArray s 0 0 (pA (zB Z))) (F0 m 24 ls []) := by
    intro hJ H locs ls V I A hl
    refine lv_iconst (v := (-1)) hx hb dX9_commandPart_24 (by decide) ?_
    have k_m1 : (-1 : Int32).toInt = -1 := rfl
    exact pe_i M V rfl rfl hr hlk rfl ⟨rfl, I, A.wk (by decide)⟩ ⟨Nat.le_refl _, Nat.le_refl _⟩ dX9_commandPart_25
  refine lv_iload_n hx hb dX9_commandPart_0 rfl (lv_at hl 1 rfl) ?_
  refine lv_iconst (v := 0) hx hb dX9_commandPart_1 (by decide) ?_
  refine lv_aload_n hx hb dX9_commandPart_2 rfl (lv_at hl 0 rfl) ?_
  refine pg_i M V 9 3 (c_is_132 S) pC9 fk9_3 lkF_X9_22 dX9_commandPart_3 ?_
  refine lv_topi (fun v1 ev1 => ?_)
  have tv1 : 0 ≤ v1.toInt ∧ v1.toInt ≤ 9000 := by rw [ev1]; exact I.get (c_is_132 S) 3
  refine lv_iconst (v := 1) hx hb dX9_commandPart_6 (by decide) ?_
  refine lv_isub hx hb dX9_commandPart_7 ?_
  refine lv_topi (fun v2 ev2 => ?_)
  have k_0 : (0 : Int32).toInt = 0 := rfl
  have k_1 : (1 : Int32).toInt = 1 := rfl
  have tv2 : v2.toInt = v1.toInt - 1 := by rw [ev2]; have z9 := pi_sub (x := v1) (y := (1 : Int32)); rw [k_1] at z9; exact z9 (by omega)
  refine pk_i (pr_SN M V (m_X11_isWithin l (Z := Z) (h := _) k (0 : Int32) v2) km_X11_isWithin lkN_X9_62 rfl hl.1 rfl (Nat.le_of_ble_eq_true rfl) ⟨Nat.le_of_ble_eq_true rfl, Nat.le_of_ble_eq_true rfl⟩ ⟨Nat.le_of_ble_eq_true rfl, Nat.le_of_ble_eq_true rfl⟩ dX9_commandPart_8) V (fun r3 Zr3 hr3 H locs pr3 _ _ V => ?_)
  obtain ⟨rfl, rfl, fr3_0⟩ := pr3
  refine lv_if_eq (tgt := 24) hx hb dX9_commandPart_11 (by decide) (fun c_11 => ?_) (fun c_11 => ?_)
  · skip
    have c_11 := pi_eq.mp c_11
    exact J_24 _ _ _ _ V I (A.wk (by decide)) (lv_sub hl [0, 1, 2] rfl) 
  · skip
    have c_11 := pi_ne c_11
    refine lv_iload_n hx hb dX9_commandPart_14 rfl (lv_at hl 2 rfl) ?_
    refine lv_iconst (v := 0) hx hb dX9_commandPart_15 (by decide) ?_
    refine lv_bipush (v := 7) hx hb dX9_commandPart_16 (by decide) ?_
    have k_7 : (7 : Int32).toInt = 7 := rfl
    refine pk_i (pr_SN M V (m_X11_isWithin l (Z := Z) (h := _) what (0 : Int32) (7 : Int32)) km_X11_isWithin lkN_X9_62 rfl hl.1 rfl (Nat.le_of_ble_eq_true rfl) ⟨Nat.le_of_ble_eq_true rfl, Nat.le_of_ble_eq_true rfl⟩ ⟨Nat.le_of_ble_eq_true rfl, Nat.le_of_ble_eq_true rfl⟩ dX9_commandPart_18) V (fun r4 Zr4 hr4 H locs pr4 _ _ V => ?_)
    obtain ⟨rfl, rfl, fr4_0⟩ := pr4
    refine lv_if_ne (tgt := 26) hx hb dX9_commandPart_21 (by decide) (fun c_21 => ?_) (fun c_21 => ?_)
    · skip
      have c_21 := pi_ne c_21
      refine lv_aload_n hx hb dX9_commandPart_26 rfl (lv_at hl 0 rfl) ?_
      refine lv_iload_n hx hb dX9_commandPart_27 rfl (lv_at hl 1 rfl) ?_
      refine lv_bipush (v := 8) hx hb dX9_commandPart_28 (by decide) ?_
      refine lv_imul hx hb dX9_commandPart_30 ?_
      refine lv_topi (fun v5 ev5 => ?_)
      refine lv_iload_n hx hb dX9_commandPart_31 rfl (lv_at hl 2 rfl) ?_
      refine lv_iadd hx hb dX9_commandPart_32 ?_
      refine lv_topi (fun v6 ev6 => ?_)
      have k_8 : (8 : Int32).toInt = 8 := rfl
      have tv5 : v5.toInt = k.toInt * 8 := by rw [ev5]; have z9 := pi_mul (x := k) (y := (8 : Int32)); rw [k_8] at z9; exact z9 (by omega)
      have tv6 : v6.toInt = v5.toInt + what.toInt := by rw [ev6]; exact pi_add (by omega)
      refine pk_i (pr_V M V (m_X9_partAt_132 l S I v6 K) km_X9_partAt (c_is_132 S) pC9 lkM_X9_59 rfl hl.1 rfl (Nat.le_of_ble_eq_true rfl) ⟨Nat.le_of_ble_eq_true rfl, Nat.le_of_ble_eq_true rfl⟩ ⟨Nat.le_of_ble_eq_true rfl, Nat.le_of_ble_eq_true rfl⟩ dX9_commandPart_33) V (fun r7 Zr7 hr7 H locs pr7 _ _ V => ?_)
      obtain ⟨rfl, I, pA_r7⟩ := pr7
      have A := A.tr pA_r7 (by decide)
      exact pe_i M V rfl rfl hr hlk rfl ⟨rfl, I, A.wk (by decide)⟩ ⟨Nat.le_refl _, Nat.le_refl _⟩ dX9_commandPart_36
    · skip
      have c_21 := pi_eq.mp c_21
      exact J_24 _ _ _ _ V I (A.wk (by decide)) (lv_sub hl [0, 1, 2] rfl) 
theorem dX9_quadPart_0 : decode cX9_quadPart 0 = .ok (.iload_n 1, 1) := by decide +kernel
theorem dX9_quadPart_1 : decode cX9_quadPart 1 = .ok (.bipush 6, 2) := by decide +kernel
theorem dX9_quadPart_3 : decode cX9_quadPart 3 = .ok (.imul, 1) := by decide +kernel
theorem dX9_quadPart_4 : decode cX9_quadPart 4 = .ok (.iload_n 2, 1) := by decide +kernel
theorem dX9_quadPart_5 : decode cX9_quadPart 5 = .ok (.iadd, 1) := by decide +kernel
theorem dX9_quadPart_6 : decode cX9_quadPart 6 = .ok (.istore 4, 2) := by decide +kernel
theorem dX9_quadPart_8 : decode cX9_quadPart 8 = .ok (.iload_n 1, 1) := by decide +kernel
theorem dX9_quadPart_9 : decode cX9_quadPart 9 = .ok (.iconst 0, 1) := by decide +kernel
theorem dX9_quadPart_10 : decode cX9_quadPart 10 = .ok (.aload_n 0, 1) := by decide +kernel
theorem dX9_quadPart_11 : decode cX9_quadPart 11 = .ok (.getfield 18, 3) := by decide +kernel
theorem dX9_quadPart_14 : decode cX9_quadPart 14 = .ok (.iconst 1, 1) := by decide +kernel
theorem dX9_quadPart_15 : decode cX9_quadPart 15 = .ok (.isub, 1) := by decide +kernel
theorem dX9_quadPart_16 : decode cX9_quadPart 16 = .ok (.invokestatic 62, 3) := by decide +kernel
theorem dX9_quadPart_19 : decode cX9_quadPart 19 = .ok (.ifCond .eq 23, 3) := by decide +kernel
theorem dX9_quadPart_22 : decode cX9_quadPart 22 = .ok (.iload 4, 2) := by decide +kernel
theorem dX9_quadPart_24 : decode cX9_quadPart 24 = .ok (.iconst 0, 1) := by decide +kernel
theorem dX9_quadPart_25 : decode cX9_quadPart 25 = .ok (.aload_n 0, 1) := by decide +kernel
theorem dX9_quadPart_26 : decode cX9_quadPart 26 = .ok (.getfield 11, 3) := by decide +kernel
theorem dX9_quadPart_29 : decode cX9_quadPart 29 = .ok (.arraylength, 1) := by decide +kernel
theorem dX9_quadPart_30 : decode cX9_quadPart 30 = .ok (.iconst 1, 1) := by decide +kernel
theorem dX9_quadPart_31 : decode cX9_quadPart 31 = .ok (.isub, 1) := by decide +kernel
theorem dX9_quadPart_32 : decode cX9_quadPart 32 = .ok (.invokestatic 62, 3) := by decide +kernel
theorem dX9_quadPart_35 : decode cX9_quadPart 35 = .ok (.ifCond .eq 7, 3) := by decide +kernel
theorem dX9_quadPart_38 : decode cX9_quadPart 38 = .ok (.iconst 1, 1) := by decide +kernel
theorem dX9_quadPart_39 : decode cX9_quadPart 39 = .ok (.goto 4, 3) := by decide +kernel
theorem dX9_quadPart_42 : decode cX9_quadPart 42 = .ok (.iconst 0, 1) := by decide +kernel
theorem dX9_quadPart_43 : decode cX9_quadPart 43 = .ok (.istore 5, 2) := by decide +kernel
theorem dX9_quadPart_45 : decode cX9_quadPart 45 = .ok (.iload 5, 2) := by decide +kernel
theorem dX9_quadPart_47 : decode cX9_quadPart 47 = .ok (.ifCond .eq 13, 3) := by decide +kernel
theorem dX9_quadPart_50 : decode cX9_quadPart 50 = .ok (.aload_n 0, 1) := by decide +kernel
theorem dX9_quadPart_51 : decode cX9_quadPart 51 = .ok (.getfield 11, 3) := by decide +kernel
theorem dX9_quadPart_54 : decode cX9_quadPart 54 = .ok (.iload 4, 2) := by decide +kernel
theorem dX9_quadPart_56 : decode cX9_quadPart 56 = .ok (.iaload, 1) := by decide +kernel
theorem dX9_quadPart_57 : decode cX9_quadPart 57 = .ok (.goto 4, 3) := by decide +kernel
theorem dX9_quadPart_60 : decode cX9_quadPart 60 = .ok (.iload_n 3, 1) := by decide +kernel
theorem dX9_quadPart_61 : decode cX9_quadPart 61 = .ok (.ireturn, 1) := by decide +kernel
set_option maxHeartbeats 4000000 in
set_option maxRecDepth 100000 in
theorem m_X9_quadPart (l : Launch) {Z : pZ} (S : pSh Z) {h : pH} (I : Iv Z h) (quad : Int32) (part : Int32) (otherwise : Int32) (K : pSk Z) : pMet l yX9_quadPart cX9_quadPart 6 (some .int) 1 0 0 22 Z h [.ref (zB Z + 132), .int quad, .int part, .int otherwise] (pQi Z (fun r Z1 h1 => Z = Z1 ∧ Iv Z h1 ∧ agrD [] h h1)) := by
  refine pOfW (lv := [(0, .ref (zB Z + 132)), (1, .int quad), (2, .int part), (3, .int otherwise)]) (by decide) (Nat.le_of_ble_eq_true rfl) rfl ?_
  intro p e s m below meth c ls M hr hlk hnm V hl
  have hx := M.1.1
  have hb := M.1.2.1
  have A : agrD [] h h := agrD.rf
  refine lv_iload_n hx hb dX9_quadPart_0 rfl (lv_at hl 1 rfl) ?_
  refine lv_bipush (v := 6) hx hb dX9_quadPart_1 (by decide) ?_
  refine lv_imul hx hb dX9_quadPart_3 ?_
  refine lv_topi (fun v1 ev1 => ?_)
  refine lv_iload_n hx hb dX9_quadPart_4 rfl (lv_at hl 2 rfl) ?_
  refine lv_iadd hx hb dX9_quadPart_5 ?_
  refine lv_topi (fun v2 ev2 => ?_)
  refine lv_istore (lv' := [(4, .int v2), (0, .ref (zB Z + 132)), (1, .int quad), (2, .int part), (3, .int otherwise)]) hx hb dX9_quadPart_6 hl (by decide) rfl (fun ls hl => ?_)
  refine lv_iload_n hx hb dX9_quadPart_8 rfl (lv_at hl 2 rfl) ?_
  refine lv_iconst (v := 0) hx hb dX9_quadPart_9 (by decide) ?_
  refine lv_aload_n hx hb dX9_quadPart_10 rfl (lv_at hl 1 rfl) ?_
  refine pg_i M V 9 2 (c_is_132 S) pC9 fk9_2 lkF_X9_18 dX9_quadPart_11 ?_
  refine lv_topi (fun v3 ev3 => ?_)
  have tv3 : 0 ≤ v3.toInt ∧ v3.toInt ≤ 9000 := by rw [ev3]; exact I.get (c_is_132 S) 2
  refine lv_iconst (v := 1) hx hb dX9_quadPart_14 (by decide) ?_
  refine lv_isub hx hb dX9_quadPart_15 ?_
  refine lv_topi (fun v4 ev4 => ?_)
  have k_0 : (0 : Int32).toInt = 0 := rfl
  have k_1 : (1 : Int32).toInt = 1 := rfl
  have tv4 : v4.toInt = v3.toInt - 1 := by rw [ev4]; have z9 := pi_sub (x := v3) (y := (1 : Int32)); rw [k_1] at z9; exact z9 (by omega)
  refine pk_i (pr_SN M V (m_X11_isWithin l (Z := Z) (h := _) quad (0 : Int32) v4) km_X11_isWithin lkN_X9_62 rfl hl.1 rfl (Nat.le_of_ble_eq_true rfl) ⟨Nat.le_of_ble_eq_true rfl, Nat.le_of_ble_eq_true rfl⟩ ⟨Nat.le_of_ble_eq_true rfl, Nat.le_of_ble_eq_true rfl⟩ dX9_quadPart_16) V (fun r5 Zr5 hr5 H locs pr5 _ _ V => ?_)
  obtain ⟨rfl, rfl, fr5_0⟩ := pr5
  refine lv_if_eq (tgt := 42) hx hb dX9_quadPart_19 (by decide) (fun c_19 => ?_) (fun c_19 => ?_)
  · skip
    have c_19 := pi_eq.mp c_19
    refine lv_iconst (v := 0) hx hb dX9_quadPart_42 (by decide) ?_
    refine lv_istore (lv' := [(5, .int (0 : Int32)), (4, .int v2), (0, .ref (zB Z + 132)), (1, .int quad), (2, .int part), (3, .int otherwise)]) hx hb dX9_quadPart_43 hl (by decide) rfl (fun ls hl => ?_)
    refine lv_iload hx hb dX9_quadPart_45 (lv_at hl 0 rfl) ?_
    refine lv_if_eq (tgt := 60) hx hb dX9_quadPart_47 (by decide) (fun c_47 => ?_) (fun c_47 => ?_)
    · skip
      refine lv_iload_n hx hb dX9_quadPart_60 rfl (lv_at hl 5 rfl) ?_
      exact pe_i M V rfl rfl hr hlk rfl ⟨rfl, I, A.wk (by decide)⟩ ⟨Nat.le_refl _, Nat.le_refl _⟩ dX9_quadPart_61
    · exact (c_47 (by decide)).elim
  · skip
    have c_19 := pi_ne c_19
    refine lv_iload hx hb dX9_quadPart_22 (lv_at hl 0 rfl) ?_
    refine lv_iconst (v := 0) hx hb dX9_quadPart_24 (by decide) ?_
    refine lv_aload_n hx hb dX9_quadPart_25 rfl (lv_at hl 1 rfl) ?_
    refine pg_r M V 9 0 (c_is_132 S) pC9 fk9_0 K.2.2.1.1 lkF_X9_11 dX9_quadPart_26 ?_
    refine pa_len M V K.2.2.1.2.1 dX9_quadPart_29 ?_
    refine lv_topi (fun v6 ev6 => ?_)
    have nv6 := K.2.2.1.2.2.2
    have tv6 : v6.toInt = (zN Z (qA Z 132 0) : Int) := by rw [ev6]; exact pi_len (by omega)
    refine lv_iconst (v := 1) hx hb dX9_quadPart_30 (by decide) ?_
    refine lv_isub hx hb dX9_quadPart_31 ?_
    refine lv_topi (fun v7 ev7 => ?_)
    have tv7 : v7.toInt = v6.toInt - 1 := by rw [ev7]; have z9 := pi_sub (x := v6) (y := (1 : Int32)); rw [k_1] at z9; exact z9 (by omega)
    refine pk_i (pr_SN M V (m_X11_isWithin l (Z := Z) (h := _) v2 (0 : Int32) v7) km_X11_isWithin lkN_X9_62 rfl hl.1 rfl (Nat.le_of_ble_eq_true rfl) ⟨Nat.le_of_ble_eq_true rfl, Nat.le_of_ble_eq_true rfl⟩ ⟨Nat.le_of_ble_eq_true rfl, Nat.le_of_ble_eq_true rfl⟩ dX9_quadPart_32) V (fun r8 Zr8 hr8 H locs pr8 _ _ V => ?_)
    obtain ⟨rfl, rfl, fr8_0⟩ := pr8
    refine lv_if_eq (tgt := 42) hx hb dX9_quadPart_35 (by decide) (fun c_35 => ?_) (fun c_35 => ?_)
    · skip
      have c_35 := pi_eq.mp c_35
      refine lv_iconst (v := 0) hx hb dX9_quadPart_42 (by decide) ?_
      refine lv_istore (lv' := [(5, .int (0 : Int32)), (4, .int v2), (0, .ref (zB Z + 132)), (1, .int quad), (2, .int part), (3, .int otherwise)]) hx hb dX9_quadPart_43 hl (by decide) rfl (fun ls hl => ?_)
      refine lv_iload hx hb dX9_quadPart_45 (lv_at hl 0 rfl) ?_
      refine lv_if_eq (tgt := 60) hx hb dX9_quadPart_47 (by decide) (fun c_47 => ?_) (fun c_47 => ?_)
      · skip
        refine lv_iload_n hx hb dX9_quadPart_60 rfl (lv_at hl 5 rfl) ?_
        exact pe_i M V rfl rfl hr hlk rfl ⟨rfl, I, A.wk (by decide)⟩ ⟨Nat.le_refl _, Nat.le_refl _⟩ dX9_quadPart_61
      · exact (c_47 (by decide)).elim
    · skip
      have c_35 := pi_ne c_35
      refine lv_iconst (v := 1) hx hb dX9_quadPart_38 (by decide) ?_
      refine lv_goto (tgt := 43) hx hb dX9_quadPart_39 (by decide) ?_
      refine lv_istore (lv' := [(5, .int (1 : Int32)), (4, .int v2), (0, .ref (zB Z + 132)), (1, .int quad), (2, .int part), (3, .int otherwise)]) hx hb dX9_quadPart_43 hl (by decide) rfl (fun ls hl => ?_)
      refine lv_iload hx hb dX9_quadPart_45 (lv_at hl 0 rfl) ?_
      refine lv_if_eq (tgt := 60) hx hb dX9_quadPart_47 (by decide) (fun c_47 => ?_) (fun c_47 => ?_)
      · exact absurd c_47 (by decide)
      · skip
        refine lv_aload_n hx hb dX9_quadPart_50 rfl (lv_at hl 2 rfl) ?_
        refine pg_r M V 9 0 (c_is_132 S) pC9 fk9_0 K.2.2.1.1 lkF_X9_11 dX9_quadPart_51 ?_
        refine lv_iload hx hb dX9_quadPart_54 (lv_at hl 1 rfl) ?_
        refine pa_i M V K.2.2.1.2.1 (pi_in (by omega)) dX9_quadPart_56 ?_
        refine lv_topi (fun v9 ev9 => ?_)
        refine lv_goto (tgt := 61) hx hb dX9_quadPart_57 (by decide) ?_
        exact pe_i M V rfl rfl hr hlk rfl ⟨rfl, I, A.wk (by decide)⟩ ⟨Nat.le_refl _, Nat.le_refl _⟩ dX9_quadPart_61
theorem dX9_vertexPart_0 : decode cX9_vertexPart 0 = .ok (.iload_n 3, 1) := by decide +kernel
theorem dX9_vertexPart_1 : decode cX9_vertexPart 1 = .ok (.tableswitch 80 0 2 #[27, 51, 70], 27) := by decide +kernel
theorem dX9_vertexPart_28 : decode cX9_vertexPart 28 = .ok (.aload_n 0, 1) := by decide +kernel
theorem dX9_vertexPart_29 : decode cX9_vertexPart 29 = .ok (.iload_n 1, 1) := by decide +kernel
theorem dX9_vertexPart_30 : decode cX9_vertexPart 30 = .ok (.iload_n 2, 1) := by decide +kernel
theorem dX9_vertexPart_31 : decode cX9_vertexPart 31 = .ok (.iconst 1, 1) := by decide +kernel
theorem dX9_vertexPart_32 : decode cX9_vertexPart 32 = .ok (.if_icmp .eq 8, 3) := by decide +kernel
theorem dX9_vertexPart_35 : decode cX9_vertexPart 35 = .ok (.iload_n 2, 1) := by decide +kernel
theorem dX9_vertexPart_36 : decode cX9_vertexPart 36 = .ok (.iconst 2, 1) := by decide +kernel
theorem dX9_vertexPart_37 : decode cX9_vertexPart 37 = .ok (.if_icmp .ne 7, 3) := by decide +kernel
theorem dX9_vertexPart_40 : decode cX9_vertexPart 40 = .ok (.iconst 2, 1) := by decide +kernel
theorem dX9_vertexPart_41 : decode cX9_vertexPart 41 = .ok (.goto 4, 3) := by decide +kernel
theorem dX9_vertexPart_44 : decode cX9_vertexPart 44 = .ok (.iconst 0, 1) := by decide +kernel
theorem dX9_vertexPart_45 : decode cX9_vertexPart 45 = .ok (.sipush (-10000), 3) := by decide +kernel
theorem dX9_vertexPart_48 : decode cX9_vertexPart 48 = .ok (.invokevirtual 124, 3) := by decide +kernel
theorem dX9_vertexPart_51 : decode cX9_vertexPart 51 = .ok (.ireturn, 1) := by decide +kernel
theorem dX9_vertexPart_52 : decode cX9_vertexPart 52 = .ok (.aload_n 0, 1) := by decide +kernel
theorem dX9_vertexPart_53 : decode cX9_vertexPart 53 = .ok (.iload_n 1, 1) := by decide +kernel
theorem dX9_vertexPart_54 : decode cX9_vertexPart 54 = .ok (.iload_n 2, 1) := by decide +kernel
theorem dX9_vertexPart_55 : decode cX9_vertexPart 55 = .ok (.iconst 2, 1) := by decide +kernel
theorem dX9_vertexPart_56 : decode cX9_vertexPart 56 = .ok (.if_icmp .lt 7, 3) := by decide +kernel
theorem dX9_vertexPart_59 : decode cX9_vertexPart 59 = .ok (.iconst 3, 1) := by decide +kernel
theorem dX9_vertexPart_60 : decode cX9_vertexPart 60 = .ok (.goto 4, 3) := by decide +kernel
theorem dX9_vertexPart_63 : decode cX9_vertexPart 63 = .ok (.iconst 1, 1) := by decide +kernel
theorem dX9_vertexPart_64 : decode cX9_vertexPart 64 = .ok (.sipush (-10000), 3) := by decide +kernel
theorem dX9_vertexPart_67 : decode cX9_vertexPart 67 = .ok (.invokevirtual 124, 3) := by decide +kernel
theorem dX9_vertexPart_70 : decode cX9_vertexPart 70 = .ok (.ireturn, 1) := by decide +kernel
theorem dX9_vertexPart_71 : decode cX9_vertexPart 71 = .ok (.aload_n 0, 1) := by decide +kernel
theorem dX9_vertexPart_72 : decode cX9_vertexPart 72 = .ok (.iload_n 1, 1) := by decide +kernel
theorem dX9_vertexPart_73 : decode cX9_vertexPart 73 = .ok (.iconst 4, 1) := by decide +kernel
theorem dX9_vertexPart_74 : decode cX9_vertexPart 74 = .ok (.sipush (-10000), 3) := by decide +kernel
theorem dX9_vertexPart_77 : decode cX9_vertexPart 77 = .ok (.invokevirtual 124, 3) := by decide +kernel
theorem dX9_vertexPart_80 : decode cX9_vertexPart 80 = .ok (.ireturn, 1) := by decide +kernel
theorem dX9_vertexPart_81 : decode cX9_vertexPart 81 = .ok (.sipush (-10000), 3) := by decide +kernel
theorem dX9_vertexPart_84 : decode cX9_vertexPart 84 = .ok (.ireturn, 1) := by decide +kernel
set_option maxHeartbeats 4000000 in
set_option maxRecDepth 100000 in
theorem m_X9_vertexPart (l : Launch) {Z : pZ} (S : pSh Z) {h : pH} (I : Iv Z h) (quad : Int32) (corner : Int32) (what : Int32) (K : pSk Z) : pMet l yX9_vertexPart cX9_vertexPart 4 (some .int) 2 0 0 47 Z h [.ref (zB Z + 132), .int quad, .int corner, .int what] (pQi Z (fun r Z1 h1 => Z = Z1 ∧ Iv Z h1 ∧ agrD [] h h1)) := by
  refine pOfW (lv := [(0, .ref (zB Z + 132)), (1, .int quad), (2, .int corner), (3, .int what)]) (by decide) (Nat.le_of_ble_eq_true rfl) rfl ?_
  intro p e s m below meth c ls M hr hlk hnm V hl
  have hx := M.1.1
  have hb := M.1.2.1
  have A : agrD [] h h := agrD.rf
  have J_64 : ∀ (y64_0 : Int32) (y64_1 : Int32) (hJ : pH) (H : Heap) (locs : List Loc) (ls : Array Slot), pV Z hJ s.heap H locs → Iv Z hJ → agrD [] h hJ → lv_has ls 4 [(0, .ref (zB Z + 132)), (1, .int quad), (2, .int corner), (3, .int what)] → (1 ≤ y64_0.toInt ∧ y64_0.toInt ≤ 3) → W p l e (pRm 2 0 0 47) s m ([.ref (zB Z + 132), .int quad, .int corner, .int what] : List Value).toArray below meth c H locs 0 0 (MQ below (pQi Z (fun r Z1 h1 => Z = Z1 ∧ Iv Z h1 ∧ agrD [] h h1)) ([.ref (zB Z + 132), .int quad, .int corner, .int what] : List Value).toArray s 0 0 (pA (zB Z))) (F0 m 64 ls [.int y64_0, .int y64_1, .ref (zB Z + 132)]) := by
    intro y64_0 y64_1 hJ H locs ls V I A hl gs_64_0
    refine lv_sipush (v := (-10000)) hx hb dX9_vertexPart_64 (by decide) ?_
    refine pk_i (pr_V M V (m_X9_quadPart l S I y64_1 y64_0 (-10000 : Int32) K) km_X9_quadPart (c_is_132 S) pC9 lkM_X9_124 rfl hl.1 rfl (Nat.le_of_ble_eq_true rfl) ⟨Nat.le_of_ble_eq_true rfl, Nat.le_of_ble_eq_true rfl⟩ ⟨Nat.le_of_ble_eq_true rfl, Nat.le_of_ble_eq_true rfl⟩ dX9_vertexPart_67) V (fun r1 Zr1 hr1 H locs pr1 _ _ V => ?_)
    obtain ⟨rfl, I, pA_r1⟩ := pr1
    have A := A.tr pA_r1 (by decide)
    exact pe_i M V rfl rfl hr hlk rfl ⟨rfl, I, A.wk (by decide)⟩ ⟨Nat.le_refl _, Nat.le_refl _⟩ dX9_vertexPart_70
  have J_45 : ∀ (y45_0 : Int32) (y45_1 : Int32) (hJ : pH) (H : Heap) (locs : List Loc) (ls : Array Slot), pV Z hJ s.heap H locs → Iv Z hJ → agrD [] h hJ → lv_has ls 4 [(0, .ref (zB Z + 132)), (1, .int quad), (2, .int corner), (3, .int what)] → (0 ≤ y45_0.toInt ∧ y45_0.toInt ≤ 2) → W p l e (pRm 2 0 0 47) s m ([.ref (zB Z + 132), .int quad, .int corner, .int what] : List Value).toArray below meth c H locs 0 0 (MQ below (pQi Z (fun r Z1 h1 => Z = Z1 ∧ Iv Z h1 ∧ agrD [] h h1)) ([.ref (zB Z + 132), .int quad, .int corner, .int what] : List Value).toArray s 0 0 (pA (zB Z))) (F0 m 45 ls [.int y45_0, .int y45_1, .ref (zB Z + 132)]) := by
    intro y45_0 y45_1 hJ H locs ls V I A hl gs_45_0
    refine lv_sipush (v := (-10000)) hx hb dX9_vertexPart_45 (by decide) ?_
    refine pk_i (pr_V M V (m_X9_quadPart l S I y45_1 y45_0 (-10000 : Int32) K) km_X9_quadPart (c_is_132 S) pC9 lkM_X9_124 rfl hl.1 rfl (Nat.le_of_ble_eq_true rfl) ⟨Nat.le_of_ble_eq_true rfl, Nat.le_of_ble_eq_true rfl⟩ ⟨Nat.le_of_ble_eq_true rfl, Nat.le_of_ble_eq_true rfl⟩ dX9_vertexPart_48) V (fun r2 Zr2 hr2 H locs pr2 _ _ V => ?_)
    obtain ⟨rfl, I, pA_r2⟩ := pr2
    have A := A.tr pA_r2 (by decide)
    exact pe_i M V rfl rfl hr hlk rfl ⟨rfl, I, A.wk (by decide)⟩ ⟨Nat.le_refl _, Nat.le_refl _⟩ dX9_vertexPart_51
  have J_40 : ∀ (y40_0 : Int32) (hJ : pH) (H : Heap) (locs : List Loc) (ls : Array Slot), pV Z hJ s.heap H locs → Iv Z hJ → agrD [] h hJ → lv_has ls 4 [(0, .ref (zB Z + 132)), (1, .int quad), (2, .int corner), (3, .int what)] → (1 ≤ corner.toInt ∧ corner.toInt ≤ 2) → W p l e (pRm 2 0 0 47) s m ([.ref (zB Z + 132), .int quad, .int corner, .int what] : List Value).toArray below meth c H locs 0 0 (MQ below (pQi Z (fun r Z1 h1 => Z = Z1 ∧ Iv Z h1 ∧ agrD [] h h1)) ([.ref (zB Z + 132), .int quad, .int corner, .int what] : List Value).toArray s 0 0 (pA (zB Z))) (F0 m 40 ls [.int y40_0, .ref (zB Z + 132)]) := by
    intro y40_0 hJ H locs ls V I A hl g_40_2
    refine lv_iconst (v := 2) hx hb dX9_vertexPart_40 (by decide) ?_
    refine lv_goto (tgt := 45) hx hb dX9_vertexPart_41 (by decide) ?_
    have k_2 : (2 : Int32).toInt = 2 := rfl
    exact J_45 (2 : Int32) y40_0 _ _ _ _ V I (A.wk (by decide)) (lv_sub hl [0, 1, 2, 3] rfl) (by omega) 
  refine lv_iload_n hx hb dX9_vertexPart_0 rfl (lv_at hl 3 rfl) ?_
  by_cases w_1 : what.toInt < 0 ∨ 2 < what.toInt
  · refine lv_tableOut (tgt := 81) hx hb dX9_vertexPart_1 w_1 (by decide) ?_
    refine lv_sipush (v := (-10000)) hx hb dX9_vertexPart_81 (by decide) ?_
    have k_m10000 : (-10000 : Int32).toInt = -10000 := rfl
    exact pe_i M V rfl rfl hr hlk rfl ⟨rfl, I, A.wk (by decide)⟩ ⟨Nat.le_refl _, Nat.le_refl _⟩ dX9_vertexPart_84
  · obtain w_1 | w_1 | w_1 : what.toInt = 0 ∨ what.toInt = 1 ∨ what.toInt = 2 := by omega
    · refine lv_tableIn (tgt := 28) (off := 27) hx hb dX9_vertexPart_1 (by omega) (by omega) (by rw [w_1]; rfl) (by decide) ?_
      refine lv_aload_n hx hb dX9_vertexPart_28 rfl (lv_at hl 0 rfl) ?_
      refine lv_iload_n hx hb dX9_vertexPart_29 rfl (lv_at hl 1 rfl) ?_
      refine lv_iload_n hx hb dX9_vertexPart_30 rfl (lv_at hl 2 rfl) ?_
      refine lv_iconst (v := 1) hx hb dX9_vertexPart_31 (by decide) ?_
      refine lv_icmp_eq (tgt := 40) hx hb dX9_vertexPart_32 (by decide) (fun c_32 => ?_) (fun c_32 => ?_)
      · skip
        have k_1 : (1 : Int32).toInt = 1 := rfl
        have c_32 := pi_eq.mp c_32
        exact J_40 quad _ _ _ _ V I (A.wk (by decide)) (lv_sub hl [0, 1, 2, 3] rfl) (by omega) 
      · skip
        have k_1 : (1 : Int32).toInt = 1 := rfl
        have c_32 := pi_ne c_32
        refine lv_iload_n hx hb dX9_vertexPart_35 rfl (lv_at hl 2 rfl) ?_
        refine lv_iconst (v := 2) hx hb dX9_vertexPart_36 (by decide) ?_
        refine lv_icmp_ne (tgt := 44) hx hb dX9_vertexPart_37 (by decide) (fun c_37 => ?_) (fun c_37 => ?_)
        · skip
          have k_2 : (2 : Int32).toInt = 2 := rfl
          have c_37 := pi_ne c_37
          refine lv_iconst (v := 0) hx hb dX9_vertexPart_44 (by decide) ?_
          have k_0 : (0 : Int32).toInt = 0 := rfl
          exact J_45 (0 : Int32) quad _ _ _ _ V I (A.wk (by decide)) (lv_sub hl [0, 1, 2, 3] rfl) (by omega) 
        · skip
          have k_2 : (2 : Int32).toInt = 2 := rfl
          have c_37 := pi_eq.mp c_37
          exact J_40 quad _ _ _ _ V I (A.wk (by decide)) (lv_sub hl [0, 1, 2, 3] rfl) (by omega) 
    · refine lv_tableIn (tgt := 52) (off := 51) hx hb dX9_vertexPart_1 (by omega) (by omega) (by rw [w_1]; rfl) (by decide) ?_
      refine lv_aload_n hx hb dX9_vertexPart_52 rfl (lv_at hl 0 rfl) ?_
      refine lv_iload_n hx hb dX9_vertexPart_53 rfl (lv_at hl 1 rfl) ?_
      refine lv_iload_n hx hb dX9_vertexPart_54 rfl (lv_at hl 2 rfl) ?_
      refine lv_iconst (v := 2) hx hb dX9_vertexPart_55 (by decide) ?_
      refine lv_icmp_lt (tgt := 63) hx hb dX9_vertexPart_56 (by decide) (fun c_56 => ?_) (fun c_56 => ?_)
      · skip
        have k_2 : (2 : Int32).toInt = 2 := rfl
        have c_56 := pi_lt.mp c_56
        refine lv_iconst (v := 1) hx hb dX9_vertexPart_63 (by decide) ?_
        have k_1 : (1 : Int32).toInt = 1 := rfl
        exact J_64 (1 : Int32) quad _ _ _ _ V I (A.wk (by decide)) (lv_sub hl [0, 1, 2, 3] rfl) (by omega) 
      · skip
        have k_2 : (2 : Int32).toInt = 2 := rfl
        have c_56 := pi_lt' c_56
        refine lv_iconst (v := 3) hx hb dX9_vertexPart_59 (by decide) ?_
        refine lv_goto (tgt := 64) hx hb dX9_vertexPart_60 (by decide) ?_
        have k_3 : (3 : Int32).toInt = 3 := rfl
        exact J_64 (3 : Int32) quad _ _ _ _ V I (A.wk (by decide)) (lv_sub hl [0, 1, 2, 3] rfl) (by omega) 
    · refine lv_tableIn (tgt := 71) (off := 70) hx hb dX9_vertexPart_1 (by omega) (by omega) (by rw [w_1]; rfl) (by decide) ?_
      refine lv_aload_n hx hb dX9_vertexPart_71 rfl (lv_at hl 0 rfl) ?_
      refine lv_iload_n hx hb dX9_vertexPart_72 rfl (lv_at hl 1 rfl) ?_
      refine lv_iconst (v := 4) hx hb dX9_vertexPart_73 (by decide) ?_
      refine lv_sipush (v := (-10000)) hx hb dX9_vertexPart_74 (by decide) ?_
      refine pk_i (pr_V M V (m_X9_quadPart l S I quad (4 : Int32) (-10000 : Int32) K) km_X9_quadPart (c_is_132 S) pC9 lkM_X9_124 rfl hl.1 rfl (Nat.le_of_ble_eq_true rfl) ⟨Nat.le_of_ble_eq_true rfl, Nat.le_of_ble_eq_true rfl⟩ ⟨Nat.le_of_ble_eq_true rfl, Nat.le_of_ble_eq_true rfl⟩ dX9_vertexPart_77) V (fun r3 Zr3 hr3 H locs pr3 _ _ V => ?_)
      obtain ⟨rfl, I, pA_r3⟩ := pr3
      have A := A.tr pA_r3 (by decide)
      exact pe_i M V rfl rfl hr hlk rfl ⟨rfl, I, A.wk (by decide)⟩ ⟨Nat.le_refl _, Nat.le_refl _⟩ dX9_vertexPart_80
theorem dX9_holds_0 : decode cX9_holds 0 = .ok (.aload_n 1, 1) := by decide +kernel
theorem dX9_holds_1 : decode cX9_holds 1 = .ok (.getfield 101, 3) := by decide +kernel
theorem dX9_holds_4 : decode cX9_holds 4 = .ok (.ifCond .lt 36, 3) := by decide +kernel
theorem dX9_holds_7 : decode cX9_holds 7 = .ok (.aload_n 1, 1) := by decide +kernel
theorem dX9_holds_8 : decode cX9_holds 8 = .ok (.getfield 96, 3) := by decide +kernel
theorem dX9_holds_11 : decode cX9_holds 11 = .ok (.aload_n 0, 1) := by decide +kernel
theorem dX9_holds_12 : decode cX9_holds 12 = .ok (.getfield 18, 3) := by decide +kernel
theorem dX9_holds_15 : decode cX9_holds 15 = .ok (.if_icmp .gt 25, 3) := by decide +kernel
theorem dX9_holds_18 : decode cX9_holds 18 = .ok (.aload_n 1, 1) := by decide +kernel
theorem dX9_holds_19 : decode cX9_holds 19 = .ok (.getfield 107, 3) := by decide +kernel
theorem dX9_holds_22 : decode cX9_holds 22 = .ok (.ifCond .lt 18, 3) := by decide +kernel
theorem dX9_holds_25 : decode cX9_holds 25 = .ok (.aload_n 1, 1) := by decide +kernel
theorem dX9_holds_26 : decode cX9_holds 26 = .ok (.getfield 104, 3) := by decide +kernel
theorem dX9_holds_29 : decode cX9_holds 29 = .ok (.aload_n 0, 1) := by decide +kernel
theorem dX9_holds_30 : decode cX9_holds 30 = .ok (.getfield 22, 3) := by decide +kernel
theorem dX9_holds_33 : decode cX9_holds 33 = .ok (.if_icmp .gt 7, 3) := by decide +kernel
theorem dX9_holds_36 : decode cX9_holds 36 = .ok (.iconst 1, 1) := by decide +kernel
theorem dX9_holds_37 : decode cX9_holds 37 = .ok (.goto 4, 3) := by decide +kernel
theorem dX9_holds_40 : decode cX9_holds 40 = .ok (.iconst 0, 1) := by decide +kernel
theorem dX9_holds_41 : decode cX9_holds 41 = .ok (.ireturn, 1) := by decide +kernel
set_option maxHeartbeats 4000000 in
set_option maxRecDepth 100000 in
theorem m_X9_holds (l : Launch) {Z : pZ} (S : pSh Z) {h : pH} (I : Iv Z h) (o2 : Nat) (ho2 : pIs Z o2 7)  : pMet l yX9_holds cX9_holds 2 (some .boolean) 0 0 0 0 Z h [.ref (zB Z + 129), .ref (zB Z + o2)] (pQi Z (fun r Z1 h1 => Z = Z1 ∧ h = h1 ∧ ((r.toInt = 0 ∨ r.toInt = 1) ∧ (r.toInt = 1 → (h o2 11).toInt ≤ (h 129 2).toInt ∧ (h o2 13).toInt ≤ (h 129 3).toInt)))) := by
  refine pOfW (lv := [(0, .ref (zB Z + 129)), (1, .ref (zB Z + o2))]) (by decide) (Nat.le_of_ble_eq_true rfl) rfl ?_
  intro p e s m below meth c ls M hr hlk hnm V hl
  have hx := M.1.1
  have hb := M.1.2.1
  refine lv_aload_n hx hb dX9_holds_0 rfl (lv_at hl 1 rfl) ?_
  refine pg_i M V 7 10 ho2 pC7 fk7_10 lkF_X9_101 dX9_holds_1 ?_
  refine lv_topi (fun v1 ev1 => ?_)
  have tv1 : 0 ≤ v1.toInt ∧ v1.toInt ≤ 9000 := by rw [ev1]; exact I.get ho2 10
  have uv1 : v1.toInt = (h o2 10).toInt := congrArg Int32.toInt ev1
  refine lv_if_lt (tgt := 40) hx hb dX9_holds_4 (by decide) (fun c_4 => ?_) (fun c_4 => ?_)
  · skip
    have k_0 : (0 : Int32).toInt = 0 := rfl
    have c_4 := pi_lt.mp c_4
    refine lv_iconst (v := 0) hx hb dX9_holds_40 (by decide) ?_
    exact pe_i M V rfl rfl hr hlk (pn_z (pi_z (by omega))).1 ⟨rfl, rfl, by omega, fun z9 => by omega⟩ ⟨Nat.le_refl _, Nat.le_refl _⟩ dX9_holds_41
  · skip
    have k_0 : (0 : Int32).toInt = 0 := rfl
    have c_4 := pi_lt' c_4
    refine lv_aload_n hx hb dX9_holds_7 rfl (lv_at hl 1 rfl) ?_
    refine pg_i M V 7 11 ho2 pC7 fk7_11 lkF_X9_96 dX9_holds_8 ?_
    refine lv_topi (fun v2 ev2 => ?_)
    have tv2 : 0 ≤ v2.toInt ∧ v2.toInt ≤ 9000 := by rw [ev2]; exact I.get ho2 11
    have uv2 : v2.toInt = (h o2 11).toInt := congrArg Int32.toInt ev2
    refine lv_aload_n hx hb dX9_holds_11 rfl (lv_at hl 0 rfl) ?_
    refine pg_i M V 9 2 (c_is_129 S) pC9 fk9_2 lkF_X9_18 dX9_holds_12 ?_
    refine lv_topi (fun v3 ev3 => ?_)
    have tv3 : 0 ≤ v3.toInt ∧ v3.toInt ≤ 9000 := by rw [ev3]; exact I.get (c_is_129 S) 2
    have uv3 : v3.toInt = (h 129 2).toInt := congrArg Int32.toInt ev3
    refine lv_icmp_gt (tgt := 40) hx hb dX9_holds_15 (by decide) (fun c_15 => ?_) (fun c_15 => ?_)
    · skip
      have c_15 := pi_lt.mp c_15
      refine lv_iconst (v := 0) hx hb dX9_holds_40 (by decide) ?_
      exact pe_i M V rfl rfl hr hlk (pn_z (pi_z (by omega))).1 ⟨rfl, rfl, by omega, fun z9 => by omega⟩ ⟨Nat.le_refl _, Nat.le_refl _⟩ dX9_holds_41
    · skip
      have c_15 := pi_lt' c_15
      refine lv_aload_n hx hb dX9_holds_18 rfl (lv_at hl 1 rfl) ?_
      refine pg_i M V 7 12 ho2 pC7 fk7_12 lkF_X9_107 dX9_holds_19 ?_
      refine lv_topi (fun v4 ev4 => ?_)
      have tv4 : 0 ≤ v4.toInt ∧ v4.toInt ≤ 9000 := by rw [ev4]; exact I.get ho2 12
      have uv4 : v4.toInt = (h o2 12).toInt := congrArg Int32.toInt ev4
      refine lv_if_lt (tgt := 40) hx hb dX9_holds_22 (by decide) (fun c_22 => ?_) (fun c_22 => ?_)
      · skip
        have c_22 := pi_lt.mp c_22
        refine lv_iconst (v := 0) hx hb dX9_holds_40 (by decide) ?_
        exact pe_i M V rfl rfl hr hlk (pn_z (pi_z (by omega))).1 ⟨rfl, rfl, by omega, fun z9 => by omega⟩ ⟨Nat.le_refl _, Nat.le_refl _⟩ dX9_holds_41
      · skip
        have c_22 := pi_lt' c_22
        refine lv_aload_n hx hb dX9_holds_25 rfl (lv_at hl 1 rfl) ?_
        refine pg_i M V 7 13 ho2 pC7 fk7_13 lkF_X9_104 dX9_holds_26 ?_
        refine lv_topi (fun v5 ev5 => ?_)
        have tv5 : 0 ≤ v5.toInt ∧ v5.toInt ≤ 9000 := by rw [ev5]; exact I.get ho2 13
        have uv5 : v5.toInt = (h o2 13).toInt := congrArg Int32.toInt ev5
        refine lv_aload_n hx hb dX9_holds_29 rfl (lv_at hl 0 rfl) ?_
        refine pg_i M V 9 3 (c_is_129 S) pC9 fk9_3 lkF_X9_22 dX9_holds_30 ?_
        refine lv_topi (fun v6 ev6 => ?_)
        have tv6 : 0 ≤ v6.toInt ∧ v6.toInt ≤ 9000 := by rw [ev6]; exact I.get (c_is_129 S) 3
        have uv6 : v6.toInt = (h 129 3).toInt := congrArg Int32.toInt ev6
        refine lv_icmp_gt (tgt := 40) hx hb dX9_holds_33 (by decide) (fun c_33 => ?_) (fun c_33 => ?_)
        · skip
          have c_33 := pi_lt.mp c_33
          refine lv_iconst (v := 0) hx hb dX9_holds_40 (by decide) ?_
          exact pe_i M V rfl rfl hr hlk (pn_z (pi_z (by omega))).1 ⟨rfl, rfl, by omega, fun z9 => by omega⟩ ⟨Nat.le_refl _, Nat.le_refl _⟩ dX9_holds_41
        · skip
          have c_33 := pi_lt' c_33
          refine lv_iconst (v := 1) hx hb dX9_holds_36 (by decide) ?_
          refine lv_goto (tgt := 41) hx hb dX9_holds_37 (by decide) ?_
          have k_1 : (1 : Int32).toInt = 1 := rfl
          exact pe_i M V rfl rfl hr hlk (pn_z (pi_z (by omega))).1 ⟨rfl, rfl, by omega, fun z9 => by omega⟩ ⟨Nat.le_refl _, Nat.le_refl _⟩ dX9_holds_41
