theorem dX12_bars_0 : decode cX12_bars 0 = .ok (.aload_n 0, 1) := by decide +kernel
theorem dX12_bars_1 : decode cX12_bars 1 = .ok (.iload_n 1, 1) := by decide +kernel
theorem dX12_bars_2 : decode cX12_bars 2 = .ok (.ifCond .eq 7, 3) := by decide +kernel
theorem dX12_bars_5 : decode cX12_bars 5 = .ok (.iconst 0, 1) := by decide +kernel
theorem dX12_bars_6 : decode cX12_bars 6 = .ok (.goto 4, 3) := by decide +kernel
theorem dX12_bars_9 : decode cX12_bars 9 = .ok (.iconst 1, 1) := by decide +kernel
theorem dX12_bars_10 : decode cX12_bars 10 = .ok (.putfield 175, 3) := by decide +kernel
theorem dX12_bars_13 : decode cX12_bars 13 = .ok (.iload_n 1, 1) := by decide +kernel
theorem dX12_bars_14 : decode cX12_bars 14 = .ok (.ifCond .ne 5, 3) := by decide +kernel
theorem dX12_bars_17 : decode cX12_bars 17 = .ok (.iconst 1, 1) := by decide +kernel
theorem dX12_bars_18 : decode cX12_bars 18 = .ok (.ireturn, 1) := by decide +kernel
theorem dX12_bars_19 : decode cX12_bars 19 = .ok (.aload_n 0, 1) := by decide +kernel
theorem dX12_bars_20 : decode cX12_bars 20 = .ok (.getfield 236, 3) := by decide +kernel
theorem dX12_bars_23 : decode cX12_bars 23 = .ok (.ifCond .eq 12, 3) := by decide +kernel
theorem dX12_bars_26 : decode cX12_bars 26 = .ok (.aload_n 0, 1) := by decide +kernel
theorem dX12_bars_27 : decode cX12_bars 27 = .ok (.getfield 285, 3) := by decide +kernel
theorem dX12_bars_30 : decode cX12_bars 30 = .ok (.ifCond .le 5, 3) := by decide +kernel
theorem dX12_bars_33 : decode cX12_bars 33 = .ok (.iconst 0, 1) := by decide +kernel
theorem dX12_bars_34 : decode cX12_bars 34 = .ok (.ireturn, 1) := by decide +kernel
theorem dX12_bars_35 : decode cX12_bars 35 = .ok (.aload_n 0, 1) := by decide +kernel
theorem dX12_bars_36 : decode cX12_bars 36 = .ok (.iconst 2, 1) := by decide +kernel
theorem dX12_bars_37 : decode cX12_bars 37 = .ok (.invokevirtual 297, 3) := by decide +kernel
theorem dX12_bars_40 : decode cX12_bars 40 = .ok (.pop, 1) := by decide +kernel
theorem dX12_bars_41 : decode cX12_bars 41 = .ok (.iconst 1, 1) := by decide +kernel
theorem dX12_bars_42 : decode cX12_bars 42 = .ok (.ireturn, 1) := by decide +kernel
set_option maxHeartbeats 4000000 in
set_option maxRecDepth 100000 in
theorem m_X12_bars (l : Launch) {Z : pZ} (S : pSh Z) {h : pH} (I : Iv Z h) (good : Int32) (hg : 0 ≤ good.toInt ∧ good.toInt ≤ 1) : pMet l yX12_bars cX12_bars 2 (some .boolean) 1 0 0 22 Z h [.ref (zB Z + 137), .int good] (pQi Z (fun r Z1 h1 => Z = Z1 ∧ Iv Z h1 ∧ agr [(137, 0), (137, 18), (137, 19), (137, 20), (137, 22), (137, 21), (137, 23), (137, 40), (137, 48), (137, 56), (137, 58), (137, 70), (137, 71), (153, 1000)] h h1 ∧ (r.toInt = 0 ∨ r.toInt = 1) ∧ (r.toInt = 0 → good.toInt = 1 ∧ 1 ≤ (h 137 70).toInt ∧ agr [(137, 0)] h h1) ∧ (mS h → mS h1))) := by
  refine pOfW (lv := [(0, .ref (zB Z + 137)), (1, .int good)]) (by decide) (Nat.le_of_ble_eq_true rfl) rfl ?_
  intro p e s m below meth c ls M hr hlk hnm V hl
  have hx := M.1.1
  have hb := M.1.2.1
  have A : agr [] h h := agr.rf
  have i_70 : 0 ≤ (h 137 70).toInt ∧ (h 137 70).toInt ≤ 40 := I.get (sm_this S) 70
  refine lv_aload_n hx hb dX12_bars_0 rfl (lv_at hl 0 rfl) ?_
  refine lv_iload_n hx hb dX12_bars_1 rfl (lv_at hl 1 rfl) ?_
  refine lv_if_eq (tgt := 9) hx hb dX12_bars_2 (by decide) (fun c_2 => ?_) (fun c_2 => ?_)
  · skip
    have k_0 : (0 : Int32).toInt = 0 := rfl
    have c_2 := pi_eq.mp c_2
    refine lv_iconst (v := 1) hx hb dX12_bars_9 (by decide) ?_
    refine pp_i M V 12 0 (sm_this S) pC12 fk12_0 rfl lkF_X12_175 ⟨rfl, rfl⟩ dX12_bars_10 (fun H locs V => ?_)
    have A := A.wk (l3 := [(137, 0)]) (by decide)
    have A := A.up (o := 137) (k := 0) (v := (1 : Int32)) (by decide)
    have I := I.up (k := 0) (v := (1 : Int32)) (sm_this S) (pi_full _)
    refine lv_iload_n hx hb dX12_bars_13 rfl (lv_at hl 1 rfl) ?_
    refine lv_if_ne (tgt := 19) hx hb dX12_bars_14 (by decide) (fun c_14 => ?_) (fun c_14 => ?_)
    · skip
      have c_14 := pi_ne c_14
      refine lv_aload_n hx hb dX12_bars_19 rfl (lv_at hl 0 rfl) ?_
      refine pg_i M V 12 18 (sm_this S) pC12 fk12_18 lkF_X12_236 dX12_bars_20 ?_
      refine lv_topi (fun v1 ev1 => ?_)
      have tv1 : 0 ≤ v1.toInt ∧ v1.toInt ≤ 1 := by rw [ev1]; exact I.get (sm_this S) 18
      refine lv_if_eq (tgt := 35) hx hb dX12_bars_23 (by decide) (fun c_23 => ?_) (fun c_23 => ?_)
      · skip
        have c_23 := pi_eq.mp c_23
        refine lv_aload_n hx hb dX12_bars_35 rfl (lv_at hl 0 rfl) ?_
        refine lv_iconst (v := 2) hx hb dX12_bars_36 (by decide) ?_
        refine pk_i (pr_V M V (m_X12_fails l S I (2 : Int32) ) km_X12_fails (sm_this S) pC12 lkM_X12_297 rfl hl.1 rfl (Nat.le_of_ble_eq_true rfl) ⟨Nat.le_of_ble_eq_true rfl, Nat.le_of_ble_eq_true rfl⟩ ⟨Nat.le_of_ble_eq_true rfl, Nat.le_of_ble_eq_true rfl⟩ dX12_bars_37) V (fun r2 Zr2 hr2 H locs pr2 _ _ V => ?_)
        obtain ⟨rfl, I, pA_r2, fr2_0, fr2_1⟩ := pr2
        have A := A.wk (l3 := [(137, 0), (137, 18), (137, 19), (137, 20), (137, 22), (137, 21), (137, 23), (137, 40), (137, 48), (137, 56), (137, 58), (137, 70), (137, 71), (153, 1000)]) (by decide)
        have A := A.tr pA_r2 (by decide)
        refine lv_pop hx hb dX12_bars_40 rfl ?_
        refine lv_iconst (v := 1) hx hb dX12_bars_41 (by decide) ?_
        have k_1 : (1 : Int32).toInt = 1 := rfl
        exact pe_i M V rfl rfl hr hlk (pn_z (pi_z (by omega))).1 ⟨rfl, I, A.wk (by decide), by omega, (fun z9 => absurd z9 (by omega)), (fun a9 => fr2_1 (a9.congr rfl rfl rfl rfl rfl rfl rfl))⟩ ⟨Nat.le_refl _, Nat.le_refl _⟩ dX12_bars_42
      · skip
        have c_23 := pi_ne c_23
        refine lv_aload_n hx hb dX12_bars_26 rfl (lv_at hl 0 rfl) ?_
        refine pg_i M V 12 70 (sm_this S) pC12 fk12_70 lkF_X12_285 dX12_bars_27 ?_
        refine lv_topi (fun v3 ev3 => ?_)
        have tv3 : 0 ≤ v3.toInt ∧ v3.toInt ≤ 40 := by rw [ev3]; exact I.get (sm_this S) 70
        have uv3 : v3.toInt = (h 137 70).toInt := congrArg Int32.toInt ev3
        refine lv_if_le (tgt := 35) hx hb dX12_bars_30 (by decide) (fun c_30 => ?_) (fun c_30 => ?_)
        · skip
          have c_30 := pi_le.mp c_30
          refine lv_aload_n hx hb dX12_bars_35 rfl (lv_at hl 0 rfl) ?_
          refine lv_iconst (v := 2) hx hb dX12_bars_36 (by decide) ?_
          refine pk_i (pr_V M V (m_X12_fails l S I (2 : Int32) ) km_X12_fails (sm_this S) pC12 lkM_X12_297 rfl hl.1 rfl (Nat.le_of_ble_eq_true rfl) ⟨Nat.le_of_ble_eq_true rfl, Nat.le_of_ble_eq_true rfl⟩ ⟨Nat.le_of_ble_eq_true rfl, Nat.le_of_ble_eq_true rfl⟩ dX12_bars_37) V (fun r4 Zr4 hr4 H locs pr4 _ _ V => ?_)
          obtain ⟨rfl, I, pA_r4, fr4_0, fr4_1⟩ := pr4
          have A := A.wk (l3 := [(137, 0), (137, 18), (137, 19), (137, 20), (137, 22), (137, 21), (137, 23), (137, 40), (137, 48), (137, 56), (137, 58), (137, 70), (137, 71), (153, 1000)]) (by decide)
          have A := A.tr pA_r4 (by decide)
          refine lv_pop hx hb dX12_bars_40 rfl ?_
          refine lv_iconst (v := 1) hx hb dX12_bars_41 (by decide) ?_
          have k_1 : (1 : Int32).toInt = 1 := rfl
          exact pe_i M V rfl rfl hr hlk (pn_z (pi_z (by omega))).1 ⟨rfl, I, A.wk (by decide), by omega, (fun z9 => absurd z9 (by omega)), (fun a9 => fr4_1 (a9.congr rfl rfl rfl rfl rfl rfl rfl))⟩ ⟨Nat.le_refl _, Nat.le_refl _⟩ dX12_bars_42
        · skip
          have c_30 := pi_le' c_30
          refine lv_iconst (v := 0) hx hb dX12_bars_33 (by decide) ?_
          exact pe_i M V rfl rfl hr hlk (pn_z (pi_z (by omega))).1 ⟨rfl, I, A.wk (by decide), by omega, (fun _ => ⟨by omega, show 1 ≤ (h 137 70).toInt by omega, A.wk (by decide)⟩), (fun a9 => a9.congr rfl rfl rfl rfl rfl rfl rfl)⟩ ⟨Nat.le_refl _, Nat.le_refl _⟩ dX12_bars_34
    · skip
      have c_14 := pi_eq.mp c_14
      refine lv_iconst (v := 1) hx hb dX12_bars_17 (by decide) ?_
      have k_1 : (1 : Int32).toInt = 1 := rfl
      exact pe_i M V rfl rfl hr hlk (pn_z (pi_z (by omega))).1 ⟨rfl, I, A.wk (by decide), by omega, (fun z9 => absurd z9 (by omega)), (fun a9 => a9.congr rfl rfl rfl rfl rfl rfl rfl)⟩ ⟨Nat.le_refl _, Nat.le_refl _⟩ dX12_bars_18
  · skip
    have k_0 : (0 : Int32).toInt = 0 := rfl
    have c_2 := pi_ne c_2
    refine lv_iconst (v := 0) hx hb dX12_bars_5 (by decide) ?_
    refine lv_goto (tgt := 10) hx hb dX12_bars_6 (by decide) ?_
    refine pp_i M V 12 0 (sm_this S) pC12 fk12_0 rfl lkF_X12_175 ⟨rfl, rfl⟩ dX12_bars_10 (fun H locs V => ?_)
    have A := A.wk (l3 := [(137, 0)]) (by decide)
    have A := A.up (o := 137) (k := 0) (v := (0 : Int32)) (by decide)
    have I := I.up (k := 0) (v := (0 : Int32)) (sm_this S) (pi_full _)
    refine lv_iload_n hx hb dX12_bars_13 rfl (lv_at hl 1 rfl) ?_
    refine lv_if_ne (tgt := 19) hx hb dX12_bars_14 (by decide) (fun c_14 => ?_) (fun c_14 => ?_)
    · skip
      have c_14 := pi_ne c_14
      refine lv_aload_n hx hb dX12_bars_19 rfl (lv_at hl 0 rfl) ?_
      refine pg_i M V 12 18 (sm_this S) pC12 fk12_18 lkF_X12_236 dX12_bars_20 ?_
      refine lv_topi (fun v5 ev5 => ?_)
      have tv5 : 0 ≤ v5.toInt ∧ v5.toInt ≤ 1 := by rw [ev5]; exact I.get (sm_this S) 18
      refine lv_if_eq (tgt := 35) hx hb dX12_bars_23 (by decide) (fun c_23 => ?_) (fun c_23 => ?_)
      · skip
        have c_23 := pi_eq.mp c_23
        refine lv_aload_n hx hb dX12_bars_35 rfl (lv_at hl 0 rfl) ?_
        refine lv_iconst (v := 2) hx hb dX12_bars_36 (by decide) ?_
        refine pk_i (pr_V M V (m_X12_fails l S I (2 : Int32) ) km_X12_fails (sm_this S) pC12 lkM_X12_297 rfl hl.1 rfl (Nat.le_of_ble_eq_true rfl) ⟨Nat.le_of_ble_eq_true rfl, Nat.le_of_ble_eq_true rfl⟩ ⟨Nat.le_of_ble_eq_true rfl, Nat.le_of_ble_eq_true rfl⟩ dX12_bars_37) V (fun r6 Zr6 hr6 H locs pr6 _ _ V => ?_)
        obtain ⟨rfl, I, pA_r6, fr6_0, fr6_1⟩ := pr6
        have A := A.wk (l3 := [(137, 0), (137, 18), (137, 19), (137, 20), (137, 22), (137, 21), (137, 23), (137, 40), (137, 48), (137, 56), (137, 58), (137, 70), (137, 71), (153, 1000)]) (by decide)
        have A := A.tr pA_r6 (by decide)
        refine lv_pop hx hb dX12_bars_40 rfl ?_
        refine lv_iconst (v := 1) hx hb dX12_bars_41 (by decide) ?_
        have k_1 : (1 : Int32).toInt = 1 := rfl
        exact pe_i M V rfl rfl hr hlk (pn_z (pi_z (by omega))).1 ⟨rfl, I, A.wk (by decide), by omega, (fun z9 => absurd z9 (by omega)), (fun a9 => fr6_1 (a9.congr rfl rfl rfl rfl rfl rfl rfl))⟩ ⟨Nat.le_refl _, Nat.le_refl _⟩ dX12_bars_42
      · skip
        have c_23 := pi_ne c_23
        refine lv_aload_n hx hb dX12_bars_26 rfl (lv_at hl 0 rfl) ?_
        refine pg_i M V 12 70 (sm_this S) pC12 fk12_70 lkF_X12_285 dX12_bars_27 ?_
        refine lv_topi (fun v7 ev7 => ?_)
        have tv7 : 0 ≤ v7.toInt ∧ v7.toInt ≤ 40 := by rw [ev7]; exact I.get (sm_this S) 70
        have uv7 : v7.toInt = (h 137 70).toInt := congrArg Int32.toInt ev7
        refine lv_if_le (tgt := 35) hx hb dX12_bars_30 (by decide) (fun c_30 => ?_) (fun c_30 => ?_)
        · skip
          have c_30 := pi_le.mp c_30
          refine lv_aload_n hx hb dX12_bars_35 rfl (lv_at hl 0 rfl) ?_
          refine lv_iconst (v := 2) hx hb dX12_bars_36 (by decide) ?_
          refine pk_i (pr_V M V (m_X12_fails l S I (2 : Int32) ) km_X12_fails (sm_this S) pC12 lkM_X12_297 rfl hl.1 rfl (Nat.le_of_ble_eq_true rfl) ⟨Nat.le_of_ble_eq_true rfl, Nat.le_of_ble_eq_true rfl⟩ ⟨Nat.le_of_ble_eq_true rfl, Nat.le_of_ble_eq_true rfl⟩ dX12_bars_37) V (fun r8 Zr8 hr8 H locs pr8 _ _ V => ?_)
          obtain ⟨rfl, I, pA_r8, fr8_0, fr8_1⟩ := pr8
          have A := A.wk (l3 := [(137, 0), (137, 18), (137, 19), (137, 20), (137, 22), (137, 21), (137, 23), (137, 40), (137, 48), (137, 56), (137, 58), (137, 70), (137, 71), (153, 1000)]) (by decide)
          have A := A.tr pA_r8 (by decide)
          refine lv_pop hx hb dX12_bars_40 rfl ?_
          refine lv_iconst (v := 1) hx hb dX12_bars_41 (by decide) ?_
          have k_1 : (1 : Int32).toInt = 1 := rfl
          exact pe_i M V rfl rfl hr hlk (pn_z (pi_z (by omega))).1 ⟨rfl, I, A.wk (by decide), by omega, (fun z9 => absurd z9 (by omega)), (fun a9 => fr8_1 (a9.congr rfl rfl rfl rfl rfl rfl rfl))⟩ ⟨Nat.le_refl _, Nat.le_refl _⟩ dX12_bars_42
        · skip
          have c_30 := pi_le' c_30
          refine lv_iconst (v := 0) hx hb dX12_bars_33 (by decide) ?_
          exact pe_i M V rfl rfl hr hlk (pn_z (pi_z (by omega))).1 ⟨rfl, I, A.wk (by decide), by omega, (fun _ => ⟨by omega, show 1 ≤ (h 137 70).toInt by omega, A.wk (by decide)⟩), (fun a9 => a9.congr rfl rfl rfl rfl rfl rfl rfl)⟩ ⟨Nat.le_refl _, Nat.le_refl _⟩ dX12_bars_34
    · skip
      have c_14 := pi_eq.mp c_14
      refine lv_iconst (v := 1) hx hb dX12_bars_17 (by decide) ?_
      have k_1 : (1 : Int32).toInt = 1 := rfl
      exact pe_i M V rfl rfl hr hlk (pn_z (pi_z (by omega))).1 ⟨rfl, I, A.wk (by decide), by omega, (fun z9 => absurd z9 (by omega)), (fun a9 => a9.congr rfl rfl rfl rfl rfl rfl rfl)⟩ ⟨Nat.le_refl _, Nat.le_refl _⟩ dX12_bars_18
theorem dX12_dismiss_0 : decode cX12_dismiss 0 = .ok (.aload_n 0, 1) := by decide +kernel
theorem dX12_dismiss_1 : decode cX12_dismiss 1 = .ok (.iconst 0, 1) := by decide +kernel
theorem dX12_dismiss_2 : decode cX12_dismiss 2 = .ok (.putfield 175, 3) := by decide +kernel
theorem dX12_dismiss_5 : decode cX12_dismiss 5 = .ok (.aload_n 0, 1) := by decide +kernel
theorem dX12_dismiss_6 : decode cX12_dismiss 6 = .ok (.getfield 69, 3) := by decide +kernel
theorem dX12_dismiss_9 : decode cX12_dismiss 9 = .ok (.iconst (-1), 1) := by decide +kernel
theorem dX12_dismiss_10 : decode cX12_dismiss 10 = .ok (.if_icmp .eq 7, 3) := by decide +kernel
theorem dX12_dismiss_13 : decode cX12_dismiss 13 = .ok (.iconst 1, 1) := by decide +kernel
theorem dX12_dismiss_14 : decode cX12_dismiss 14 = .ok (.goto 4, 3) := by decide +kernel
theorem dX12_dismiss_17 : decode cX12_dismiss 17 = .ok (.iconst 0, 1) := by decide +kernel
theorem dX12_dismiss_18 : decode cX12_dismiss 18 = .ok (.istore_n 1, 1) := by decide +kernel
theorem dX12_dismiss_19 : decode cX12_dismiss 19 = .ok (.aload_n 0, 1) := by decide +kernel
theorem dX12_dismiss_20 : decode cX12_dismiss 20 = .ok (.iconst (-1), 1) := by decide +kernel
theorem dX12_dismiss_21 : decode cX12_dismiss 21 = .ok (.putfield 69, 3) := by decide +kernel
theorem dX12_dismiss_24 : decode cX12_dismiss 24 = .ok (.iload_n 1, 1) := by decide +kernel
theorem dX12_dismiss_25 : decode cX12_dismiss 25 = .ok (.ireturn, 1) := by decide +kernel
set_option maxHeartbeats 4000000 in
set_option maxRecDepth 100000 in
theorem m_X12_dismiss (l : Launch) {Z : pZ} (S : pSh Z) {h : pH} (I : Iv Z h) (E9 : mE h) (S9 : mS h) (K9 : mK h) : pMet l yX12_dismiss cX12_dismiss 2 (some .boolean) 0 0 0 0 Z h [.ref (zB Z + 137)] (pQi Z (fun r Z1 h1 => Z = Z1 ∧ Iv Z h1 ∧ agr [(137, 0), (137, 40)] h h1 ∧ (r.toInt = 0 ∨ r.toInt = 1) ∧ (mE h1) ∧ (mS h1) ∧ (mK h1))) := by
  refine pOfW (lv := [(0, .ref (zB Z + 137))]) (by decide) (Nat.le_of_ble_eq_true rfl) rfl ?_
  intro p e s m below meth c ls M hr hlk hnm V hl
  have hx := M.1.1
  have hb := M.1.2.1
  have A : agr [] h h := agr.rf
  have J_18 : ∀ (y18_0 : Int32) (hJ : pH) (H : Heap) (locs : List Loc) (ls : Array Slot), pV Z hJ s.heap H locs → Iv Z hJ → agr [(137, 0)] h hJ → lv_has ls 2 [(0, .ref (zB Z + 137))] → (0 ≤ y18_0.toInt ∧ y18_0.toInt ≤ 1) → mE hJ → mS hJ → mK hJ → W p l e (pRm 0 0 0 0) s m ([.ref (zB Z + 137)] : List Value).toArray below meth c H locs 0 0 (MQ below (pQi Z (fun r Z1 h1 => Z = Z1 ∧ Iv Z h1 ∧ agr [(137, 0), (137, 40)] h h1 ∧ (r.toInt = 0 ∨ r.toInt = 1) ∧ (mE h1) ∧ (mS h1) ∧ (mK h1))) ([.ref (zB Z + 137)] : List Value).toArray s 0 0 (pA (zB Z))) (F0 m 18 ls [.int y18_0]) := by
    intro y18_0 hJ H locs ls V I A hl gs_18_0 E9 S9 K9
    refine lv_istore_n (lv' := [(1, .int y18_0), (0, .ref (zB Z + 137))]) hx hb dX12_dismiss_18 rfl hl (by decide) rfl (fun ls hl => ?_)
    refine lv_aload_n hx hb dX12_dismiss_19 rfl (lv_at hl 1 rfl) ?_
    refine lv_iconst (v := (-1)) hx hb dX12_dismiss_20 (by decide) ?_
    refine pp_i M V 12 40 (sm_this S) pC12 fk12_40 rfl lkF_X12_69 ⟨rfl, rfl⟩ dX12_dismiss_21 (fun H locs V => ?_)
    have A := A.wk (l3 := [(137, 0), (137, 40)]) (by decide)
    have A := A.up (o := 137) (k := 40) (v := (-1 : Int32)) (by decide)
    have I := I.up (k := 40) (v := (-1 : Int32)) (sm_this S) (pi_full _)
    refine lv_iload_n hx hb dX12_dismiss_24 rfl (lv_at hl 0 rfl) ?_
    exact pe_i M V rfl rfl hr hlk (pn_z (pi_z (by omega))).1 ⟨rfl, I, A.wk (by decide), by omega, (E9.congr rfl rfl), (S9.congr rfl rfl rfl rfl rfl rfl rfl), (K9.congr rfl rfl)⟩ ⟨Nat.le_refl _, Nat.le_refl _⟩ dX12_dismiss_25
  refine lv_aload_n hx hb dX12_dismiss_0 rfl (lv_at hl 0 rfl) ?_
  refine lv_iconst (v := 0) hx hb dX12_dismiss_1 (by decide) ?_
  refine pp_i M V 12 0 (sm_this S) pC12 fk12_0 rfl lkF_X12_175 ⟨rfl, rfl⟩ dX12_dismiss_2 (fun H locs V => ?_)
  have A := A.wk (l3 := [(137, 0)]) (by decide)
  have A := A.up (o := 137) (k := 0) (v := (0 : Int32)) (by decide)
  have I := I.up (k := 0) (v := (0 : Int32)) (sm_this S) (pi_full _)
  refine lv_aload_n hx hb dX12_dismiss_5 rfl (lv_at hl 0 rfl) ?_
  refine pg_i M V 12 40 (sm_this S) pC12 fk12_40 lkF_X12_69 dX12_dismiss_6 ?_
  refine lv_topi (fun v1 ev1 => ?_)
  refine lv_iconst (v := (-1)) hx hb dX12_dismiss_9 (by decide) ?_
  refine lv_icmp_eq (tgt := 17) hx hb dX12_dismiss_10 (by decide) (fun c_10 => ?_) (fun c_10 => ?_)
  · skip
    have k_m1 : (-1 : Int32).toInt = -1 := rfl
    have c_10 := pi_eq.mp c_10
    refine lv_iconst (v := 0) hx hb dX12_dismiss_17 (by decide) ?_
    have k_0 : (0 : Int32).toInt = 0 := rfl
    exact J_18 (0 : Int32) _ _ _ _ V I (A.wk (by decide)) (lv_sub hl [0] rfl) (by omega) (E9.congr rfl rfl) (S9.congr rfl rfl rfl rfl rfl rfl rfl) (K9.congr rfl rfl) 
  · skip
    have k_m1 : (-1 : Int32).toInt = -1 := rfl
    have c_10 := pi_ne c_10
    refine lv_iconst (v := 1) hx hb dX12_dismiss_13 (by decide) ?_
    refine lv_goto (tgt := 18) hx hb dX12_dismiss_14 (by decide) ?_
    have k_1 : (1 : Int32).toInt = 1 := rfl
    exact J_18 (1 : Int32) _ _ _ _ V I (A.wk (by decide)) (lv_sub hl [0] rfl) (by omega) (E9.congr rfl rfl) (S9.congr rfl rfl rfl rfl rfl rfl rfl) (K9.congr rfl rfl) 
theorem dX12_kept_0 : decode cX12_kept 0 = .ok (.aload_n 0, 1) := by decide +kernel
theorem dX12_kept_1 : decode cX12_kept 1 = .ok (.iconst 0, 1) := by decide +kernel
theorem dX12_kept_2 : decode cX12_kept 2 = .ok (.putfield 175, 3) := by decide +kernel
theorem dX12_kept_5 : decode cX12_kept 5 = .ok (.aload_n 0, 1) := by decide +kernel
theorem dX12_kept_6 : decode cX12_kept 6 = .ok (.iload_n 1, 1) := by decide +kernel
theorem dX12_kept_7 : decode cX12_kept 7 = .ok (.invokevirtual 387, 3) := by decide +kernel
theorem dX12_kept_10 : decode cX12_kept 10 = .ok (.ireturn, 1) := by decide +kernel
set_option maxHeartbeats 4000000 in
set_option maxRecDepth 100000 in
theorem m_X12_kept (l : Launch) {Z : pZ} (S : pSh Z) {h : pH} (I : Iv Z h) (id : Int32) (E9 : mE h) (S9 : mS h) (K9 : mK h) : pMet l yX12_kept cX12_kept 2 (some .int) 2 0 0 43 Z h [.ref (zB Z + 137), .int id] (pQi Z (fun r Z1 h1 => Z = Z1 ∧ Iv Z h1 ∧ agr [(137, 0)] h h1 ∧ (mE h1) ∧ (mS h1) ∧ (mK h1))) := by
  refine pOfW (lv := [(0, .ref (zB Z + 137)), (1, .int id)]) (by decide) (Nat.le_of_ble_eq_true rfl) rfl ?_
  intro p e s m below meth c ls M hr hlk hnm V hl
  have hx := M.1.1
  have hb := M.1.2.1
  have A : agr [] h h := agr.rf
  refine lv_aload_n hx hb dX12_kept_0 rfl (lv_at hl 0 rfl) ?_
  refine lv_iconst (v := 0) hx hb dX12_kept_1 (by decide) ?_
  refine pp_i M V 12 0 (sm_this S) pC12 fk12_0 rfl lkF_X12_175 ⟨rfl, rfl⟩ dX12_kept_2 (fun H locs V => ?_)
  have A := A.wk (l3 := [(137, 0)]) (by decide)
  have A := A.up (o := 137) (k := 0) (v := (0 : Int32)) (by decide)
  have I := I.up (k := 0) (v := (0 : Int32)) (sm_this S) (pi_full _)
  refine lv_aload_n hx hb dX12_kept_5 rfl (lv_at hl 0 rfl) ?_
  refine lv_iload_n hx hb dX12_kept_6 rfl (lv_at hl 1 rfl) ?_
  refine pk_i (pr_V M V (m_X12_numberOf l S I id ) km_X12_numberOf (sm_this S) pC12 lkM_X12_387 rfl hl.1 rfl (Nat.le_of_ble_eq_true rfl) ⟨Nat.le_of_ble_eq_true rfl, Nat.le_of_ble_eq_true rfl⟩ ⟨Nat.le_of_ble_eq_true rfl, Nat.le_of_ble_eq_true rfl⟩ dX12_kept_7) V (fun r1 Zr1 hr1 H locs pr1 _ _ V => ?_)
  obtain ⟨rfl, I, pA_r1⟩ := pr1
  have A := A.tr pA_r1 (by decide)
  have E9 : mE hr1 := E9.congr (pA_r1.get 137 2 (by decide)) (pA_r1.row 138 (by decide))
  have S9 : mS hr1 := S9.congr (pA_r1.get 137 56 (by decide)) (pA_r1.get 137 70 (by decide)) (pA_r1.get 137 58 (by decide)) (pA_r1.row 162 (by decide)) (pA_r1.row 163 (by decide)) (pA_r1.row 165 (by decide)) (pA_r1.row 166 (by decide))
  have K9 : mK hr1 := K9.congr (pA_r1.row 185 (by decide)) (pA_r1.row 184 (by decide))
  exact pe_i M V rfl rfl hr hlk rfl ⟨rfl, I, A.wk (by decide), (E9.congr rfl rfl), (S9.congr rfl rfl rfl rfl rfl rfl rfl), (K9.congr rfl rfl)⟩ ⟨Nat.le_refl _, Nat.le_refl _⟩ dX12_kept_10
theorem dX12_look_0 : decode cX12_look 0 = .ok (.aload_n 0, 1) := by decide +kernel
theorem dX12_look_1 : decode cX12_look 1 = .ok (.iconst 0, 1) := by decide +kernel
theorem dX12_look_2 : decode cX12_look 2 = .ok (.putfield 175, 3) := by decide +kernel
theorem dX12_look_5 : decode cX12_look 5 = .ok (.iload_n 1, 1) := by decide +kernel
theorem dX12_look_6 : decode cX12_look 6 = .ok (.tableswitch 154 0 14 #[74, 79, 84, 89, 94, 99, 99, 99, 99, 108, 113, 126, 131, 136, 141], 74) := by decide +kernel
theorem dX12_look_80 : decode cX12_look 80 = .ok (.aload_n 0, 1) := by decide +kernel
theorem dX12_look_81 : decode cX12_look 81 = .ok (.getfield 255, 3) := by decide +kernel
theorem dX12_look_84 : decode cX12_look 84 = .ok (.ireturn, 1) := by decide +kernel
theorem dX12_look_85 : decode cX12_look 85 = .ok (.aload_n 0, 1) := by decide +kernel
theorem dX12_look_86 : decode cX12_look 86 = .ok (.getfield 264, 3) := by decide +kernel
theorem dX12_look_89 : decode cX12_look 89 = .ok (.ireturn, 1) := by decide +kernel
theorem dX12_look_90 : decode cX12_look 90 = .ok (.aload_n 0, 1) := by decide +kernel
theorem dX12_look_91 : decode cX12_look 91 = .ok (.getfield 294, 3) := by decide +kernel
theorem dX12_look_94 : decode cX12_look 94 = .ok (.ireturn, 1) := by decide +kernel
theorem dX12_look_95 : decode cX12_look 95 = .ok (.aload_n 0, 1) := by decide +kernel
theorem dX12_look_96 : decode cX12_look 96 = .ok (.getfield 291, 3) := by decide +kernel
theorem dX12_look_99 : decode cX12_look 99 = .ok (.ireturn, 1) := by decide +kernel
theorem dX12_look_100 : decode cX12_look 100 = .ok (.aload_n 0, 1) := by decide +kernel
theorem dX12_look_101 : decode cX12_look 101 = .ok (.getfield 26, 3) := by decide +kernel
theorem dX12_look_104 : decode cX12_look 104 = .ok (.ireturn, 1) := by decide +kernel
theorem dX12_look_105 : decode cX12_look 105 = .ok (.aload_n 0, 1) := by decide +kernel
theorem dX12_look_106 : decode cX12_look 106 = .ok (.getfield 150, 3) := by decide +kernel
theorem dX12_look_109 : decode cX12_look 109 = .ok (.iload_n 1, 1) := by decide +kernel
theorem dX12_look_110 : decode cX12_look 110 = .ok (.iconst 5, 1) := by decide +kernel
theorem dX12_look_111 : decode cX12_look 111 = .ok (.isub, 1) := by decide +kernel
theorem dX12_look_112 : decode cX12_look 112 = .ok (.iaload, 1) := by decide +kernel
theorem dX12_look_113 : decode cX12_look 113 = .ok (.ireturn, 1) := by decide +kernel
theorem dX12_look_114 : decode cX12_look 114 = .ok (.aload_n 0, 1) := by decide +kernel
theorem dX12_look_115 : decode cX12_look 115 = .ok (.getfield 69, 3) := by decide +kernel
theorem dX12_look_118 : decode cX12_look 118 = .ok (.ireturn, 1) := by decide +kernel
theorem dX12_look_119 : decode cX12_look 119 = .ok (.aload_n 0, 1) := by decide +kernel
theorem dX12_look_120 : decode cX12_look 120 = .ok (.getfield 198, 3) := by decide +kernel
theorem dX12_look_123 : decode cX12_look 123 = .ok (.ifCond .eq 7, 3) := by decide +kernel
theorem dX12_look_126 : decode cX12_look 126 = .ok (.iconst 1, 1) := by decide +kernel
theorem dX12_look_127 : decode cX12_look 127 = .ok (.goto 4, 3) := by decide +kernel
theorem dX12_look_130 : decode cX12_look 130 = .ok (.iconst 0, 1) := by decide +kernel
theorem dX12_look_131 : decode cX12_look 131 = .ok (.ireturn, 1) := by decide +kernel
theorem dX12_look_132 : decode cX12_look 132 = .ok (.aload_n 0, 1) := by decide +kernel
theorem dX12_look_133 : decode cX12_look 133 = .ok (.getfield 185, 3) := by decide +kernel
theorem dX12_look_136 : decode cX12_look 136 = .ok (.ireturn, 1) := by decide +kernel
theorem dX12_look_137 : decode cX12_look 137 = .ok (.aload_n 0, 1) := by decide +kernel
theorem dX12_look_138 : decode cX12_look 138 = .ok (.getfield 362, 3) := by decide +kernel
theorem dX12_look_141 : decode cX12_look 141 = .ok (.ireturn, 1) := by decide +kernel
theorem dX12_look_142 : decode cX12_look 142 = .ok (.aload_n 0, 1) := by decide +kernel
theorem dX12_look_143 : decode cX12_look 143 = .ok (.getfield 279, 3) := by decide +kernel
theorem dX12_look_146 : decode cX12_look 146 = .ok (.ireturn, 1) := by decide +kernel
theorem dX12_look_147 : decode cX12_look 147 = .ok (.aload_n 0, 1) := by decide +kernel
theorem dX12_look_148 : decode cX12_look 148 = .ok (.getfield 236, 3) := by decide +kernel
theorem dX12_look_151 : decode cX12_look 151 = .ok (.ifCond .eq 7, 3) := by decide +kernel
theorem dX12_look_154 : decode cX12_look 154 = .ok (.iconst 1, 1) := by decide +kernel
theorem dX12_look_155 : decode cX12_look 155 = .ok (.goto 4, 3) := by decide +kernel
theorem dX12_look_158 : decode cX12_look 158 = .ok (.iconst 0, 1) := by decide +kernel
theorem dX12_look_159 : decode cX12_look 159 = .ok (.ireturn, 1) := by decide +kernel
theorem dX12_look_160 : decode cX12_look 160 = .ok (.iconst (-1), 1) := by decide +kernel
theorem dX12_look_161 : decode cX12_look 161 = .ok (.ireturn, 1) := by decide +kernel
set_option maxHeartbeats 4000000 in
set_option maxRecDepth 100000 in
theorem m_X12_look (l : Launch) {Z : pZ} (S : pSh Z) {h : pH} (I : Iv Z h) (what : Int32) (E9 : mE h) (S9 : mS h) (K9 : mK h) : pMet l yX12_look cX12_look 2 (some .int) 0 0 0 0 Z h [.ref (zB Z + 137), .int what] (pQi Z (fun r Z1 h1 => Z = Z1 ∧ Iv Z h1 ∧ agr [(137, 0)] h h1 ∧ (mE h1) ∧ (mS h1) ∧ (mK h1))) := by
  refine pOfW (lv := [(0, .ref (zB Z + 137)), (1, .int what)]) (by decide) (Nat.le_of_ble_eq_true rfl) rfl ?_
  intro p e s m below meth c ls M hr hlk hnm V hl
  have hx := M.1.1
  have hb := M.1.2.1
  have A : agr [] h h := agr.rf
  have J_159 : ∀ (y159_0 : Int32) (hJ : pH) (H : Heap) (locs : List Loc) (ls : Array Slot), pV Z hJ s.heap H locs → Iv Z hJ → agr [(137, 0)] h hJ → lv_has ls 2 [(0, .ref (zB Z + 137)), (1, .int what)] → (0 ≤ y159_0.toInt ∧ y159_0.toInt ≤ 1) → mE hJ → mS hJ → mK hJ → W p l e (pRm 0 0 0 0) s m ([.ref (zB Z + 137), .int what] : List Value).toArray below meth c H locs 0 0 (MQ below (pQi Z (fun r Z1 h1 => Z = Z1 ∧ Iv Z h1 ∧ agr [(137, 0)] h h1 ∧ (mE h1) ∧ (mS h1) ∧ (mK h1))) ([.ref (zB Z + 137), .int what] : List Value).toArray s 0 0 (pA (zB Z))) (F0 m 159 ls [.int y159_0]) := by
    intro y159_0 hJ H locs ls V I A hl gs_159_0 E9 S9 K9
    exact pe_i M V rfl rfl hr hlk rfl ⟨rfl, I, A.wk (by decide), (E9.congr rfl rfl), (S9.congr rfl rfl rfl rfl rfl rfl rfl), (K9.congr rfl rfl)⟩ ⟨Nat.le_refl _, Nat.le_refl _⟩ dX12_look_159
  have J_131 : ∀ (y131_0 : Int32) (hJ : pH) (H : Heap) (locs : List Loc) (ls : Array Slot), pV Z hJ s.heap H locs → Iv Z hJ → agr [(137, 0)] h hJ → lv_has ls 2 [(0, .ref (zB Z + 137)), (1, .int what)] → (0 ≤ y131_0.toInt ∧ y131_0.toInt ≤ 1) → mE hJ → mS hJ → mK hJ → W p l e (pRm 0 0 0 0) s m ([.ref (zB Z + 137), .int what] : List Value).toArray below meth c H locs 0 0 (MQ below (pQi Z (fun r Z1 h1 => Z = Z1 ∧ Iv Z h1 ∧ agr [(137, 0)] h h1 ∧ (mE h1) ∧ (mS h1) ∧ (mK h1))) ([.ref (zB Z + 137), .int what] : List Value).toArray s 0 0 (pA (zB Z))) (F0 m 131 ls [.int y131_0]) := by
    intro y131_0 hJ H locs ls V I A hl gs_131_0 E9 S9 K9
    exact pe_i M V rfl rfl hr hlk rfl ⟨rfl, I, A.wk (by decide), (E9.congr rfl rfl), (S9.congr rfl rfl rfl rfl rfl rfl rfl), (K9.congr rfl rfl)⟩ ⟨Nat.le_refl _, Nat.le_refl _⟩ dX12_look_131
  refine lv_aload_n hx hb dX12_look_0 rfl (lv_at hl 0 rfl) ?_
  refine lv_iconst (v := 0) hx hb dX12_look_1 (by decide) ?_
  refine pp_i M V 12 0 (sm_this S) pC12 fk12_0 rfl lkF_X12_175 ⟨rfl, rfl⟩ dX12_look_2 (fun H locs V => ?_)
  have A := A.wk (l3 := [(137, 0)]) (by decide)
  have A := A.up (o := 137) (k := 0) (v := (0 : Int32)) (by decide)
  have I := I.up (k := 0) (v := (0 : Int32)) (sm_this S) (pi_full _)
  refine lv_iload_n hx hb dX12_look_5 rfl (lv_at hl 1 rfl) ?_
  by_cases w_6 : what.toInt < 0 ∨ 14 < what.toInt
  · refine lv_tableOut (tgt := 160) hx hb dX12_look_6 w_6 (by decide) ?_
    refine lv_iconst (v := (-1)) hx hb dX12_look_160 (by decide) ?_
    have k_m1 : (-1 : Int32).toInt = -1 := rfl
    exact pe_i M V rfl rfl hr hlk rfl ⟨rfl, I, A.wk (by decide), (E9.congr rfl rfl), (S9.congr rfl rfl rfl rfl rfl rfl rfl), (K9.congr rfl rfl)⟩ ⟨Nat.le_refl _, Nat.le_refl _⟩ dX12_look_161
  · obtain w_6 | w_6 | w_6 | w_6 | w_6 | w_6 | w_6 | w_6 | w_6 | w_6 | w_6 | w_6 | w_6 | w_6 | w_6 : what.toInt = 0 ∨ what.toInt = 1 ∨ what.toInt = 2 ∨ what.toInt = 3 ∨ what.toInt = 4 ∨ what.toInt = 5 ∨ what.toInt = 6 ∨ what.toInt = 7 ∨ what.toInt = 8 ∨ what.toInt = 9 ∨ what.toInt = 10 ∨ what.toInt = 11 ∨ what.toInt = 12 ∨ what.toInt = 13 ∨ what.toInt = 14 := by omega
    · refine lv_tableIn (tgt := 80) (off := 74) hx hb dX12_look_6 (by omega) (by omega) (by rw [w_6]; rfl) (by decide) ?_
      refine lv_aload_n hx hb dX12_look_80 rfl (lv_at hl 0 rfl) ?_
      refine pg_i M V 12 19 (sm_this S) pC12 fk12_19 lkF_X12_255 dX12_look_81 ?_
      refine lv_topi (fun v1 ev1 => ?_)
      exact pe_i M V rfl rfl hr hlk rfl ⟨rfl, I, A.wk (by decide), (E9.congr rfl rfl), (S9.congr rfl rfl rfl rfl rfl rfl rfl), (K9.congr rfl rfl)⟩ ⟨Nat.le_refl _, Nat.le_refl _⟩ dX12_look_84
    · refine lv_tableIn (tgt := 85) (off := 79) hx hb dX12_look_6 (by omega) (by omega) (by rw [w_6]; rfl) (by decide) ?_
      refine lv_aload_n hx hb dX12_look_85 rfl (lv_at hl 0 rfl) ?_
      refine pg_i M V 12 20 (sm_this S) pC12 fk12_20 lkF_X12_264 dX12_look_86 ?_
      refine lv_topi (fun v2 ev2 => ?_)
      exact pe_i M V rfl rfl hr hlk rfl ⟨rfl, I, A.wk (by decide), (E9.congr rfl rfl), (S9.congr rfl rfl rfl rfl rfl rfl rfl), (K9.congr rfl rfl)⟩ ⟨Nat.le_refl _, Nat.le_refl _⟩ dX12_look_89
    · refine lv_tableIn (tgt := 90) (off := 84) hx hb dX12_look_6 (by omega) (by omega) (by rw [w_6]; rfl) (by decide) ?_
      refine lv_aload_n hx hb dX12_look_90 rfl (lv_at hl 0 rfl) ?_
      refine pg_i M V 12 21 (sm_this S) pC12 fk12_21 lkF_X12_294 dX12_look_91 ?_
      refine lv_topi (fun v3 ev3 => ?_)
      exact pe_i M V rfl rfl hr hlk rfl ⟨rfl, I, A.wk (by decide), (E9.congr rfl rfl), (S9.congr rfl rfl rfl rfl rfl rfl rfl), (K9.congr rfl rfl)⟩ ⟨Nat.le_refl _, Nat.le_refl _⟩ dX12_look_94
    · refine lv_tableIn (tgt := 95) (off := 89) hx hb dX12_look_6 (by omega) (by omega) (by rw [w_6]; rfl) (by decide) ?_
      refine lv_aload_n hx hb dX12_look_95 rfl (lv_at hl 0 rfl) ?_
      refine pg_i M V 12 22 (sm_this S) pC12 fk12_22 lkF_X12_291 dX12_look_96 ?_
      refine lv_topi (fun v4 ev4 => ?_)
      exact pe_i M V rfl rfl hr hlk rfl ⟨rfl, I, A.wk (by decide), (E9.congr rfl rfl), (S9.congr rfl rfl rfl rfl rfl rfl rfl), (K9.congr rfl rfl)⟩ ⟨Nat.le_refl _, Nat.le_refl _⟩ dX12_look_99
    · refine lv_tableIn (tgt := 100) (off := 94) hx hb dX12_look_6 (by omega) (by omega) (by rw [w_6]; rfl) (by decide) ?_
      refine lv_aload_n hx hb dX12_look_100 rfl (lv_at hl 0 rfl) ?_
      refine pg_i M V 12 23 (sm_this S) pC12 fk12_23 lkF_X12_26 dX12_look_101 ?_
      refine lv_topi (fun v5 ev5 => ?_)
      have tv5 : -1 ≤ v5.toInt ∧ v5.toInt ≤ 8 := by rw [ev5]; exact I.get (sm_this S) 23
      exact pe_i M V rfl rfl hr hlk rfl ⟨rfl, I, A.wk (by decide), (E9.congr rfl rfl), (S9.congr rfl rfl rfl rfl rfl rfl rfl), (K9.congr rfl rfl)⟩ ⟨Nat.le_refl _, Nat.le_refl _⟩ dX12_look_104
    · refine lv_tableIn (tgt := 105) (off := 99) hx hb dX12_look_6 (by omega) (by omega) (by rw [w_6]; rfl) (by decide) ?_
      refine lv_aload_n hx hb dX12_look_105 rfl (lv_at hl 0 rfl) ?_
      refine pg_r M V 12 73 (sm_this S) pC12 fk12_73 (sm_item S).2.2 lkF_X12_150 dX12_look_106 ?_
      refine lv_iload_n hx hb dX12_look_109 rfl (lv_at hl 1 rfl) ?_
      refine lv_iconst (v := 5) hx hb dX12_look_110 (by decide) ?_
      refine lv_isub hx hb dX12_look_111 ?_
      refine lv_topi (fun v6 ev6 => ?_)
      have k_5 : (5 : Int32).toInt = 5 := rfl
      have tv6 : v6.toInt = what.toInt - 5 := by rw [ev6]; have z9 := pi_sub (x := what) (y := (5 : Int32)); rw [k_5] at z9; exact z9 (by omega)
      refine pa_i M V (sm_item S).1 (by rw [(sm_item S).2.1]; exact pi_in (by omega)) dX12_look_112 ?_
      refine lv_topi (fun v7 ev7 => ?_)
      exact pe_i M V rfl rfl hr hlk rfl ⟨rfl, I, A.wk (by decide), (E9.congr rfl rfl), (S9.congr rfl rfl rfl rfl rfl rfl rfl), (K9.congr rfl rfl)⟩ ⟨Nat.le_refl _, Nat.le_refl _⟩ dX12_look_113
    · refine lv_tableIn (tgt := 105) (off := 99) hx hb dX12_look_6 (by omega) (by omega) (by rw [w_6]; rfl) (by decide) ?_
      refine lv_aload_n hx hb dX12_look_105 rfl (lv_at hl 0 rfl) ?_
      refine pg_r M V 12 73 (sm_this S) pC12 fk12_73 (sm_item S).2.2 lkF_X12_150 dX12_look_106 ?_
      refine lv_iload_n hx hb dX12_look_109 rfl (lv_at hl 1 rfl) ?_
      refine lv_iconst (v := 5) hx hb dX12_look_110 (by decide) ?_
      refine lv_isub hx hb dX12_look_111 ?_
      refine lv_topi (fun v8 ev8 => ?_)
      have k_5 : (5 : Int32).toInt = 5 := rfl
      have tv8 : v8.toInt = what.toInt - 5 := by rw [ev8]; have z9 := pi_sub (x := what) (y := (5 : Int32)); rw [k_5] at z9; exact z9 (by omega)
      refine pa_i M V (sm_item S).1 (by rw [(sm_item S).2.1]; exact pi_in (by omega)) dX12_look_112 ?_
      refine lv_topi (fun v9 ev9 => ?_)
      exact pe_i M V rfl rfl hr hlk rfl ⟨rfl, I, A.wk (by decide), (E9.congr rfl rfl), (S9.congr rfl rfl rfl rfl rfl rfl rfl), (K9.congr rfl rfl)⟩ ⟨Nat.le_refl _, Nat.le_refl _⟩ dX12_look_113
    · refine lv_tableIn (tgt := 105) (off := 99) hx hb dX12_look_6 (by omega) (by omega) (by rw [w_6]; rfl) (by decide) ?_
      refine lv_aload_n hx hb dX12_look_105 rfl (lv_at hl 0 rfl) ?_
      refine pg_r M V 12 73 (sm_this S) pC12 fk12_73 (sm_item S).2.2 lkF_X12_150 dX12_look_106 ?_
      refine lv_iload_n hx hb dX12_look_109 rfl (lv_at hl 1 rfl) ?_
      refine lv_iconst (v := 5) hx hb dX12_look_110 (by decide) ?_
      refine lv_isub hx hb dX12_look_111 ?_
      refine lv_topi (fun v10 ev10 => ?_)
      have k_5 : (5 : Int32).toInt = 5 := rfl
      have tv10 : v10.toInt = what.toInt - 5 := by rw [ev10]; have z9 := pi_sub (x := what) (y := (5 : Int32)); rw [k_5] at z9; exact z9 (by omega)
      refine pa_i M V (sm_item S).1 (by rw [(sm_item S).2.1]; exact pi_in (by omega)) dX12_look_112 ?_
      refine lv_topi (fun v11 ev11 => ?_)
      exact pe_i M V rfl rfl hr hlk rfl ⟨rfl, I, A.wk (by decide), (E9.congr rfl rfl), (S9.congr rfl rfl rfl rfl rfl rfl rfl), (K9.congr rfl rfl)⟩ ⟨Nat.le_refl _, Nat.le_refl _⟩ dX12_look_113
    · refine lv_tableIn (tgt := 105) (off := 99) hx hb dX12_look_6 (by omega) (by omega) (by rw [w_6]; rfl) (by decide) ?_
      refine lv_aload_n hx hb dX12_look_105 rfl (lv_at hl 0 rfl) ?_
      refine pg_r M V 12 73 (sm_this S) pC12 fk12_73 (sm_item S).2.2 lkF_X12_150 dX12_look_106 ?_
      refine lv_iload_n hx hb dX12_look_109 rfl (lv_at hl 1 rfl) ?_
      refine lv_iconst (v := 5) hx hb dX12_look_110 (by decide) ?_
      refine lv_isub hx hb dX12_look_111 ?_
      refine lv_topi (fun v12 ev12 => ?_)
      have k_5 : (5 : Int32).toInt = 5 := rfl
      have tv12 : v12.toInt = what.toInt - 5 := by rw [ev12]; have z9 := pi_sub (x := what) (y := (5 : Int32)); rw [k_5] at z9; exact z9 (by omega)
      refine pa_i M V (sm_item S).1 (by rw [(sm_item S).2.1]; exact pi_in (by omega)) dX12_look_112 ?_
      refine lv_topi (fun v13 ev13 => ?_)
      exact pe_i M V rfl rfl hr hlk rfl ⟨rfl, I, A.wk (by decide), (E9.congr rfl rfl), (S9.congr rfl rfl rfl rfl rfl rfl rfl), (K9.congr rfl rfl)⟩ ⟨Nat.le_refl _, Nat.le_refl _⟩ dX12_look_113
    · refine lv_tableIn (tgt := 114) (off := 108) hx hb dX12_look_6 (by omega) (by omega) (by rw [w_6]; rfl) (by decide) ?_
      refine lv_aload_n hx hb dX12_look_114 rfl (lv_at hl 0 rfl) ?_
      refine pg_i M V 12 40 (sm_this S) pC12 fk12_40 lkF_X12_69 dX12_look_115 ?_
      refine lv_topi (fun v14 ev14 => ?_)
      exact pe_i M V rfl rfl hr hlk rfl ⟨rfl, I, A.wk (by decide), (E9.congr rfl rfl), (S9.congr rfl rfl rfl rfl rfl rfl rfl), (K9.congr rfl rfl)⟩ ⟨Nat.le_refl _, Nat.le_refl _⟩ dX12_look_118
    · refine lv_tableIn (tgt := 119) (off := 113) hx hb dX12_look_6 (by omega) (by omega) (by rw [w_6]; rfl) (by decide) ?_
      refine lv_aload_n hx hb dX12_look_119 rfl (lv_at hl 0 rfl) ?_
      refine pg_i M V 12 9 (sm_this S) pC12 fk12_9 lkF_X12_198 dX12_look_120 ?_
      refine lv_topi (fun v15 ev15 => ?_)
      have tv15 : 0 ≤ v15.toInt ∧ v15.toInt ≤ 1 := by rw [ev15]; exact I.get (sm_this S) 9
      refine lv_if_eq (tgt := 130) hx hb dX12_look_123 (by decide) (fun c_123 => ?_) (fun c_123 => ?_)
      · skip
        have k_0 : (0 : Int32).toInt = 0 := rfl
        have c_123 := pi_eq.mp c_123
        refine lv_iconst (v := 0) hx hb dX12_look_130 (by decide) ?_
        exact J_131 (0 : Int32) _ _ _ _ V I (A.wk (by decide)) (lv_sub hl [0, 1] rfl) (by omega) (E9.congr rfl rfl) (S9.congr rfl rfl rfl rfl rfl rfl rfl) (K9.congr rfl rfl) 
      · skip
        have k_0 : (0 : Int32).toInt = 0 := rfl
        have c_123 := pi_ne c_123
        refine lv_iconst (v := 1) hx hb dX12_look_126 (by decide) ?_
        refine lv_goto (tgt := 131) hx hb dX12_look_127 (by decide) ?_
        have k_1 : (1 : Int32).toInt = 1 := rfl
        exact J_131 (1 : Int32) _ _ _ _ V I (A.wk (by decide)) (lv_sub hl [0, 1] rfl) (by omega) (E9.congr rfl rfl) (S9.congr rfl rfl rfl rfl rfl rfl rfl) (K9.congr rfl rfl) 
    · refine lv_tableIn (tgt := 132) (off := 126) hx hb dX12_look_6 (by omega) (by omega) (by rw [w_6]; rfl) (by decide) ?_
      refine lv_aload_n hx hb dX12_look_132 rfl (lv_at hl 0 rfl) ?_
      refine pg_i M V 12 2 (sm_this S) pC12 fk12_2 lkF_X12_185 dX12_look_133 ?_
      refine lv_topi (fun v16 ev16 => ?_)
      have tv16 : 0 ≤ v16.toInt ∧ v16.toInt ≤ 64 := by rw [ev16]; exact I.get (sm_this S) 2
      exact pe_i M V rfl rfl hr hlk rfl ⟨rfl, I, A.wk (by decide), (E9.congr rfl rfl), (S9.congr rfl rfl rfl rfl rfl rfl rfl), (K9.congr rfl rfl)⟩ ⟨Nat.le_refl _, Nat.le_refl _⟩ dX12_look_136
    · refine lv_tableIn (tgt := 137) (off := 131) hx hb dX12_look_6 (by omega) (by omega) (by rw [w_6]; rfl) (by decide) ?_
      refine lv_aload_n hx hb dX12_look_137 rfl (lv_at hl 0 rfl) ?_
      refine pg_i M V 12 79 (sm_this S) pC12 fk12_79 lkF_X12_362 dX12_look_138 ?_
      refine lv_topi (fun v17 ev17 => ?_)
      have tv17 : 0 ≤ v17.toInt ∧ v17.toInt ≤ 40 := by rw [ev17]; exact I.get (sm_this S) 79
      exact pe_i M V rfl rfl hr hlk rfl ⟨rfl, I, A.wk (by decide), (E9.congr rfl rfl), (S9.congr rfl rfl rfl rfl rfl rfl rfl), (K9.congr rfl rfl)⟩ ⟨Nat.le_refl _, Nat.le_refl _⟩ dX12_look_141
    · refine lv_tableIn (tgt := 142) (off := 136) hx hb dX12_look_6 (by omega) (by omega) (by rw [w_6]; rfl) (by decide) ?_
      refine lv_aload_n hx hb dX12_look_142 rfl (lv_at hl 0 rfl) ?_
      refine pg_i M V 12 56 (sm_this S) pC12 fk12_56 lkF_X12_279 dX12_look_143 ?_
      refine lv_topi (fun v18 ev18 => ?_)
      have tv18 : 0 ≤ v18.toInt ∧ v18.toInt ≤ 40 := by rw [ev18]; exact I.get (sm_this S) 56
      exact pe_i M V rfl rfl hr hlk rfl ⟨rfl, I, A.wk (by decide), (E9.congr rfl rfl), (S9.congr rfl rfl rfl rfl rfl rfl rfl), (K9.congr rfl rfl)⟩ ⟨Nat.le_refl _, Nat.le_refl _⟩ dX12_look_146
    · refine lv_tableIn (tgt := 147) (off := 141) hx hb dX12_look_6 (by omega) (by omega) (by rw [w_6]; rfl) (by decide) ?_
      refine lv_aload_n hx hb dX12_look_147 rfl (lv_at hl 0 rfl) ?_
      refine pg_i M V 12 18 (sm_this S) pC12 fk12_18 lkF_X12_236 dX12_look_148 ?_
      refine lv_topi (fun v19 ev19 => ?_)
      have tv19 : 0 ≤ v19.toInt ∧ v19.toInt ≤ 1 := by rw [ev19]; exact I.get (sm_this S) 18
      refine lv_if_eq (tgt := 158) hx hb dX12_look_151 (by decide) (fun c_151 => ?_) (fun c_151 => ?_)
      · skip
        have k_0 : (0 : Int32).toInt = 0 := rfl
        have c_151 := pi_eq.mp c_151
        refine lv_iconst (v := 0) hx hb dX12_look_158 (by decide) ?_
        exact J_159 (0 : Int32) _ _ _ _ V I (A.wk (by decide)) (lv_sub hl [0, 1] rfl) (by omega) (E9.congr rfl rfl) (S9.congr rfl rfl rfl rfl rfl rfl rfl) (K9.congr rfl rfl) 
      · skip
        have k_0 : (0 : Int32).toInt = 0 := rfl
        have c_151 := pi_ne c_151
        refine lv_iconst (v := 1) hx hb dX12_look_154 (by decide) ?_
        refine lv_goto (tgt := 159) hx hb dX12_look_155 (by decide) ?_
        have k_1 : (1 : Int32).toInt = 1 := rfl
        exact J_159 (1 : Int32) _ _ _ _ V I (A.wk (by decide)) (lv_sub hl [0, 1] rfl) (by omega) (E9.congr rfl rfl) (S9.congr rfl rfl rfl rfl rfl rfl rfl) (K9.congr rfl rfl) 
theorem dX12_text_0 : decode cX12_text 0 = .ok (.aload_n 0, 1) := by decide +kernel
theorem dX12_text_1 : decode cX12_text 1 = .ok (.iconst 0, 1) := by decide +kernel
theorem dX12_text_2 : decode cX12_text 2 = .ok (.putfield 175, 3) := by decide +kernel
theorem dX12_text_5 : decode cX12_text 5 = .ok (.aload_n 0, 1) := by decide +kernel
theorem dX12_text_6 : decode cX12_text 6 = .ok (.iload_n 1, 1) := by decide +kernel
theorem dX12_text_7 : decode cX12_text 7 = .ok (.invokevirtual 365, 3) := by decide +kernel
theorem dX12_text_10 : decode cX12_text 10 = .ok (.istore_n 3, 1) := by decide +kernel
theorem dX12_text_11 : decode cX12_text 11 = .ok (.iload_n 2, 1) := by decide +kernel
theorem dX12_text_12 : decode cX12_text 12 = .ok (.bipush 12, 2) := by decide +kernel
theorem dX12_text_14 : decode cX12_text 14 = .ok (.if_icmp .ne 19, 3) := by decide +kernel
theorem dX12_text_17 : decode cX12_text 17 = .ok (.iload_n 3, 1) := by decide +kernel
theorem dX12_text_18 : decode cX12_text 18 = .ok (.iconst (-1), 1) := by decide +kernel
theorem dX12_text_19 : decode cX12_text 19 = .ok (.if_icmp .ne 7, 3) := by decide +kernel
theorem dX12_text_22 : decode cX12_text 22 = .ok (.iconst 0, 1) := by decide +kernel
theorem dX12_text_23 : decode cX12_text 23 = .ok (.goto 9, 3) := by decide +kernel
theorem dX12_text_26 : decode cX12_text 26 = .ok (.aload_n 0, 1) := by decide +kernel
theorem dX12_text_27 : decode cX12_text 27 = .ok (.getfield 165, 3) := by decide +kernel
theorem dX12_text_30 : decode cX12_text 30 = .ok (.iload_n 3, 1) := by decide +kernel
theorem dX12_text_31 : decode cX12_text 31 = .ok (.iaload, 1) := by decide +kernel
theorem dX12_text_32 : decode cX12_text 32 = .ok (.ireturn, 1) := by decide +kernel
theorem dX12_text_33 : decode cX12_text 33 = .ok (.iload_n 3, 1) := by decide +kernel
theorem dX12_text_34 : decode cX12_text 34 = .ok (.iconst (-1), 1) := by decide +kernel
theorem dX12_text_35 : decode cX12_text 35 = .ok (.if_icmp .eq 17, 3) := by decide +kernel
theorem dX12_text_38 : decode cX12_text 38 = .ok (.iload_n 2, 1) := by decide +kernel
theorem dX12_text_39 : decode cX12_text 39 = .ok (.ifCond .lt 13, 3) := by decide +kernel
theorem dX12_text_42 : decode cX12_text 42 = .ok (.iload_n 2, 1) := by decide +kernel
theorem dX12_text_43 : decode cX12_text 43 = .ok (.aload_n 0, 1) := by decide +kernel
theorem dX12_text_44 : decode cX12_text 44 = .ok (.getfield 162, 3) := by decide +kernel
theorem dX12_text_47 : decode cX12_text 47 = .ok (.iload_n 3, 1) := by decide +kernel
theorem dX12_text_48 : decode cX12_text 48 = .ok (.iaload, 1) := by decide +kernel
theorem dX12_text_49 : decode cX12_text 49 = .ok (.if_icmp .lt 7, 3) := by decide +kernel
theorem dX12_text_52 : decode cX12_text 52 = .ok (.iconst (-1), 1) := by decide +kernel
theorem dX12_text_53 : decode cX12_text 53 = .ok (.goto 14, 3) := by decide +kernel
theorem dX12_text_56 : decode cX12_text 56 = .ok (.aload_n 0, 1) := by decide +kernel
theorem dX12_text_57 : decode cX12_text 57 = .ok (.getfield 159, 3) := by decide +kernel
theorem dX12_text_60 : decode cX12_text 60 = .ok (.bipush 12, 2) := by decide +kernel
theorem dX12_text_62 : decode cX12_text 62 = .ok (.iload_n 3, 1) := by decide +kernel
theorem dX12_text_63 : decode cX12_text 63 = .ok (.imul, 1) := by decide +kernel
theorem dX12_text_64 : decode cX12_text 64 = .ok (.iload_n 2, 1) := by decide +kernel
theorem dX12_text_65 : decode cX12_text 65 = .ok (.iadd, 1) := by decide +kernel
theorem dX12_text_66 : decode cX12_text 66 = .ok (.iaload, 1) := by decide +kernel
theorem dX12_text_67 : decode cX12_text 67 = .ok (.ireturn, 1) := by decide +kernel
set_option maxHeartbeats 4000000 in
set_option maxRecDepth 100000 in
theorem m_X12_text (l : Launch) {Z : pZ} (S : pSh Z) {h : pH} (I : Iv Z h) (id : Int32) (k : Int32) (E9 : mE h) (S9 : mS h) (K9 : mK h) : pMet l yX12_text cX12_text 4 (some .int) 1 0 0 22 Z h [.ref (zB Z + 137), .int id, .int k] (pQi Z (fun r Z1 h1 => Z = Z1 ∧ Iv Z h1 ∧ agr [(137, 0)] h h1 ∧ (mE h1) ∧ (mS h1) ∧ (mK h1))) := by
  refine pOfW (lv := [(0, .ref (zB Z + 137)), (1, .int id), (2, .int k)]) (by decide) (Nat.le_of_ble_eq_true rfl) rfl ?_
  intro p e s m below meth c ls M hr hlk hnm V hl
  have hx := M.1.1
  have hb := M.1.2.1
  have A : agr [] h h := agr.rf
  have J_67 : ∀ (x67_3 : Int32) (y67_0 : Int32) (hJ : pH) (H : Heap) (locs : List Loc) (ls : Array Slot), pV Z hJ s.heap H locs → Iv Z hJ → agr [(137, 0)] h hJ → lv_has ls 4 [(0, .ref (zB Z + 137)), (1, .int id), (2, .int k), (3, .int x67_3)] → (-1 ≤ x67_3.toInt ∧ x67_3.toInt ≤ 39) → mE hJ → mS hJ → mK hJ → W p l e (pRm 1 0 0 22) s m ([.ref (zB Z + 137), .int id, .int k] : List Value).toArray below meth c H locs 0 0 (MQ below (pQi Z (fun r Z1 h1 => Z = Z1 ∧ Iv Z h1 ∧ agr [(137, 0)] h h1 ∧ (mE h1) ∧ (mS h1) ∧ (mK h1))) ([.ref (zB Z + 137), .int id, .int k] : List Value).toArray s 0 0 (pA (zB Z))) (F0 m 67 ls [.int y67_0]) := by
    intro x67_3 y67_0 hJ H locs ls V I A hl g_67_3 E9 S9 K9
    exact pe_i M V rfl rfl hr hlk rfl ⟨rfl, I, A.wk (by decide), (E9.congr rfl rfl), (S9.congr rfl rfl rfl rfl rfl rfl rfl), (K9.congr rfl rfl)⟩ ⟨Nat.le_refl _, Nat.le_refl _⟩ dX12_text_67
  have J_52 : ∀ (x52_3 : Int32) (hJ : pH) (H : Heap) (locs : List Loc) (ls : Array Slot), pV Z hJ s.heap H locs → Iv Z hJ → agr [(137, 0)] h hJ → lv_has ls 4 [(0, .ref (zB Z + 137)), (1, .int id), (2, .int k), (3, .int x52_3)] → (-1 ≤ x52_3.toInt ∧ x52_3.toInt ≤ 39) → mE hJ → mS hJ → mK hJ → W p l e (pRm 1 0 0 22) s m ([.ref (zB Z + 137), .int id, .int k] : List Value).toArray below meth c H locs 0 0 (MQ below (pQi Z (fun r Z1 h1 => Z = Z1 ∧ Iv Z h1 ∧ agr [(137, 0)] h h1 ∧ (mE h1) ∧ (mS h1) ∧ (mK h1))) ([.ref (zB Z + 137), .int id, .int k] : List Value).toArray s 0 0 (pA (zB Z))) (F0 m 52 ls []) := by
    intro x52_3 hJ H locs ls V I A hl g_52_3 E9 S9 K9
    refine lv_iconst (v := (-1)) hx hb dX12_text_52 (by decide) ?_
    refine lv_goto (tgt := 67) hx hb dX12_text_53 (by decide) ?_
    exact J_67 x52_3 (-1 : Int32) _ _ _ _ V I (A.wk (by decide)) (lv_sub hl [0, 1, 2, 3] rfl) (by omega) (E9.congr rfl rfl) (S9.congr rfl rfl rfl rfl rfl rfl rfl) (K9.congr rfl rfl) 
  have J_32 : ∀ (x32_3 : Int32) (y32_0 : Int32) (hJ : pH) (H : Heap) (locs : List Loc) (ls : Array Slot), pV Z hJ s.heap H locs → Iv Z hJ → agr [(137, 0)] h hJ → lv_has ls 4 [(0, .ref (zB Z + 137)), (1, .int id), (2, .int k), (3, .int x32_3)] → (12 ≤ k.toInt ∧ k.toInt ≤ 12) → (-1 ≤ x32_3.toInt ∧ x32_3.toInt ≤ 39) → (0 ≤ y32_0.toInt ∧ y32_0.toInt ≤ 12) → mE hJ → mS hJ → mK hJ → W p l e (pRm 1 0 0 22) s m ([.ref (zB Z + 137), .int id, .int k] : List Value).toArray below meth c H locs 0 0 (MQ below (pQi Z (fun r Z1 h1 => Z = Z1 ∧ Iv Z h1 ∧ agr [(137, 0)] h h1 ∧ (mE h1) ∧ (mS h1) ∧ (mK h1))) ([.ref (zB Z + 137), .int id, .int k] : List Value).toArray s 0 0 (pA (zB Z))) (F0 m 32 ls [.int y32_0]) := by
    intro x32_3 y32_0 hJ H locs ls V I A hl g_32_2 g_32_3 gs_32_0 E9 S9 K9
    exact pe_i M V rfl rfl hr hlk rfl ⟨rfl, I, A.wk (by decide), (E9.congr rfl rfl), (S9.congr rfl rfl rfl rfl rfl rfl rfl), (K9.congr rfl rfl)⟩ ⟨Nat.le_refl _, Nat.le_refl _⟩ dX12_text_32
  refine lv_aload_n hx hb dX12_text_0 rfl (lv_at hl 0 rfl) ?_
  refine lv_iconst (v := 0) hx hb dX12_text_1 (by decide) ?_
  refine pp_i M V 12 0 (sm_this S) pC12 fk12_0 rfl lkF_X12_175 ⟨rfl, rfl⟩ dX12_text_2 (fun H locs V => ?_)
  have A := A.wk (l3 := [(137, 0)]) (by decide)
  have A := A.up (o := 137) (k := 0) (v := (0 : Int32)) (by decide)
  have I := I.up (k := 0) (v := (0 : Int32)) (sm_this S) (pi_full _)
  refine lv_aload_n hx hb dX12_text_5 rfl (lv_at hl 0 rfl) ?_
  refine lv_iload_n hx hb dX12_text_6 rfl (lv_at hl 1 rfl) ?_
  refine pk_i (pr_V M V (m_X12_find l S I id ) km_X12_find (sm_this S) pC12 lkM_X12_365 rfl hl.1 rfl (Nat.le_of_ble_eq_true rfl) ⟨Nat.le_of_ble_eq_true rfl, Nat.le_of_ble_eq_true rfl⟩ ⟨Nat.le_of_ble_eq_true rfl, Nat.le_of_ble_eq_true rfl⟩ dX12_text_7) V (fun r1 Zr1 hr1 H locs pr1 _ _ V => ?_)
  obtain ⟨rfl, I, pA_r1, fr1_0, fr1_1⟩ := pr1
  have A := A.tr pA_r1 (by decide)
  have E9 : mE hr1 := E9.congr (pA_r1.get 137 2 (by decide)) (pA_r1.row 138 (by decide))
  have S9 : mS hr1 := S9.congr (pA_r1.get 137 56 (by decide)) (pA_r1.get 137 70 (by decide)) (pA_r1.get 137 58 (by decide)) (pA_r1.row 162 (by decide)) (pA_r1.row 163 (by decide)) (pA_r1.row 165 (by decide)) (pA_r1.row 166 (by decide))
  have K9 : mK hr1 := K9.congr (pA_r1.row 185 (by decide)) (pA_r1.row 184 (by decide))
  refine lv_istore_n (lv' := [(3, .int r1), (0, .ref (zB Z + 137)), (1, .int id), (2, .int k)]) hx hb dX12_text_10 rfl hl (by decide) rfl (fun ls hl => ?_)
  refine lv_iload_n hx hb dX12_text_11 rfl (lv_at hl 3 rfl) ?_
  refine lv_bipush (v := 12) hx hb dX12_text_12 (by decide) ?_
  refine lv_icmp_ne (tgt := 33) hx hb dX12_text_14 (by decide) (fun c_14 => ?_) (fun c_14 => ?_)
  · skip
    have k_12 : (12 : Int32).toInt = 12 := rfl
    have c_14 := pi_ne c_14
    refine lv_iload_n hx hb dX12_text_33 rfl (lv_at hl 0 rfl) ?_
    refine lv_iconst (v := (-1)) hx hb dX12_text_34 (by decide) ?_
    refine lv_icmp_eq (tgt := 52) hx hb dX12_text_35 (by decide) (fun c_35 => ?_) (fun c_35 => ?_)
    · skip
      have k_m1 : (-1 : Int32).toInt = -1 := rfl
      have c_35 := pi_eq.mp c_35
      exact J_52 r1 _ _ _ _ V I (A.wk (by decide)) (lv_sub hl [1, 2, 3, 0] rfl) (by omega) (E9.congr rfl rfl) (S9.congr rfl rfl rfl rfl rfl rfl rfl) (K9.congr rfl rfl) 
    · skip
      have k_m1 : (-1 : Int32).toInt = -1 := rfl
      have c_35 := pi_ne c_35
      refine lv_iload_n hx hb dX12_text_38 rfl (lv_at hl 3 rfl) ?_
      refine lv_if_lt (tgt := 52) hx hb dX12_text_39 (by decide) (fun c_39 => ?_) (fun c_39 => ?_)
      · skip
        have k_0 : (0 : Int32).toInt = 0 := rfl
        have c_39 := pi_lt.mp c_39
        exact J_52 r1 _ _ _ _ V I (A.wk (by decide)) (lv_sub hl [1, 2, 3, 0] rfl) (by omega) (E9.congr rfl rfl) (S9.congr rfl rfl rfl rfl rfl rfl rfl) (K9.congr rfl rfl) 
      · skip
        have k_0 : (0 : Int32).toInt = 0 := rfl
        have c_39 := pi_lt' c_39
        refine lv_iload_n hx hb dX12_text_42 rfl (lv_at hl 3 rfl) ?_
        refine lv_aload_n hx hb dX12_text_43 rfl (lv_at hl 1 rfl) ?_
        refine pg_r M V 12 77 (sm_this S) pC12 fk12_77 (sm_keptSize S).2.2 lkF_X12_162 dX12_text_44 ?_
        refine lv_iload_n hx hb dX12_text_47 rfl (lv_at hl 0 rfl) ?_
        refine pa_i M V (sm_keptSize S).1 (by rw [(sm_keptSize S).2.1]; exact pi_in (by omega)) dX12_text_48 ?_
        refine lv_topi (fun v2 ev2 => ?_)
        have tv2 : 0 ≤ v2.toInt ∧ v2.toInt ≤ 12 := by rw [ev2]; exact I.get (sm_keptSize S).1 _
        refine lv_icmp_lt (tgt := 56) hx hb dX12_text_49 (by decide) (fun c_49 => ?_) (fun c_49 => ?_)
        · skip
          have c_49 := pi_lt.mp c_49
          refine lv_aload_n hx hb dX12_text_56 rfl (lv_at hl 1 rfl) ?_
          refine pg_r M V 12 76 (sm_this S) pC12 fk12_76 (sm_keptText S).2.2 lkF_X12_159 dX12_text_57 ?_
          refine lv_bipush (v := 12) hx hb dX12_text_60 (by decide) ?_
          refine lv_iload_n hx hb dX12_text_62 rfl (lv_at hl 0 rfl) ?_
          refine lv_imul hx hb dX12_text_63 ?_
          refine lv_topi (fun v3 ev3 => ?_)
          refine lv_iload_n hx hb dX12_text_64 rfl (lv_at hl 3 rfl) ?_
          refine lv_iadd hx hb dX12_text_65 ?_
          refine lv_topi (fun v4 ev4 => ?_)
          have tv3 : v3.toInt = 12 * r1.toInt := by rw [ev3]; have z9 := pi_mul (x := (12 : Int32)) (y := r1); rw [k_12] at z9; exact z9 (by omega)
          have tv4 : v4.toInt = v3.toInt + k.toInt := by rw [ev4]; exact pi_add (by omega)
          refine pa_i M V (sm_keptText S).1 (by rw [(sm_keptText S).2.1]; exact pi_in (by omega)) dX12_text_66 ?_
          refine lv_topi (fun v5 ev5 => ?_)
          exact J_67 r1 v5 _ _ _ _ V I (A.wk (by decide)) (lv_sub hl [1, 2, 3, 0] rfl) (by omega) (E9.congr rfl rfl) (S9.congr rfl rfl rfl rfl rfl rfl rfl) (K9.congr rfl rfl) 
        · skip
          have c_49 := pi_lt' c_49
          exact J_52 r1 _ _ _ _ V I (A.wk (by decide)) (lv_sub hl [1, 2, 3, 0] rfl) (by omega) (E9.congr rfl rfl) (S9.congr rfl rfl rfl rfl rfl rfl rfl) (K9.congr rfl rfl) 
  · skip
    have k_12 : (12 : Int32).toInt = 12 := rfl
    have c_14 := pi_eq.mp c_14
    refine lv_iload_n hx hb dX12_text_17 rfl (lv_at hl 0 rfl) ?_
    refine lv_iconst (v := (-1)) hx hb dX12_text_18 (by decide) ?_
    refine lv_icmp_ne (tgt := 26) hx hb dX12_text_19 (by decide) (fun c_19 => ?_) (fun c_19 => ?_)
    · skip
      have k_m1 : (-1 : Int32).toInt = -1 := rfl
      have c_19 := pi_ne c_19
      refine lv_aload_n hx hb dX12_text_26 rfl (lv_at hl 1 rfl) ?_
      refine pg_r M V 12 78 (sm_this S) pC12 fk12_78 (sm_keptCaret S).2.2 lkF_X12_165 dX12_text_27 ?_
      refine lv_iload_n hx hb dX12_text_30 rfl (lv_at hl 0 rfl) ?_
      refine pa_i M V (sm_keptCaret S).1 (by rw [(sm_keptCaret S).2.1]; exact pi_in (by omega)) dX12_text_31 ?_
      refine lv_topi (fun v6 ev6 => ?_)
      have tv6 : 0 ≤ v6.toInt ∧ v6.toInt ≤ 12 := by rw [ev6]; exact I.get (sm_keptCaret S).1 _
      exact J_32 r1 v6 _ _ _ _ V I (A.wk (by decide)) (lv_sub hl [1, 2, 3, 0] rfl) (by omega) (by omega) (by omega) (E9.congr rfl rfl) (S9.congr rfl rfl rfl rfl rfl rfl rfl) (K9.congr rfl rfl) 
    · skip
      have k_m1 : (-1 : Int32).toInt = -1 := rfl
      have c_19 := pi_eq.mp c_19
      refine lv_iconst (v := 0) hx hb dX12_text_22 (by decide) ?_
      refine lv_goto (tgt := 32) hx hb dX12_text_23 (by decide) ?_
      have k_0 : (0 : Int32).toInt = 0 := rfl
      exact J_32 r1 (0 : Int32) _ _ _ _ V I (A.wk (by decide)) (lv_sub hl [1, 2, 3, 0] rfl) (by omega) (by omega) (by omega) (E9.congr rfl rfl) (S9.congr rfl rfl rfl rfl rfl rfl rfl) (K9.congr rfl rfl) 
theorem dX12_place_0 : decode cX12_place 0 = .ok (.aload_n 0, 1) := by decide +kernel
theorem dX12_place_1 : decode cX12_place 1 = .ok (.iconst 0, 1) := by decide +kernel
theorem dX12_place_2 : decode cX12_place 2 = .ok (.putfield 175, 3) := by decide +kernel
theorem dX12_place_5 : decode cX12_place 5 = .ok (.iload_n 1, 1) := by decide +kernel
theorem dX12_place_6 : decode cX12_place 6 = .ok (.ifCond .lt 9, 3) := by decide +kernel
theorem dX12_place_9 : decode cX12_place 9 = .ok (.iload_n 1, 1) := by decide +kernel
theorem dX12_place_10 : decode cX12_place 10 = .ok (.bipush 8, 2) := by decide +kernel
theorem dX12_place_12 : decode cX12_place 12 = .ok (.if_icmp .le 5, 3) := by decide +kernel
theorem dX12_place_15 : decode cX12_place 15 = .ok (.iconst (-1), 1) := by decide +kernel
theorem dX12_place_16 : decode cX12_place 16 = .ok (.ireturn, 1) := by decide +kernel
theorem dX12_place_17 : decode cX12_place 17 = .ok (.iload_n 2, 1) := by decide +kernel
theorem dX12_place_18 : decode cX12_place 18 = .ok (.tableswitch 155 0 8 #[50, 70, 90, 97, 104, 111, 118, 133, 140], 50) := by decide +kernel
theorem dX12_place_68 : decode cX12_place 68 = .ok (.aload_n 0, 1) := by decide +kernel
theorem dX12_place_69 : decode cX12_place 69 = .ok (.getfield 66, 3) := by decide +kernel
theorem dX12_place_72 : decode cX12_place 72 = .ok (.iload_n 1, 1) := by decide +kernel
theorem dX12_place_73 : decode cX12_place 73 = .ok (.baload, 1) := by decide +kernel
theorem dX12_place_74 : decode cX12_place 74 = .ok (.ifCond .eq 12, 3) := by decide +kernel
theorem dX12_place_77 : decode cX12_place 77 = .ok (.aload_n 0, 1) := by decide +kernel
theorem dX12_place_78 : decode cX12_place 78 = .ok (.getfield 36, 3) := by decide +kernel
theorem dX12_place_81 : decode cX12_place 81 = .ok (.iload_n 1, 1) := by decide +kernel
theorem dX12_place_82 : decode cX12_place 82 = .ok (.iaload, 1) := by decide +kernel
theorem dX12_place_83 : decode cX12_place 83 = .ok (.goto 4, 3) := by decide +kernel
theorem dX12_place_86 : decode cX12_place 86 = .ok (.iconst 0, 1) := by decide +kernel
theorem dX12_place_87 : decode cX12_place 87 = .ok (.ireturn, 1) := by decide +kernel
theorem dX12_place_88 : decode cX12_place 88 = .ok (.aload_n 0, 1) := by decide +kernel
theorem dX12_place_89 : decode cX12_place 89 = .ok (.getfield 66, 3) := by decide +kernel
theorem dX12_place_92 : decode cX12_place 92 = .ok (.iload_n 1, 1) := by decide +kernel
theorem dX12_place_93 : decode cX12_place 93 = .ok (.baload, 1) := by decide +kernel
theorem dX12_place_94 : decode cX12_place 94 = .ok (.ifCond .eq 12, 3) := by decide +kernel
theorem dX12_place_97 : decode cX12_place 97 = .ok (.aload_n 0, 1) := by decide +kernel
theorem dX12_place_98 : decode cX12_place 98 = .ok (.getfield 39, 3) := by decide +kernel
theorem dX12_place_101 : decode cX12_place 101 = .ok (.iload_n 1, 1) := by decide +kernel
theorem dX12_place_102 : decode cX12_place 102 = .ok (.iaload, 1) := by decide +kernel
theorem dX12_place_103 : decode cX12_place 103 = .ok (.goto 4, 3) := by decide +kernel
theorem dX12_place_106 : decode cX12_place 106 = .ok (.iconst 0, 1) := by decide +kernel
theorem dX12_place_107 : decode cX12_place 107 = .ok (.ireturn, 1) := by decide +kernel
theorem dX12_place_108 : decode cX12_place 108 = .ok (.aload_n 0, 1) := by decide +kernel
theorem dX12_place_109 : decode cX12_place 109 = .ok (.getfield 42, 3) := by decide +kernel
theorem dX12_place_112 : decode cX12_place 112 = .ok (.iload_n 1, 1) := by decide +kernel
theorem dX12_place_113 : decode cX12_place 113 = .ok (.iaload, 1) := by decide +kernel
theorem dX12_place_114 : decode cX12_place 114 = .ok (.ireturn, 1) := by decide +kernel
theorem dX12_place_115 : decode cX12_place 115 = .ok (.aload_n 0, 1) := by decide +kernel
theorem dX12_place_116 : decode cX12_place 116 = .ok (.getfield 45, 3) := by decide +kernel
theorem dX12_place_119 : decode cX12_place 119 = .ok (.iload_n 1, 1) := by decide +kernel
theorem dX12_place_120 : decode cX12_place 120 = .ok (.iaload, 1) := by decide +kernel
theorem dX12_place_121 : decode cX12_place 121 = .ok (.ireturn, 1) := by decide +kernel
theorem dX12_place_122 : decode cX12_place 122 = .ok (.aload_n 0, 1) := by decide +kernel
theorem dX12_place_123 : decode cX12_place 123 = .ok (.getfield 48, 3) := by decide +kernel
theorem dX12_place_126 : decode cX12_place 126 = .ok (.iload_n 1, 1) := by decide +kernel
theorem dX12_place_127 : decode cX12_place 127 = .ok (.iaload, 1) := by decide +kernel
theorem dX12_place_128 : decode cX12_place 128 = .ok (.ireturn, 1) := by decide +kernel
theorem dX12_place_129 : decode cX12_place 129 = .ok (.aload_n 0, 1) := by decide +kernel
theorem dX12_place_130 : decode cX12_place 130 = .ok (.getfield 51, 3) := by decide +kernel
theorem dX12_place_133 : decode cX12_place 133 = .ok (.iload_n 1, 1) := by decide +kernel
theorem dX12_place_134 : decode cX12_place 134 = .ok (.iaload, 1) := by decide +kernel
theorem dX12_place_135 : decode cX12_place 135 = .ok (.ireturn, 1) := by decide +kernel
theorem dX12_place_136 : decode cX12_place 136 = .ok (.aload_n 0, 1) := by decide +kernel
theorem dX12_place_137 : decode cX12_place 137 = .ok (.getfield 57, 3) := by decide +kernel
theorem dX12_place_140 : decode cX12_place 140 = .ok (.iload_n 1, 1) := by decide +kernel
theorem dX12_place_141 : decode cX12_place 141 = .ok (.baload, 1) := by decide +kernel
theorem dX12_place_142 : decode cX12_place 142 = .ok (.ifCond .eq 7, 3) := by decide +kernel
theorem dX12_place_145 : decode cX12_place 145 = .ok (.iconst 1, 1) := by decide +kernel
theorem dX12_place_146 : decode cX12_place 146 = .ok (.goto 4, 3) := by decide +kernel
theorem dX12_place_149 : decode cX12_place 149 = .ok (.iconst 0, 1) := by decide +kernel
theorem dX12_place_150 : decode cX12_place 150 = .ok (.ireturn, 1) := by decide +kernel
theorem dX12_place_151 : decode cX12_place 151 = .ok (.aload_n 0, 1) := by decide +kernel
theorem dX12_place_152 : decode cX12_place 152 = .ok (.getfield 54, 3) := by decide +kernel
theorem dX12_place_155 : decode cX12_place 155 = .ok (.iload_n 1, 1) := by decide +kernel
theorem dX12_place_156 : decode cX12_place 156 = .ok (.iaload, 1) := by decide +kernel
theorem dX12_place_157 : decode cX12_place 157 = .ok (.ireturn, 1) := by decide +kernel
theorem dX12_place_158 : decode cX12_place 158 = .ok (.aload_n 0, 1) := by decide +kernel
theorem dX12_place_159 : decode cX12_place 159 = .ok (.getfield 60, 3) := by decide +kernel
theorem dX12_place_162 : decode cX12_place 162 = .ok (.iload_n 1, 1) := by decide +kernel
theorem dX12_place_163 : decode cX12_place 163 = .ok (.baload, 1) := by decide +kernel
theorem dX12_place_164 : decode cX12_place 164 = .ok (.ifCond .eq 7, 3) := by decide +kernel
theorem dX12_place_167 : decode cX12_place 167 = .ok (.iconst 1, 1) := by decide +kernel
theorem dX12_place_168 : decode cX12_place 168 = .ok (.goto 4, 3) := by decide +kernel
theorem dX12_place_171 : decode cX12_place 171 = .ok (.iconst 0, 1) := by decide +kernel
theorem dX12_place_172 : decode cX12_place 172 = .ok (.ireturn, 1) := by decide +kernel
theorem dX12_place_173 : decode cX12_place 173 = .ok (.iconst (-1), 1) := by decide +kernel
theorem dX12_place_174 : decode cX12_place 174 = .ok (.ireturn, 1) := by decide +kernel
set_option maxHeartbeats 4000000 in
set_option maxRecDepth 100000 in
theorem m_X12_place (l : Launch) {Z : pZ} (S : pSh Z) {h : pH} (I : Iv Z h) (w : Int32) (what : Int32) (E9 : mE h) (S9 : mS h) (K9 : mK h) : pMet l yX12_place cX12_place 3 (some .int) 0 0 0 0 Z h [.ref (zB Z + 137), .int w, .int what] (pQi Z (fun r Z1 h1 => Z = Z1 ∧ Iv Z h1 ∧ agr [(137, 0)] h h1 ∧ (mE h1) ∧ (mS h1) ∧ (mK h1))) := by
  refine pOfW (lv := [(0, .ref (zB Z + 137)), (1, .int w), (2, .int what)]) (by decide) (Nat.le_of_ble_eq_true rfl) rfl ?_
  intro p e s m below meth c ls M hr hlk hnm V hl
  have hx := M.1.1
  have hb := M.1.2.1
  have A : agr [] h h := agr.rf
  have J_172 : ∀ (y172_0 : Int32) (hJ : pH) (H : Heap) (locs : List Loc) (ls : Array Slot), pV Z hJ s.heap H locs → Iv Z hJ → agr [(137, 0)] h hJ → lv_has ls 3 [(0, .ref (zB Z + 137)), (1, .int w), (2, .int what)] → (0 ≤ w.toInt ∧ w.toInt ≤ 8) → (0 ≤ y172_0.toInt ∧ y172_0.toInt ≤ 1) → mE hJ → mS hJ → mK hJ → W p l e (pRm 0 0 0 0) s m ([.ref (zB Z + 137), .int w, .int what] : List Value).toArray below meth c H locs 0 0 (MQ below (pQi Z (fun r Z1 h1 => Z = Z1 ∧ Iv Z h1 ∧ agr [(137, 0)] h h1 ∧ (mE h1) ∧ (mS h1) ∧ (mK h1))) ([.ref (zB Z + 137), .int w, .int what] : List Value).toArray s 0 0 (pA (zB Z))) (F0 m 172 ls [.int y172_0]) := by
    intro y172_0 hJ H locs ls V I A hl g_172_1 gs_172_0 E9 S9 K9
    exact pe_i M V rfl rfl hr hlk rfl ⟨rfl, I, A.wk (by decide), (E9.congr rfl rfl), (S9.congr rfl rfl rfl rfl rfl rfl rfl), (K9.congr rfl rfl)⟩ ⟨Nat.le_refl _, Nat.le_refl _⟩ dX12_place_172
  have J_150 : ∀ (y150_0 : Int32) (hJ : pH) (H : Heap) (locs : List Loc) (ls : Array Slot), pV Z hJ s.heap H locs → Iv Z hJ → agr [(137, 0)] h hJ → lv_has ls 3 [(0, .ref (zB Z + 137)), (1, .int w), (2, .int what)] → (0 ≤ w.toInt ∧ w.toInt ≤ 8) → (0 ≤ y150_0.toInt ∧ y150_0.toInt ≤ 1) → mE hJ → mS hJ → mK hJ → W p l e (pRm 0 0 0 0) s m ([.ref (zB Z + 137), .int w, .int what] : List Value).toArray below meth c H locs 0 0 (MQ below (pQi Z (fun r Z1 h1 => Z = Z1 ∧ Iv Z h1 ∧ agr [(137, 0)] h h1 ∧ (mE h1) ∧ (mS h1) ∧ (mK h1))) ([.ref (zB Z + 137), .int w, .int what] : List Value).toArray s 0 0 (pA (zB Z))) (F0 m 150 ls [.int y150_0]) := by
    intro y150_0 hJ H locs ls V I A hl g_150_1 gs_150_0 E9 S9 K9
    exact pe_i M V rfl rfl hr hlk rfl ⟨rfl, I, A.wk (by decide), (E9.congr rfl rfl), (S9.congr rfl rfl rfl rfl rfl rfl rfl), (K9.congr rfl rfl)⟩ ⟨Nat.le_refl _, Nat.le_refl _⟩ dX12_place_150
  have J_107 : ∀ (y107_0 : Int32) (hJ : pH) (H : Heap) (locs : List Loc) (ls : Array Slot), pV Z hJ s.heap H locs → Iv Z hJ → agr [(137, 0)] h hJ → lv_has ls 3 [(0, .ref (zB Z + 137)), (1, .int w), (2, .int what)] → (0 ≤ w.toInt ∧ w.toInt ≤ 8) → mE hJ → mS hJ → mK hJ → W p l e (pRm 0 0 0 0) s m ([.ref (zB Z + 137), .int w, .int what] : List Value).toArray below meth c H locs 0 0 (MQ below (pQi Z (fun r Z1 h1 => Z = Z1 ∧ Iv Z h1 ∧ agr [(137, 0)] h h1 ∧ (mE h1) ∧ (mS h1) ∧ (mK h1))) ([.ref (zB Z + 137), .int w, .int what] : List Value).toArray s 0 0 (pA (zB Z))) (F0 m 107 ls [.int y107_0]) := by
    intro y107_0 hJ H locs ls V I A hl g_107_1 E9 S9 K9
    exact pe_i M V rfl rfl hr hlk rfl ⟨rfl, I, A.wk (by decide), (E9.congr rfl rfl), (S9.congr rfl rfl rfl rfl rfl rfl rfl), (K9.congr rfl rfl)⟩ ⟨Nat.le_refl _, Nat.le_refl _⟩ dX12_place_107
  have J_87 : ∀ (y87_0 : Int32) (hJ : pH) (H : Heap) (locs : List Loc) (ls : Array Slot), pV Z hJ s.heap H locs → Iv Z hJ → agr [(137, 0)] h hJ → lv_has ls 3 [(0, .ref (zB Z + 137)), (1, .int w), (2, .int what)] → (0 ≤ w.toInt ∧ w.toInt ≤ 8) → mE hJ → mS hJ → mK hJ → W p l e (pRm 0 0 0 0) s m ([.ref (zB Z + 137), .int w, .int what] : List Value).toArray below meth c H locs 0 0 (MQ below (pQi Z (fun r Z1 h1 => Z = Z1 ∧ Iv Z h1 ∧ agr [(137, 0)] h h1 ∧ (mE h1) ∧ (mS h1) ∧ (mK h1))) ([.ref (zB Z + 137), .int w, .int what] : List Value).toArray s 0 0 (pA (zB Z))) (F0 m 87 ls [.int y87_0]) := by
    intro y87_0 hJ H locs ls V I A hl g_87_1 E9 S9 K9
    exact pe_i M V rfl rfl hr hlk rfl ⟨rfl, I, A.wk (by decide), (E9.congr rfl rfl), (S9.congr rfl rfl rfl rfl rfl rfl rfl), (K9.congr rfl rfl)⟩ ⟨Nat.le_refl _, Nat.le_refl _⟩ dX12_place_87
  have J_15 : ∀ (hJ : pH) (H : Heap) (locs : List Loc) (ls : Array Slot), pV Z hJ s.heap H locs → Iv Z hJ → agr [(137, 0)] h hJ → lv_has ls 3 [(0, .ref (zB Z + 137)), (1, .int w), (2, .int what)] → mE hJ → mS hJ → mK hJ → W p l e (pRm 0 0 0 0) s m ([.ref (zB Z + 137), .int w, .int what] : List Value).toArray below meth c H locs 0 0 (MQ below (pQi Z (fun r Z1 h1 => Z = Z1 ∧ Iv Z h1 ∧ agr [(137, 0)] h h1 ∧ (mE h1) ∧ (mS h1) ∧ (mK h1))) ([.ref (zB Z + 137), .int w, .int what] : List Value).toArray s 0 0 (pA (zB Z))) (F0 m 15 ls []) := by
    intro hJ H locs ls V I A hl E9 S9 K9
    refine lv_iconst (v := (-1)) hx hb dX12_place_15 (by decide) ?_
    have k_m1 : (-1 : Int32).toInt = -1 := rfl
    exact pe_i M V rfl rfl hr hlk rfl ⟨rfl, I, A.wk (by decide), (E9.congr rfl rfl), (S9.congr rfl rfl rfl rfl rfl rfl rfl), (K9.congr rfl rfl)⟩ ⟨Nat.le_refl _, Nat.le_refl _⟩ dX12_place_16
  refine lv_aload_n hx hb dX12_place_0 rfl (lv_at hl 0 rfl) ?_
  refine lv_iconst (v := 0) hx hb dX12_place_1 (by decide) ?_
  refine pp_i M V 12 0 (sm_this S) pC12 fk12_0 rfl lkF_X12_175 ⟨rfl, rfl⟩ dX12_place_2 (fun H locs V => ?_)
  have A := A.wk (l3 := [(137, 0)]) (by decide)
  have A := A.up (o := 137) (k := 0) (v := (0 : Int32)) (by decide)
  have I := I.up (k := 0) (v := (0 : Int32)) (sm_this S) (pi_full _)
  refine lv_iload_n hx hb dX12_place_5 rfl (lv_at hl 1 rfl) ?_
  refine lv_if_lt (tgt := 15) hx hb dX12_place_6 (by decide) (fun c_6 => ?_) (fun c_6 => ?_)
  · skip
    have k_0 : (0 : Int32).toInt = 0 := rfl
    have c_6 := pi_lt.mp c_6
    exact J_15 _ _ _ _ V I (A.wk (by decide)) (lv_sub hl [0, 1, 2] rfl) (E9.congr rfl rfl) (S9.congr rfl rfl rfl rfl rfl rfl rfl) (K9.congr rfl rfl) 
  · skip
    have k_0 : (0 : Int32).toInt = 0 := rfl
    have c_6 := pi_lt' c_6
    refine lv_iload_n hx hb dX12_place_9 rfl (lv_at hl 1 rfl) ?_
    refine lv_bipush (v := 8) hx hb dX12_place_10 (by decide) ?_
    refine lv_icmp_le (tgt := 17) hx hb dX12_place_12 (by decide) (fun c_12 => ?_) (fun c_12 => ?_)
    · skip
      have k_8 : (8 : Int32).toInt = 8 := rfl
      have c_12 := pi_le.mp c_12
      refine lv_iload_n hx hb dX12_place_17 rfl (lv_at hl 2 rfl) ?_
      by_cases w_18 : what.toInt < 0 ∨ 8 < what.toInt
      · refine lv_tableOut (tgt := 173) hx hb dX12_place_18 w_18 (by decide) ?_
        refine lv_iconst (v := (-1)) hx hb dX12_place_173 (by decide) ?_
        have k_m1 : (-1 : Int32).toInt = -1 := rfl
        exact pe_i M V rfl rfl hr hlk rfl ⟨rfl, I, A.wk (by decide), (E9.congr rfl rfl), (S9.congr rfl rfl rfl rfl rfl rfl rfl), (K9.congr rfl rfl)⟩ ⟨Nat.le_refl _, Nat.le_refl _⟩ dX12_place_174
      · obtain w_18 | w_18 | w_18 | w_18 | w_18 | w_18 | w_18 | w_18 | w_18 : what.toInt = 0 ∨ what.toInt = 1 ∨ what.toInt = 2 ∨ what.toInt = 3 ∨ what.toInt = 4 ∨ what.toInt = 5 ∨ what.toInt = 6 ∨ what.toInt = 7 ∨ what.toInt = 8 := by omega
        · refine lv_tableIn (tgt := 68) (off := 50) hx hb dX12_place_18 (by omega) (by omega) (by rw [w_18]; rfl) (by decide) ?_
          refine lv_aload_n hx hb dX12_place_68 rfl (lv_at hl 0 rfl) ?_
          refine pg_r M V 12 39 (sm_this S) pC12 fk12_39 (sm_known S).2.2 lkF_X12_66 dX12_place_69 ?_
          refine lv_iload_n hx hb dX12_place_72 rfl (lv_at hl 1 rfl) ?_
          refine pa_z M V (sm_known S).1 (by rw [(sm_known S).2.1]; exact pi_in (by omega)) dX12_place_73 ?_
          refine lv_topi (fun v1 ev1 => ?_)
          have tv1 : 0 ≤ v1.toInt ∧ v1.toInt ≤ 1 := by rw [ev1]; exact I.get (sm_known S).1 _
          refine lv_if_eq (tgt := 86) hx hb dX12_place_74 (by decide) (fun c_74 => ?_) (fun c_74 => ?_)
          · skip
            have c_74 := pi_eq.mp c_74
            refine lv_iconst (v := 0) hx hb dX12_place_86 (by decide) ?_
            exact J_87 (0 : Int32) _ _ _ _ V I (A.wk (by decide)) (lv_sub hl [0, 1, 2] rfl) (by omega) (E9.congr rfl rfl) (S9.congr rfl rfl rfl rfl rfl rfl rfl) (K9.congr rfl rfl) 
          · skip
            have c_74 := pi_ne c_74
            refine lv_aload_n hx hb dX12_place_77 rfl (lv_at hl 0 rfl) ?_
            refine pg_r M V 12 29 (sm_this S) pC12 fk12_29 (sm_x S).2.2 lkF_X12_36 dX12_place_78 ?_
            refine lv_iload_n hx hb dX12_place_81 rfl (lv_at hl 1 rfl) ?_
            refine pa_i M V (sm_x S).1 (by rw [(sm_x S).2.1]; exact pi_in (by omega)) dX12_place_82 ?_
            refine lv_topi (fun v2 ev2 => ?_)
            refine lv_goto (tgt := 87) hx hb dX12_place_83 (by decide) ?_
            exact J_87 v2 _ _ _ _ V I (A.wk (by decide)) (lv_sub hl [0, 1, 2] rfl) (by omega) (E9.congr rfl rfl) (S9.congr rfl rfl rfl rfl rfl rfl rfl) (K9.congr rfl rfl) 
        · refine lv_tableIn (tgt := 88) (off := 70) hx hb dX12_place_18 (by omega) (by omega) (by rw [w_18]; rfl) (by decide) ?_
          refine lv_aload_n hx hb dX12_place_88 rfl (lv_at hl 0 rfl) ?_
          refine pg_r M V 12 39 (sm_this S) pC12 fk12_39 (sm_known S).2.2 lkF_X12_66 dX12_place_89 ?_
          refine lv_iload_n hx hb dX12_place_92 rfl (lv_at hl 1 rfl) ?_
          refine pa_z M V (sm_known S).1 (by rw [(sm_known S).2.1]; exact pi_in (by omega)) dX12_place_93 ?_
          refine lv_topi (fun v3 ev3 => ?_)
          have tv3 : 0 ≤ v3.toInt ∧ v3.toInt ≤ 1 := by rw [ev3]; exact I.get (sm_known S).1 _
          refine lv_if_eq (tgt := 106) hx hb dX12_place_94 (by decide) (fun c_94 => ?_) (fun c_94 => ?_)
          · skip
            have c_94 := pi_eq.mp c_94
            refine lv_iconst (v := 0) hx hb dX12_place_106 (by decide) ?_
            exact J_107 (0 : Int32) _ _ _ _ V I (A.wk (by decide)) (lv_sub hl [0, 1, 2] rfl) (by omega) (E9.congr rfl rfl) (S9.congr rfl rfl rfl rfl rfl rfl rfl) (K9.congr rfl rfl) 
          · skip
            have c_94 := pi_ne c_94
            refine lv_aload_n hx hb dX12_place_97 rfl (lv_at hl 0 rfl) ?_
            refine pg_r M V 12 30 (sm_this S) pC12 fk12_30 (sm_y S).2.2 lkF_X12_39 dX12_place_98 ?_
            refine lv_iload_n hx hb dX12_place_101 rfl (lv_at hl 1 rfl) ?_
            refine pa_i M V (sm_y S).1 (by rw [(sm_y S).2.1]; exact pi_in (by omega)) dX12_place_102 ?_
            refine lv_topi (fun v4 ev4 => ?_)
            refine lv_goto (tgt := 107) hx hb dX12_place_103 (by decide) ?_
            exact J_107 v4 _ _ _ _ V I (A.wk (by decide)) (lv_sub hl [0, 1, 2] rfl) (by omega) (E9.congr rfl rfl) (S9.congr rfl rfl rfl rfl rfl rfl rfl) (K9.congr rfl rfl) 
        · refine lv_tableIn (tgt := 108) (off := 90) hx hb dX12_place_18 (by omega) (by omega) (by rw [w_18]; rfl) (by decide) ?_
          refine lv_aload_n hx hb dX12_place_108 rfl (lv_at hl 0 rfl) ?_
          refine pg_r M V 12 31 (sm_this S) pC12 fk12_31 (sm_wide S).2.2 lkF_X12_42 dX12_place_109 ?_
          refine lv_iload_n hx hb dX12_place_112 rfl (lv_at hl 1 rfl) ?_
          refine pa_i M V (sm_wide S).1 (by rw [(sm_wide S).2.1]; exact pi_in (by omega)) dX12_place_113 ?_
          refine lv_topi (fun v5 ev5 => ?_)
          exact pe_i M V rfl rfl hr hlk rfl ⟨rfl, I, A.wk (by decide), (E9.congr rfl rfl), (S9.congr rfl rfl rfl rfl rfl rfl rfl), (K9.congr rfl rfl)⟩ ⟨Nat.le_refl _, Nat.le_refl _⟩ dX12_place_114
        · refine lv_tableIn (tgt := 115) (off := 97) hx hb dX12_place_18 (by omega) (by omega) (by rw [w_18]; rfl) (by decide) ?_
          refine lv_aload_n hx hb dX12_place_115 rfl (lv_at hl 0 rfl) ?_
          refine pg_r M V 12 32 (sm_this S) pC12 fk12_32 (sm_high S).2.2 lkF_X12_45 dX12_place_116 ?_
          refine lv_iload_n hx hb dX12_place_119 rfl (lv_at hl 1 rfl) ?_
          refine pa_i M V (sm_high S).1 (by rw [(sm_high S).2.1]; exact pi_in (by omega)) dX12_place_120 ?_
          refine lv_topi (fun v6 ev6 => ?_)
          exact pe_i M V rfl rfl hr hlk rfl ⟨rfl, I, A.wk (by decide), (E9.congr rfl rfl), (S9.congr rfl rfl rfl rfl rfl rfl rfl), (K9.congr rfl rfl)⟩ ⟨Nat.le_refl _, Nat.le_refl _⟩ dX12_place_121
        · refine lv_tableIn (tgt := 122) (off := 104) hx hb dX12_place_18 (by omega) (by omega) (by rw [w_18]; rfl) (by decide) ?_
          refine lv_aload_n hx hb dX12_place_122 rfl (lv_at hl 0 rfl) ?_
          refine pg_r M V 12 33 (sm_this S) pC12 fk12_33 (sm_scroll S).2.2 lkF_X12_48 dX12_place_123 ?_
          refine lv_iload_n hx hb dX12_place_126 rfl (lv_at hl 1 rfl) ?_
          refine pa_i M V (sm_scroll S).1 (by rw [(sm_scroll S).2.1]; exact pi_in (by omega)) dX12_place_127 ?_
          refine lv_topi (fun v7 ev7 => ?_)
          exact pe_i M V rfl rfl hr hlk rfl ⟨rfl, I, A.wk (by decide), (E9.congr rfl rfl), (S9.congr rfl rfl rfl rfl rfl rfl rfl), (K9.congr rfl rfl)⟩ ⟨Nat.le_refl _, Nat.le_refl _⟩ dX12_place_128
        · refine lv_tableIn (tgt := 129) (off := 111) hx hb dX12_place_18 (by omega) (by omega) (by rw [w_18]; rfl) (by decide) ?_
          refine lv_aload_n hx hb dX12_place_129 rfl (lv_at hl 0 rfl) ?_
          refine pg_r M V 12 34 (sm_this S) pC12 fk12_34 (sm_lowest S).2.2 lkF_X12_51 dX12_place_130 ?_
          refine lv_iload_n hx hb dX12_place_133 rfl (lv_at hl 1 rfl) ?_
          refine pa_i M V (sm_lowest S).1 (by rw [(sm_lowest S).2.1]; exact pi_in (by omega)) dX12_place_134 ?_
          refine lv_topi (fun v8 ev8 => ?_)
          exact pe_i M V rfl rfl hr hlk rfl ⟨rfl, I, A.wk (by decide), (E9.congr rfl rfl), (S9.congr rfl rfl rfl rfl rfl rfl rfl), (K9.congr rfl rfl)⟩ ⟨Nat.le_refl _, Nat.le_refl _⟩ dX12_place_135
        · refine lv_tableIn (tgt := 136) (off := 118) hx hb dX12_place_18 (by omega) (by omega) (by rw [w_18]; rfl) (by decide) ?_
          refine lv_aload_n hx hb dX12_place_136 rfl (lv_at hl 0 rfl) ?_
          refine pg_r M V 12 36 (sm_this S) pC12 fk12_36 (sm_collapsed S).2.2 lkF_X12_57 dX12_place_137 ?_
          refine lv_iload_n hx hb dX12_place_140 rfl (lv_at hl 1 rfl) ?_
          refine pa_z M V (sm_collapsed S).1 (by rw [(sm_collapsed S).2.1]; exact pi_in (by omega)) dX12_place_141 ?_
          refine lv_topi (fun v9 ev9 => ?_)
          have tv9 : 0 ≤ v9.toInt ∧ v9.toInt ≤ 1 := by rw [ev9]; exact I.get (sm_collapsed S).1 _
          refine lv_if_eq (tgt := 149) hx hb dX12_place_142 (by decide) (fun c_142 => ?_) (fun c_142 => ?_)
          · skip
            have c_142 := pi_eq.mp c_142
            refine lv_iconst (v := 0) hx hb dX12_place_149 (by decide) ?_
            exact J_150 (0 : Int32) _ _ _ _ V I (A.wk (by decide)) (lv_sub hl [0, 1, 2] rfl) (by omega) (by omega) (E9.congr rfl rfl) (S9.congr rfl rfl rfl rfl rfl rfl rfl) (K9.congr rfl rfl) 
          · skip
            have c_142 := pi_ne c_142
            refine lv_iconst (v := 1) hx hb dX12_place_145 (by decide) ?_
            refine lv_goto (tgt := 150) hx hb dX12_place_146 (by decide) ?_
            have k_1 : (1 : Int32).toInt = 1 := rfl
            exact J_150 (1 : Int32) _ _ _ _ V I (A.wk (by decide)) (lv_sub hl [0, 1, 2] rfl) (by omega) (by omega) (E9.congr rfl rfl) (S9.congr rfl rfl rfl rfl rfl rfl rfl) (K9.congr rfl rfl) 
        · refine lv_tableIn (tgt := 151) (off := 133) hx hb dX12_place_18 (by omega) (by omega) (by rw [w_18]; rfl) (by decide) ?_
          refine lv_aload_n hx hb dX12_place_151 rfl (lv_at hl 0 rfl) ?_
          refine pg_r M V 12 35 (sm_this S) pC12 fk12_35 (sm_rank S).2.2 lkF_X12_54 dX12_place_152 ?_
          refine lv_iload_n hx hb dX12_place_155 rfl (lv_at hl 1 rfl) ?_
          refine pa_i M V (sm_rank S).1 (by rw [(sm_rank S).2.1]; exact pi_in (by omega)) dX12_place_156 ?_
          refine lv_topi (fun v10 ev10 => ?_)
          exact pe_i M V rfl rfl hr hlk rfl ⟨rfl, I, A.wk (by decide), (E9.congr rfl rfl), (S9.congr rfl rfl rfl rfl rfl rfl rfl), (K9.congr rfl rfl)⟩ ⟨Nat.le_refl _, Nat.le_refl _⟩ dX12_place_157
        · refine lv_tableIn (tgt := 158) (off := 140) hx hb dX12_place_18 (by omega) (by omega) (by rw [w_18]; rfl) (by decide) ?_
          refine lv_aload_n hx hb dX12_place_158 rfl (lv_at hl 0 rfl) ?_
          refine pg_r M V 12 37 (sm_this S) pC12 fk12_37 (sm_here S).2.2 lkF_X12_60 dX12_place_159 ?_
          refine lv_iload_n hx hb dX12_place_162 rfl (lv_at hl 1 rfl) ?_
          refine pa_z M V (sm_here S).1 (by rw [(sm_here S).2.1]; exact pi_in (by omega)) dX12_place_163 ?_
          refine lv_topi (fun v11 ev11 => ?_)
          have tv11 : 0 ≤ v11.toInt ∧ v11.toInt ≤ 1 := by rw [ev11]; exact I.get (sm_here S).1 _
          refine lv_if_eq (tgt := 171) hx hb dX12_place_164 (by decide) (fun c_164 => ?_) (fun c_164 => ?_)
          · skip
            have c_164 := pi_eq.mp c_164
            refine lv_iconst (v := 0) hx hb dX12_place_171 (by decide) ?_
            exact J_172 (0 : Int32) _ _ _ _ V I (A.wk (by decide)) (lv_sub hl [0, 1, 2] rfl) (by omega) (by omega) (E9.congr rfl rfl) (S9.congr rfl rfl rfl rfl rfl rfl rfl) (K9.congr rfl rfl) 
          · skip
            have c_164 := pi_ne c_164
            refine lv_iconst (v := 1) hx hb dX12_place_167 (by decide) ?_
            refine lv_goto (tgt := 172) hx hb dX12_place_168 (by decide) ?_
            have k_1 : (1 : Int32).toInt = 1 := rfl
            exact J_172 (1 : Int32) _ _ _ _ V I (A.wk (by decide)) (lv_sub hl [0, 1, 2] rfl) (by omega) (by omega) (E9.congr rfl rfl) (S9.congr rfl rfl rfl rfl rfl rfl rfl) (K9.congr rfl rfl) 
    · skip
      have k_8 : (8 : Int32).toInt = 8 := rfl
      have c_12 := pi_le' c_12
      exact J_15 _ _ _ _ V I (A.wk (by decide)) (lv_sub hl [0, 1, 2] rfl) (E9.congr rfl rfl) (S9.congr rfl rfl rfl rfl rfl rfl rfl) (K9.congr rfl rfl) 
theorem dX12_vertex_0 : decode cX12_vertex 0 = .ok (.aload_n 0, 1) := by decide +kernel
theorem dX12_vertex_1 : decode cX12_vertex 1 = .ok (.iconst 0, 1) := by decide +kernel
theorem dX12_vertex_2 : decode cX12_vertex 2 = .ok (.putfield 175, 3) := by decide +kernel
theorem dX12_vertex_5 : decode cX12_vertex 5 = .ok (.iload_n 1, 1) := by decide +kernel
theorem dX12_vertex_6 : decode cX12_vertex 6 = .ok (.ifCond .lt 22, 3) := by decide +kernel
theorem dX12_vertex_9 : decode cX12_vertex 9 = .ok (.iload_n 1, 1) := by decide +kernel
theorem dX12_vertex_10 : decode cX12_vertex 10 = .ok (.iconst 4, 1) := by decide +kernel
theorem dX12_vertex_11 : decode cX12_vertex 11 = .ok (.aload_n 0, 1) := by decide +kernel
theorem dX12_vertex_12 : decode cX12_vertex 12 = .ok (.getfield 307, 3) := by decide +kernel
theorem dX12_vertex_15 : decode cX12_vertex 15 = .ok (.imul, 1) := by decide +kernel
theorem dX12_vertex_16 : decode cX12_vertex 16 = .ok (.if_icmp .ge 12, 3) := by decide +kernel
theorem dX12_vertex_19 : decode cX12_vertex 19 = .ok (.iload_n 2, 1) := by decide +kernel
theorem dX12_vertex_20 : decode cX12_vertex 20 = .ok (.ifCond .lt 8, 3) := by decide +kernel
theorem dX12_vertex_23 : decode cX12_vertex 23 = .ok (.iload_n 2, 1) := by decide +kernel
theorem dX12_vertex_24 : decode cX12_vertex 24 = .ok (.iconst 2, 1) := by decide +kernel
theorem dX12_vertex_25 : decode cX12_vertex 25 = .ok (.if_icmp .le 7, 3) := by decide +kernel
theorem dX12_vertex_28 : decode cX12_vertex 28 = .ok (.sipush (-10000), 3) := by decide +kernel
theorem dX12_vertex_31 : decode cX12_vertex 31 = .ok (.ireturn, 1) := by decide +kernel
theorem dX12_vertex_32 : decode cX12_vertex 32 = .ok (.bipush 11, 2) := by decide +kernel
theorem dX12_vertex_34 : decode cX12_vertex 34 = .ok (.iload_n 1, 1) := by decide +kernel
theorem dX12_vertex_35 : decode cX12_vertex 35 = .ok (.iconst 4, 1) := by decide +kernel
theorem dX12_vertex_36 : decode cX12_vertex 36 = .ok (.idiv, 1) := by decide +kernel
theorem dX12_vertex_37 : decode cX12_vertex 37 = .ok (.imul, 1) := by decide +kernel
theorem dX12_vertex_38 : decode cX12_vertex 38 = .ok (.istore_n 3, 1) := by decide +kernel
theorem dX12_vertex_39 : decode cX12_vertex 39 = .ok (.iload_n 1, 1) := by decide +kernel
theorem dX12_vertex_40 : decode cX12_vertex 40 = .ok (.iconst 4, 1) := by decide +kernel
theorem dX12_vertex_41 : decode cX12_vertex 41 = .ok (.irem, 1) := by decide +kernel
theorem dX12_vertex_42 : decode cX12_vertex 42 = .ok (.istore 4, 2) := by decide +kernel
theorem dX12_vertex_44 : decode cX12_vertex 44 = .ok (.iload_n 2, 1) := by decide +kernel
theorem dX12_vertex_45 : decode cX12_vertex 45 = .ok (.iconst 2, 1) := by decide +kernel
theorem dX12_vertex_46 : decode cX12_vertex 46 = .ok (.if_icmp .ne 12, 3) := by decide +kernel
theorem dX12_vertex_49 : decode cX12_vertex 49 = .ok (.aload_n 0, 1) := by decide +kernel
theorem dX12_vertex_50 : decode cX12_vertex 50 = .ok (.getfield 172, 3) := by decide +kernel
theorem dX12_vertex_53 : decode cX12_vertex 53 = .ok (.iload_n 3, 1) := by decide +kernel
theorem dX12_vertex_54 : decode cX12_vertex 54 = .ok (.iconst 5, 1) := by decide +kernel
theorem dX12_vertex_55 : decode cX12_vertex 55 = .ok (.iadd, 1) := by decide +kernel
theorem dX12_vertex_56 : decode cX12_vertex 56 = .ok (.iaload, 1) := by decide +kernel
theorem dX12_vertex_57 : decode cX12_vertex 57 = .ok (.ireturn, 1) := by decide +kernel
theorem dX12_vertex_58 : decode cX12_vertex 58 = .ok (.iload_n 2, 1) := by decide +kernel
theorem dX12_vertex_59 : decode cX12_vertex 59 = .ok (.ifCond .ne 28, 3) := by decide +kernel
theorem dX12_vertex_62 : decode cX12_vertex 62 = .ok (.aload_n 0, 1) := by decide +kernel
theorem dX12_vertex_63 : decode cX12_vertex 63 = .ok (.getfield 172, 3) := by decide +kernel
theorem dX12_vertex_66 : decode cX12_vertex 66 = .ok (.iload_n 3, 1) := by decide +kernel
theorem dX12_vertex_67 : decode cX12_vertex 67 = .ok (.iload 4, 2) := by decide +kernel
theorem dX12_vertex_69 : decode cX12_vertex 69 = .ok (.iconst 1, 1) := by decide +kernel
theorem dX12_vertex_70 : decode cX12_vertex 70 = .ok (.if_icmp .eq 9, 3) := by decide +kernel
theorem dX12_vertex_73 : decode cX12_vertex 73 = .ok (.iload 4, 2) := by decide +kernel
theorem dX12_vertex_75 : decode cX12_vertex 75 = .ok (.iconst 2, 1) := by decide +kernel
theorem dX12_vertex_76 : decode cX12_vertex 76 = .ok (.if_icmp .ne 7, 3) := by decide +kernel
theorem dX12_vertex_79 : decode cX12_vertex 79 = .ok (.iconst 3, 1) := by decide +kernel
theorem dX12_vertex_80 : decode cX12_vertex 80 = .ok (.goto 4, 3) := by decide +kernel
theorem dX12_vertex_83 : decode cX12_vertex 83 = .ok (.iconst 1, 1) := by decide +kernel
theorem dX12_vertex_84 : decode cX12_vertex 84 = .ok (.iadd, 1) := by decide +kernel
theorem dX12_vertex_85 : decode cX12_vertex 85 = .ok (.iaload, 1) := by decide +kernel
theorem dX12_vertex_86 : decode cX12_vertex 86 = .ok (.ireturn, 1) := by decide +kernel
theorem dX12_vertex_87 : decode cX12_vertex 87 = .ok (.aload_n 0, 1) := by decide +kernel
theorem dX12_vertex_88 : decode cX12_vertex 88 = .ok (.getfield 172, 3) := by decide +kernel
theorem dX12_vertex_91 : decode cX12_vertex 91 = .ok (.iload_n 3, 1) := by decide +kernel
theorem dX12_vertex_92 : decode cX12_vertex 92 = .ok (.iload 4, 2) := by decide +kernel
theorem dX12_vertex_94 : decode cX12_vertex 94 = .ok (.iconst 2, 1) := by decide +kernel
theorem dX12_vertex_95 : decode cX12_vertex 95 = .ok (.if_icmp .ge 7, 3) := by decide +kernel
theorem dX12_vertex_98 : decode cX12_vertex 98 = .ok (.iconst 2, 1) := by decide +kernel
theorem dX12_vertex_99 : decode cX12_vertex 99 = .ok (.goto 4, 3) := by decide +kernel
theorem dX12_vertex_102 : decode cX12_vertex 102 = .ok (.iconst 4, 1) := by decide +kernel
theorem dX12_vertex_103 : decode cX12_vertex 103 = .ok (.iadd, 1) := by decide +kernel
theorem dX12_vertex_104 : decode cX12_vertex 104 = .ok (.iaload, 1) := by decide +kernel
theorem dX12_vertex_105 : decode cX12_vertex 105 = .ok (.ireturn, 1) := by decide +kernel
set_option maxHeartbeats 4000000 in
set_option maxRecDepth 100000 in
theorem m_X12_vertex (l : Launch) {Z : pZ} (S : pSh Z) {h : pH} (I : Iv Z h) (k : Int32) (what : Int32) (E9 : mE h) (S9 : mS h) (K9 : mK h) : pMet l yX12_vertex cX12_vertex 5 (some .int) 0 0 0 0 Z h [.ref (zB Z + 137), .int k, .int what] (pQi Z (fun r Z1 h1 => Z = Z1 ∧ Iv Z h1 ∧ agr [(137, 0)] h h1 ∧ (mE h1) ∧ (mS h1) ∧ (mK h1))) := by
  refine pOfW (lv := [(0, .ref (zB Z + 137)), (1, .int k), (2, .int what)]) (by decide) (Nat.le_of_ble_eq_true rfl) rfl ?_
  intro p e s m below meth c ls M hr hlk hnm V hl
  have hx := M.1.1
  have hb := M.1.2.1
  have A : agr [] h h := agr.rf
  have i_83 : 0 ≤ (h 137 83).toInt ∧ (h 137 83).toInt ≤ 7000 := I.get (sm_this S) 83
  have J_79 : ∀ (x79_3 : Int32) (x79_4 : Int32) (y79_0 : Int32) (hJ : pH) (H : Heap) (locs : List Loc) (ls : Array Slot), pV Z hJ s.heap H locs → Iv Z hJ → agr [(137, 0)] h hJ → lv_has ls 5 [(0, .ref (zB Z + 137)), (1, .int k), (2, .int what), (3, .int x79_3), (4, .int x79_4)] → (0 ≤ k.toInt ∧ k.toInt ≤ 27999) → (0 ≤ what.toInt ∧ what.toInt ≤ 0) → (0 ≤ x79_3.toInt ∧ x79_3.toInt ≤ 76989) → (1 ≤ x79_4.toInt ∧ x79_4.toInt ≤ 2) → (0 ≤ y79_0.toInt ∧ y79_0.toInt ≤ 76989) → ((h 137 83).toInt + (0) ≤ (hJ 137 83).toInt ∧ (hJ 137 83).toInt ≤ (h 137 83).toInt + (0)) → mE hJ → mS hJ → mK hJ → W p l e (pRm 0 0 0 0) s m ([.ref (zB Z + 137), .int k, .int what] : List Value).toArray below meth c H locs 0 0 (MQ below (pQi Z (fun r Z1 h1 => Z = Z1 ∧ Iv Z h1 ∧ agr [(137, 0)] h h1 ∧ (mE h1) ∧ (mS h1) ∧ (mK h1))) ([.ref (zB Z + 137), .int k, .int what] : List Value).toArray s 0 0 (pA (zB Z))) (F0 m 79 ls [.int y79_0, .ref (zB Z + 187)]) := by
    intro x79_3 x79_4 y79_0 hJ H locs ls V I A hl g_79_1 g_79_2 g_79_3 g_79_4 gs_79_0 gd_79_83 E9 S9 K9
    refine lv_iconst (v := 3) hx hb dX12_vertex_79 (by decide) ?_
    refine lv_goto (tgt := 84) hx hb dX12_vertex_80 (by decide) ?_
    refine lv_iadd hx hb dX12_vertex_84 ?_
    refine lv_topi (fun v1 ev1 => ?_)
    have k_3 : (3 : Int32).toInt = 3 := rfl
    have tv1 : v1.toInt = y79_0.toInt + 3 := by rw [ev1]; have z9 := pi_add (x := y79_0) (y := (3 : Int32)); rw [k_3] at z9; exact z9 (by omega)
    refine pa_i M V (sm_drawing S).1 (by rw [(sm_drawing S).2.1]; exact pi_in (by omega)) dX12_vertex_85 ?_
    refine lv_topi (fun v2 ev2 => ?_)
    exact pe_i M V rfl rfl hr hlk rfl ⟨rfl, I, A.wk (by decide), (E9.congr rfl rfl), (S9.congr rfl rfl rfl rfl rfl rfl rfl), (K9.congr rfl rfl)⟩ ⟨Nat.le_refl _, Nat.le_refl _⟩ dX12_vertex_86
  have J_28 : ∀ (hJ : pH) (H : Heap) (locs : List Loc) (ls : Array Slot), pV Z hJ s.heap H locs → Iv Z hJ → agr [(137, 0)] h hJ → lv_has ls 5 [(0, .ref (zB Z + 137)), (1, .int k), (2, .int what)] → ((h 137 83).toInt + (0) ≤ (hJ 137 83).toInt ∧ (hJ 137 83).toInt ≤ (h 137 83).toInt + (0)) → mE hJ → mS hJ → mK hJ → W p l e (pRm 0 0 0 0) s m ([.ref (zB Z + 137), .int k, .int what] : List Value).toArray below meth c H locs 0 0 (MQ below (pQi Z (fun r Z1 h1 => Z = Z1 ∧ Iv Z h1 ∧ agr [(137, 0)] h h1 ∧ (mE h1) ∧ (mS h1) ∧ (mK h1))) ([.ref (zB Z + 137), .int k, .int what] : List Value).toArray s 0 0 (pA (zB Z))) (F0 m 28 ls []) := by
    intro hJ H locs ls V I A hl gd_28_83 E9 S9 K9
    refine lv_sipush (v := (-10000)) hx hb dX12_vertex_28 (by decide) ?_
    have k_m10000 : (-10000 : Int32).toInt = -10000 := rfl
    exact pe_i M V rfl rfl hr hlk rfl ⟨rfl, I, A.wk (by decide), (E9.congr rfl rfl), (S9.congr rfl rfl rfl rfl rfl rfl rfl), (K9.congr rfl rfl)⟩ ⟨Nat.le_refl _, Nat.le_refl _⟩ dX12_vertex_31
  refine lv_aload_n hx hb dX12_vertex_0 rfl (lv_at hl 0 rfl) ?_
  refine lv_iconst (v := 0) hx hb dX12_vertex_1 (by decide) ?_
  refine pp_i M V 12 0 (sm_this S) pC12 fk12_0 rfl lkF_X12_175 ⟨rfl, rfl⟩ dX12_vertex_2 (fun H locs V => ?_)
  have A := A.wk (l3 := [(137, 0)]) (by decide)
  have A := A.up (o := 137) (k := 0) (v := (0 : Int32)) (by decide)
  have I := I.up (k := 0) (v := (0 : Int32)) (sm_this S) (pi_full _)
  refine lv_iload_n hx hb dX12_vertex_5 rfl (lv_at hl 1 rfl) ?_
  refine lv_if_lt (tgt := 28) hx hb dX12_vertex_6 (by decide) (fun c_6 => ?_) (fun c_6 => ?_)
  · skip
    have k_0 : (0 : Int32).toInt = 0 := rfl
    have c_6 := pi_lt.mp c_6
    exact J_28 _ _ _ _ V I (A.wk (by decide)) (lv_sub hl [0, 1, 2] rfl) (show (h 137 83).toInt + (0) ≤ (h 137 83).toInt ∧ (h 137 83).toInt ≤ (h 137 83).toInt + (0) by omega) (E9.congr rfl rfl) (S9.congr rfl rfl rfl rfl rfl rfl rfl) (K9.congr rfl rfl) 
  · skip
    have k_0 : (0 : Int32).toInt = 0 := rfl
    have c_6 := pi_lt' c_6
    refine lv_iload_n hx hb dX12_vertex_9 rfl (lv_at hl 1 rfl) ?_
    refine lv_iconst (v := 4) hx hb dX12_vertex_10 (by decide) ?_
    refine lv_aload_n hx hb dX12_vertex_11 rfl (lv_at hl 0 rfl) ?_
    refine pg_i M V 12 83 (sm_this S) pC12 fk12_83 lkF_X12_307 dX12_vertex_12 ?_
    refine lv_topi (fun v3 ev3 => ?_)
    have tv3 : 0 ≤ v3.toInt ∧ v3.toInt ≤ 7000 := by rw [ev3]; exact I.get (sm_this S) 83
    have uv3 : v3.toInt = (h 137 83).toInt := congrArg Int32.toInt ev3
    refine lv_imul hx hb dX12_vertex_15 ?_
    refine lv_topi (fun v4 ev4 => ?_)
    refine lv_icmp_ge (tgt := 28) hx hb dX12_vertex_16 (by decide) (fun c_16 => ?_) (fun c_16 => ?_)
    · skip
      have k_4 : (4 : Int32).toInt = 4 := rfl
      have tv4 : v4.toInt = 4 * v3.toInt := by rw [ev4]; have z9 := pi_mul (x := (4 : Int32)) (y := v3); rw [k_4] at z9; exact z9 (by omega)
      have c_16 := pi_le.mp c_16
      exact J_28 _ _ _ _ V I (A.wk (by decide)) (lv_sub hl [0, 1, 2] rfl) (show (h 137 83).toInt + (0) ≤ (h 137 83).toInt ∧ (h 137 83).toInt ≤ (h 137 83).toInt + (0) by omega) (E9.congr rfl rfl) (S9.congr rfl rfl rfl rfl rfl rfl rfl) (K9.congr rfl rfl) 
    · skip
      have k_4 : (4 : Int32).toInt = 4 := rfl
      have tv4 : v4.toInt = 4 * v3.toInt := by rw [ev4]; have z9 := pi_mul (x := (4 : Int32)) (y := v3); rw [k_4] at z9; exact z9 (by omega)
      have c_16 := pi_le' c_16
      refine lv_iload_n hx hb dX12_vertex_19 rfl (lv_at hl 2 rfl) ?_
      refine lv_if_lt (tgt := 28) hx hb dX12_vertex_20 (by decide) (fun c_20 => ?_) (fun c_20 => ?_)
      · skip
        have c_20 := pi_lt.mp c_20
        exact J_28 _ _ _ _ V I (A.wk (by decide)) (lv_sub hl [0, 1, 2] rfl) (show (h 137 83).toInt + (0) ≤ (h 137 83).toInt ∧ (h 137 83).toInt ≤ (h 137 83).toInt + (0) by omega) (E9.congr rfl rfl) (S9.congr rfl rfl rfl rfl rfl rfl rfl) (K9.congr rfl rfl) 
      · skip
        have c_20 := pi_lt' c_20
        refine lv_iload_n hx hb dX12_vertex_23 rfl (lv_at hl 2 rfl) ?_
        refine lv_iconst (v := 2) hx hb dX12_vertex_24 (by decide) ?_
        refine lv_icmp_le (tgt := 32) hx hb dX12_vertex_25 (by decide) (fun c_25 => ?_) (fun c_25 => ?_)
        · skip
          have k_2 : (2 : Int32).toInt = 2 := rfl
          have c_25 := pi_le.mp c_25
          refine lv_bipush (v := 11) hx hb dX12_vertex_32 (by decide) ?_
          refine lv_iload_n hx hb dX12_vertex_34 rfl (lv_at hl 1 rfl) ?_
          refine lv_iconst (v := 4) hx hb dX12_vertex_35 (by decide) ?_
          refine lv_idiv hx hb dX12_vertex_36 (by decide) ?_
          refine lv_topi (fun v5 ev5 => ?_)
          refine lv_imul hx hb dX12_vertex_37 ?_
          refine lv_topi (fun v6 ev6 => ?_)
          refine lv_istore_n (lv' := [(3, .int v6), (0, .ref (zB Z + 137)), (1, .int k), (2, .int what)]) hx hb dX12_vertex_38 rfl hl (by decide) rfl (fun ls hl => ?_)
          refine lv_iload_n hx hb dX12_vertex_39 rfl (lv_at hl 2 rfl) ?_
          refine lv_iconst (v := 4) hx hb dX12_vertex_40 (by decide) ?_
          refine lv_irem hx hb dX12_vertex_41 (by decide) ?_
          refine lv_topi (fun v7 ev7 => ?_)
          refine lv_istore (lv' := [(4, .int v7), (3, .int v6), (0, .ref (zB Z + 137)), (1, .int k), (2, .int what)]) hx hb dX12_vertex_42 hl (by decide) rfl (fun ls hl => ?_)
          refine lv_iload_n hx hb dX12_vertex_44 rfl (lv_at hl 4 rfl) ?_
          refine lv_iconst (v := 2) hx hb dX12_vertex_45 (by decide) ?_
          refine lv_icmp_ne (tgt := 58) hx hb dX12_vertex_46 (by decide) (fun c_46 => ?_) (fun c_46 => ?_)
          · skip
            have c_46 := pi_ne c_46
            refine lv_iload_n hx hb dX12_vertex_58 rfl (lv_at hl 4 rfl) ?_
            refine lv_if_ne (tgt := 87) hx hb dX12_vertex_59 (by decide) (fun c_59 => ?_) (fun c_59 => ?_)
            · skip
              have c_59 := pi_ne c_59
              refine lv_aload_n hx hb dX12_vertex_87 rfl (lv_at hl 2 rfl) ?_
              refine pg_r M V 12 81 (sm_this S) pC12 fk12_81 (sm_drawing S).2.2 lkF_X12_172 dX12_vertex_88 ?_
              refine lv_iload_n hx hb dX12_vertex_91 rfl (lv_at hl 1 rfl) ?_
              refine lv_iload hx hb dX12_vertex_92 (lv_at hl 0 rfl) ?_
              refine lv_iconst (v := 2) hx hb dX12_vertex_94 (by decide) ?_
              refine lv_icmp_ge (tgt := 102) hx hb dX12_vertex_95 (by decide) (fun c_95 => ?_) (fun c_95 => ?_)
              · skip
                have c_95 := pi_le.mp c_95
                refine lv_iconst (v := 4) hx hb dX12_vertex_102 (by decide) ?_
                refine lv_iadd hx hb dX12_vertex_103 ?_
                refine lv_topi (fun v8 ev8 => ?_)
                have k_11 : (11 : Int32).toInt = 11 := rfl
                have tv5 : v5.toInt = k.toInt / 4 := by rw [ev5]; have z9 := pi_div (x := k) (y := (4 : Int32)); rw [k_4] at z9; exact z9 (by omega) (by omega)
                have tv6 : v6.toInt = 11 * v5.toInt := by rw [ev6]; have z9 := pi_mul (x := (11 : Int32)) (y := v5); rw [k_11] at z9; exact z9 (by omega)
                have tv8 : v8.toInt = v6.toInt + 4 := by rw [ev8]; have z9 := pi_add (x := v6) (y := (4 : Int32)); rw [k_4] at z9; exact z9 (by omega)
                refine pa_i M V (sm_drawing S).1 (by rw [(sm_drawing S).2.1]; exact pi_in (by omega)) dX12_vertex_104 ?_
                refine lv_topi (fun v9 ev9 => ?_)
                exact pe_i M V rfl rfl hr hlk rfl ⟨rfl, I, A.wk (by decide), (E9.congr rfl rfl), (S9.congr rfl rfl rfl rfl rfl rfl rfl), (K9.congr rfl rfl)⟩ ⟨Nat.le_refl _, Nat.le_refl _⟩ dX12_vertex_105
              · skip
                have c_95 := pi_le' c_95
                refine lv_iconst (v := 2) hx hb dX12_vertex_98 (by decide) ?_
                refine lv_goto (tgt := 103) hx hb dX12_vertex_99 (by decide) ?_
                refine lv_iadd hx hb dX12_vertex_103 ?_
                refine lv_topi (fun v10 ev10 => ?_)
                have k_11 : (11 : Int32).toInt = 11 := rfl
                have tv5 : v5.toInt = k.toInt / 4 := by rw [ev5]; have z9 := pi_div (x := k) (y := (4 : Int32)); rw [k_4] at z9; exact z9 (by omega) (by omega)
                have tv6 : v6.toInt = 11 * v5.toInt := by rw [ev6]; have z9 := pi_mul (x := (11 : Int32)) (y := v5); rw [k_11] at z9; exact z9 (by omega)
                have tv10 : v10.toInt = v6.toInt + 2 := by rw [ev10]; have z9 := pi_add (x := v6) (y := (2 : Int32)); rw [k_2] at z9; exact z9 (by omega)
                refine pa_i M V (sm_drawing S).1 (by rw [(sm_drawing S).2.1]; exact pi_in (by omega)) dX12_vertex_104 ?_
                refine lv_topi (fun v11 ev11 => ?_)
                exact pe_i M V rfl rfl hr hlk rfl ⟨rfl, I, A.wk (by decide), (E9.congr rfl rfl), (S9.congr rfl rfl rfl rfl rfl rfl rfl), (K9.congr rfl rfl)⟩ ⟨Nat.le_refl _, Nat.le_refl _⟩ dX12_vertex_105
            · skip
              have c_59 := pi_eq.mp c_59
              refine lv_aload_n hx hb dX12_vertex_62 rfl (lv_at hl 2 rfl) ?_
              refine pg_r M V 12 81 (sm_this S) pC12 fk12_81 (sm_drawing S).2.2 lkF_X12_172 dX12_vertex_63 ?_
              refine lv_iload_n hx hb dX12_vertex_66 rfl (lv_at hl 1 rfl) ?_
              refine lv_iload hx hb dX12_vertex_67 (lv_at hl 0 rfl) ?_
              refine lv_iconst (v := 1) hx hb dX12_vertex_69 (by decide) ?_
              refine lv_icmp_eq (tgt := 79) hx hb dX12_vertex_70 (by decide) (fun c_70 => ?_) (fun c_70 => ?_)
              · skip
                have k_1 : (1 : Int32).toInt = 1 := rfl
                have c_70 := pi_eq.mp c_70
                have k_11 : (11 : Int32).toInt = 11 := rfl
                have tv5 : v5.toInt = k.toInt / 4 := by rw [ev5]; have z9 := pi_div (x := k) (y := (4 : Int32)); rw [k_4] at z9; exact z9 (by omega) (by omega)
                have tv6 : v6.toInt = 11 * v5.toInt := by rw [ev6]; have z9 := pi_mul (x := (11 : Int32)) (y := v5); rw [k_11] at z9; exact z9 (by omega)
                exact J_79 v6 v7 v6 _ _ _ _ V I (A.wk (by decide)) (lv_sub hl [2, 3, 4, 1, 0] rfl) (by omega) (by omega) (by omega) (by omega) (by omega) (show (h 137 83).toInt + (0) ≤ (h 137 83).toInt ∧ (h 137 83).toInt ≤ (h 137 83).toInt + (0) by omega) (E9.congr rfl rfl) (S9.congr rfl rfl rfl rfl rfl rfl rfl) (K9.congr rfl rfl) 
              · skip
                have k_1 : (1 : Int32).toInt = 1 := rfl
                have c_70 := pi_ne c_70
                refine lv_iload hx hb dX12_vertex_73 (lv_at hl 0 rfl) ?_
                refine lv_iconst (v := 2) hx hb dX12_vertex_75 (by decide) ?_
                refine lv_icmp_ne (tgt := 83) hx hb dX12_vertex_76 (by decide) (fun c_76 => ?_) (fun c_76 => ?_)
                · skip
                  have c_76 := pi_ne c_76
                  refine lv_iconst (v := 1) hx hb dX12_vertex_83 (by decide) ?_
                  refine lv_iadd hx hb dX12_vertex_84 ?_
                  refine lv_topi (fun v12 ev12 => ?_)
                  have k_11 : (11 : Int32).toInt = 11 := rfl
                  have tv5 : v5.toInt = k.toInt / 4 := by rw [ev5]; have z9 := pi_div (x := k) (y := (4 : Int32)); rw [k_4] at z9; exact z9 (by omega) (by omega)
                  have tv6 : v6.toInt = 11 * v5.toInt := by rw [ev6]; have z9 := pi_mul (x := (11 : Int32)) (y := v5); rw [k_11] at z9; exact z9 (by omega)
                  have tv12 : v12.toInt = v6.toInt + 1 := by rw [ev12]; have z9 := pi_add (x := v6) (y := (1 : Int32)); rw [k_1] at z9; exact z9 (by omega)
                  refine pa_i M V (sm_drawing S).1 (by rw [(sm_drawing S).2.1]; exact pi_in (by omega)) dX12_vertex_85 ?_
                  refine lv_topi (fun v13 ev13 => ?_)
                  exact pe_i M V rfl rfl hr hlk rfl ⟨rfl, I, A.wk (by decide), (E9.congr rfl rfl), (S9.congr rfl rfl rfl rfl rfl rfl rfl), (K9.congr rfl rfl)⟩ ⟨Nat.le_refl _, Nat.le_refl _⟩ dX12_vertex_86
                · skip
                  have c_76 := pi_eq.mp c_76
                  have k_11 : (11 : Int32).toInt = 11 := rfl
                  have tv5 : v5.toInt = k.toInt / 4 := by rw [ev5]; have z9 := pi_div (x := k) (y := (4 : Int32)); rw [k_4] at z9; exact z9 (by omega) (by omega)
                  have tv6 : v6.toInt = 11 * v5.toInt := by rw [ev6]; have z9 := pi_mul (x := (11 : Int32)) (y := v5); rw [k_11] at z9; exact z9 (by omega)
                  exact J_79 v6 v7 v6 _ _ _ _ V I (A.wk (by decide)) (lv_sub hl [2, 3, 4, 1, 0] rfl) (by omega) (by omega) (by omega) (by omega) (by omega) (show (h 137 83).toInt + (0) ≤ (h 137 83).toInt ∧ (h 137 83).toInt ≤ (h 137 83).toInt + (0) by omega) (E9.congr rfl rfl) (S9.congr rfl rfl rfl rfl rfl rfl rfl) (K9.congr rfl rfl) 
          · skip
            have c_46 := pi_eq.mp c_46
            refine lv_aload_n hx hb dX12_vertex_49 rfl (lv_at hl 2 rfl) ?_
            refine pg_r M V 12 81 (sm_this S) pC12 fk12_81 (sm_drawing S).2.2 lkF_X12_172 dX12_vertex_50 ?_
            refine lv_iload_n hx hb dX12_vertex_53 rfl (lv_at hl 1 rfl) ?_
            refine lv_iconst (v := 5) hx hb dX12_vertex_54 (by decide) ?_
            refine lv_iadd hx hb dX12_vertex_55 ?_
            refine lv_topi (fun v14 ev14 => ?_)
            have k_11 : (11 : Int32).toInt = 11 := rfl
            have tv5 : v5.toInt = k.toInt / 4 := by rw [ev5]; have z9 := pi_div (x := k) (y := (4 : Int32)); rw [k_4] at z9; exact z9 (by omega) (by omega)
            have tv6 : v6.toInt = 11 * v5.toInt := by rw [ev6]; have z9 := pi_mul (x := (11 : Int32)) (y := v5); rw [k_11] at z9; exact z9 (by omega)
            have k_5 : (5 : Int32).toInt = 5 := rfl
            have tv14 : v14.toInt = v6.toInt + 5 := by rw [ev14]; have z9 := pi_add (x := v6) (y := (5 : Int32)); rw [k_5] at z9; exact z9 (by omega)
            refine pa_i M V (sm_drawing S).1 (by rw [(sm_drawing S).2.1]; exact pi_in (by omega)) dX12_vertex_56 ?_
            refine lv_topi (fun v15 ev15 => ?_)
            exact pe_i M V rfl rfl hr hlk rfl ⟨rfl, I, A.wk (by decide), (E9.congr rfl rfl), (S9.congr rfl rfl rfl rfl rfl rfl rfl), (K9.congr rfl rfl)⟩ ⟨Nat.le_refl _, Nat.le_refl _⟩ dX12_vertex_57
        · skip
          have k_2 : (2 : Int32).toInt = 2 := rfl
          have c_25 := pi_le' c_25
          exact J_28 _ _ _ _ V I (A.wk (by decide)) (lv_sub hl [0, 1, 2] rfl) (show (h 137 83).toInt + (0) ≤ (h 137 83).toInt ∧ (h 137 83).toInt ≤ (h 137 83).toInt + (0) by omega) (E9.congr rfl rfl) (S9.congr rfl rfl rfl rfl rfl rfl rfl) (K9.congr rfl rfl) 
theorem dX12_near_0 : decode cX12_near 0 = .ok (.aload_n 0, 1) := by decide +kernel
theorem dX12_near_1 : decode cX12_near 1 = .ok (.iconst 0, 1) := by decide +kernel
theorem dX12_near_2 : decode cX12_near 2 = .ok (.putfield 175, 3) := by decide +kernel
theorem dX12_near_5 : decode cX12_near 5 = .ok (.aload_n 0, 1) := by decide +kernel
theorem dX12_near_6 : decode cX12_near 6 = .ok (.getfield 236, 3) := by decide +kernel
theorem dX12_near_9 : decode cX12_near 9 = .ok (.ifCond .eq 10, 3) := by decide +kernel
theorem dX12_near_12 : decode cX12_near 12 = .ok (.aload_n 0, 1) := by decide +kernel
theorem dX12_near_13 : decode cX12_near 13 = .ok (.getfield 285, 3) := by decide +kernel
theorem dX12_near_16 : decode cX12_near 16 = .ok (.ifCond .ne 11, 3) := by decide +kernel
theorem dX12_near_19 : decode cX12_near 19 = .ok (.aload_n 0, 1) := by decide +kernel
theorem dX12_near_20 : decode cX12_near 20 = .ok (.invokevirtual 239, 3) := by decide +kernel
theorem dX12_near_23 : decode cX12_near 23 = .ok (.pop, 1) := by decide +kernel
theorem dX12_near_24 : decode cX12_near 24 = .ok (.goto 15, 3) := by decide +kernel
theorem dX12_near_27 : decode cX12_near 27 = .ok (.aload_n 0, 1) := by decide +kernel
theorem dX12_near_28 : decode cX12_near 28 = .ok (.getfield 138, 3) := by decide +kernel
theorem dX12_near_31 : decode cX12_near 31 = .ok (.aload_n 0, 1) := by decide +kernel
theorem dX12_near_32 : decode cX12_near 32 = .ok (.getfield 285, 3) := by decide +kernel
theorem dX12_near_35 : decode cX12_near 35 = .ok (.iconst 1, 1) := by decide +kernel
theorem dX12_near_36 : decode cX12_near 36 = .ok (.isub, 1) := by decide +kernel
theorem dX12_near_37 : decode cX12_near 37 = .ok (.iconst 1, 1) := by decide +kernel
theorem dX12_near_38 : decode cX12_near 38 = .ok (.bastore, 1) := by decide +kernel
theorem dX12_near_39 : decode cX12_near 39 = .ok (.return_, 1) := by decide +kernel
set_option maxHeartbeats 4000000 in
set_option maxRecDepth 100000 in
theorem m_X12_near (l : Launch) {Z : pZ} (S : pSh Z) {h : pH} (I : Iv Z h) (E9 : mE h) (S9 : mS h) (K9 : mK h) : pMet l yX12_near cX12_near 1 none 2 0 0 42 Z h [.ref (zB Z + 137)] (pQv Z (fun Z1 h1 => Z = Z1 ∧ Iv Z h1 ∧ agr [(137, 0), (137, 18), (137, 19), (137, 20), (137, 22), (137, 21), (137, 23), (137, 40), (137, 48), (137, 56), (137, 58), (137, 70), (137, 71), (153, 1000), (177, 1000)] h h1 ∧ (mE h1) ∧ (mS h1) ∧ (mK h1))) := by
  refine pOfW (lv := [(0, .ref (zB Z + 137))]) (by decide) (Nat.le_of_ble_eq_true rfl) rfl ?_
  intro p e s m below meth c ls M hr hlk hnm V hl
  have hx := M.1.1
  have hb := M.1.2.1
  have A : agr [] h h := agr.rf
  have i_70 : 0 ≤ (h 137 70).toInt ∧ (h 137 70).toInt ≤ 40 := I.get (sm_this S) 70
  have n9 := S9.num
  have J_39 : ∀ (hJ : pH) (H : Heap) (locs : List Loc) (ls : Array Slot), pV Z hJ s.heap H locs → Iv Z hJ → agr [(137, 0), (137, 18), (137, 19), (137, 20), (137, 21), (137, 22), (137, 23), (137, 40), (137, 48), (137, 56), (137, 58), (137, 70), (137, 71), (153, 1000), (177, 1000)] h hJ → lv_has ls 1 [(0, .ref (zB Z + 137))] → mE hJ → mS hJ → mK hJ → W p l e (pRm 2 0 0 42) s m ([.ref (zB Z + 137)] : List Value).toArray below meth c H locs 0 0 (MQ below (pQv Z (fun Z1 h1 => Z = Z1 ∧ Iv Z h1 ∧ agr [(137, 0), (137, 18), (137, 19), (137, 20), (137, 22), (137, 21), (137, 23), (137, 40), (137, 48), (137, 56), (137, 58), (137, 70), (137, 71), (153, 1000), (177, 1000)] h h1 ∧ (mE h1) ∧ (mS h1) ∧ (mK h1))) ([.ref (zB Z + 137)] : List Value).toArray s 0 0 (pA (zB Z))) (F0 m 39 ls []) := by
    intro hJ H locs ls V I A hl E9 S9 K9
    exact pe_v M V rfl rfl hr hlk ⟨rfl, I, A.wk (by decide), (E9.congr rfl rfl), (S9.congr rfl rfl rfl rfl rfl rfl rfl), (K9.congr rfl rfl)⟩ ⟨Nat.le_refl _, Nat.le_refl _⟩ dX12_near_39
  have J_19 : ∀ (hJ : pH) (H : Heap) (locs : List Loc) (ls : Array Slot), pV Z hJ s.heap H locs → Iv Z hJ → agr [(137, 0)] h hJ → lv_has ls 1 [(0, .ref (zB Z + 137))] → ((h 137 70).toInt + (0) ≤ (hJ 137 70).toInt ∧ (hJ 137 70).toInt ≤ (h 137 70).toInt + (0)) → mE hJ → mS hJ → mK hJ → W p l e (pRm 2 0 0 42) s m ([.ref (zB Z + 137)] : List Value).toArray below meth c H locs 0 0 (MQ below (pQv Z (fun Z1 h1 => Z = Z1 ∧ Iv Z h1 ∧ agr [(137, 0), (137, 18), (137, 19), (137, 20), (137, 22), (137, 21), (137, 23), (137, 40), (137, 48), (137, 56), (137, 58), (137, 70), (137, 71), (153, 1000), (177, 1000)] h h1 ∧ (mE h1) ∧ (mS h1) ∧ (mK h1))) ([.ref (zB Z + 137)] : List Value).toArray s 0 0 (pA (zB Z))) (F0 m 19 ls []) := by
    intro hJ H locs ls V I A hl gd_19_70 E9 S9 K9
    refine lv_aload_n hx hb dX12_near_19 rfl (lv_at hl 0 rfl) ?_
    refine pk_i (pr_V M V (m_X12_breaks l S I  ) km_X12_breaks (sm_this S) pC12 lkM_X12_239 rfl hl.1 rfl (Nat.le_of_ble_eq_true rfl) ⟨Nat.le_of_ble_eq_true rfl, Nat.le_of_ble_eq_true rfl⟩ ⟨Nat.le_of_ble_eq_true rfl, Nat.le_of_ble_eq_true rfl⟩ dX12_near_20) V (fun r1 Zr1 hr1 H locs pr1 _ _ V => ?_)
    obtain ⟨rfl, I, pA_r1, fr1_0, fr1_1⟩ := pr1
    have A := A.wk (l3 := [(137, 0), (137, 18), (137, 19), (137, 20), (137, 22), (137, 21), (137, 23), (137, 40), (137, 48), (137, 56), (137, 58), (137, 70), (137, 71), (153, 1000)]) (by decide)
    have A := A.tr pA_r1 (by decide)
    have E9 : mE hr1 := E9.congr (pA_r1.get 137 2 (by decide)) (pA_r1.row 138 (by decide))
    have S9 : mS hr1 := fr1_1 (S9.congr rfl rfl rfl rfl rfl rfl rfl)
    have K9 : mK hr1 := K9.congr (pA_r1.row 185 (by decide)) (pA_r1.row 184 (by decide))
    refine lv_pop hx hb dX12_near_23 rfl ?_
    refine lv_goto (tgt := 39) hx hb dX12_near_24 (by decide) ?_
    exact J_39 _ _ _ _ V I (A.wk (by decide)) (lv_sub hl [0] rfl) (E9.congr rfl rfl) (S9.congr rfl rfl rfl rfl rfl rfl rfl) (K9.congr rfl rfl) 
  refine lv_aload_n hx hb dX12_near_0 rfl (lv_at hl 0 rfl) ?_
  refine lv_iconst (v := 0) hx hb dX12_near_1 (by decide) ?_
  refine pp_i M V 12 0 (sm_this S) pC12 fk12_0 rfl lkF_X12_175 ⟨rfl, rfl⟩ dX12_near_2 (fun H locs V => ?_)
  have A := A.wk (l3 := [(137, 0)]) (by decide)
  have A := A.up (o := 137) (k := 0) (v := (0 : Int32)) (by decide)
  have I := I.up (k := 0) (v := (0 : Int32)) (sm_this S) (pi_full _)
  refine lv_aload_n hx hb dX12_near_5 rfl (lv_at hl 0 rfl) ?_
  refine pg_i M V 12 18 (sm_this S) pC12 fk12_18 lkF_X12_236 dX12_near_6 ?_
  refine lv_topi (fun v2 ev2 => ?_)
  have tv2 : 0 ≤ v2.toInt ∧ v2.toInt ≤ 1 := by rw [ev2]; exact I.get (sm_this S) 18
  refine lv_if_eq (tgt := 19) hx hb dX12_near_9 (by decide) (fun c_9 => ?_) (fun c_9 => ?_)
  · skip
    have k_0 : (0 : Int32).toInt = 0 := rfl
    have c_9 := pi_eq.mp c_9
    exact J_19 _ _ _ _ V I (A.wk (by decide)) (lv_sub hl [0] rfl) (show (h 137 70).toInt + (0) ≤ (h 137 70).toInt ∧ (h 137 70).toInt ≤ (h 137 70).toInt + (0) by omega) (E9.congr rfl rfl) (S9.congr rfl rfl rfl rfl rfl rfl rfl) (K9.congr rfl rfl) 
  · skip
    have k_0 : (0 : Int32).toInt = 0 := rfl
    have c_9 := pi_ne c_9
    refine lv_aload_n hx hb dX12_near_12 rfl (lv_at hl 0 rfl) ?_
    refine pg_i M V 12 70 (sm_this S) pC12 fk12_70 lkF_X12_285 dX12_near_13 ?_
    refine lv_topi (fun v3 ev3 => ?_)
    have tv3 : 0 ≤ v3.toInt ∧ v3.toInt ≤ 40 := by rw [ev3]; exact I.get (sm_this S) 70
    have uv3 : v3.toInt = (h 137 70).toInt := congrArg Int32.toInt ev3
    refine lv_if_ne (tgt := 27) hx hb dX12_near_16 (by decide) (fun c_16 => ?_) (fun c_16 => ?_)
    · skip
      have c_16 := pi_ne c_16
      refine lv_aload_n hx hb dX12_near_27 rfl (lv_at hl 0 rfl) ?_
      refine pg_r M V 12 68 (sm_this S) pC12 fk12_68 (sm_near S).2.2 lkF_X12_138 dX12_near_28 ?_
      refine lv_aload_n hx hb dX12_near_31 rfl (lv_at hl 0 rfl) ?_
      refine pg_iv M V 12 70 (v := v3) (sm_this S) pC12 fk12_70 ev3.symm lkF_X12_285 dX12_near_32 ?_
      refine lv_iconst (v := 1) hx hb dX12_near_35 (by decide) ?_
      refine lv_isub hx hb dX12_near_36 ?_
      refine lv_topi (fun v4 ev4 => ?_)
      refine lv_iconst (v := 1) hx hb dX12_near_37 (by decide) ?_
      have k_1 : (1 : Int32).toInt = 1 := rfl
      have tv4 : v4.toInt = v3.toInt - 1 := by rw [ev4]; have z9 := pi_sub (x := v3) (y := (1 : Int32)); rw [k_1] at z9; exact z9 (by omega)
      refine ps_z M V (sm_near S).1 (by rw [(sm_near S).2.1]; exact pi_in (by omega)) (pi_z (by omega)) dX12_near_38 (fun H locs V => ?_)
      have A := A.wk (l3 := [(137, 0), (177, 1000)]) (by decide)
      have A := A.upA (o := 177) (k := v4.toNatClampNeg) (v := (1 : Int32)) (by decide)
      have I := I.up (k := v4.toNatClampNeg) (v := (1 : Int32)) (sm_near S).1 (show (0 : Int) ≤ (1 : Int32).toInt ∧ (1 : Int32).toInt ≤ (1 : Int) by omega)
      exact J_39 _ _ _ _ V I (A.wk (by decide)) (lv_sub hl [0] rfl) (E9.congr rfl rfl) (S9.congr rfl rfl rfl rfl rfl rfl rfl) (K9.congr rfl rfl) 
    · skip
      have c_16 := pi_eq.mp c_16
      exact J_19 _ _ _ _ V I (A.wk (by decide)) (lv_sub hl [0] rfl) (show (h 137 70).toInt + (0) ≤ (h 137 70).toInt ∧ (h 137 70).toInt ≤ (h 137 70).toInt + (0) by omega) (E9.congr rfl rfl) (S9.congr rfl rfl rfl rfl rfl rfl rfl) (K9.congr rfl rfl) 
theorem dX12_open_0 : decode cX12_open 0 = .ok (.aload_n 0, 1) := by decide +kernel
theorem dX12_open_1 : decode cX12_open 1 = .ok (.aload_n 0, 1) := by decide +kernel
theorem dX12_open_2 : decode cX12_open 2 = .ok (.iload_n 1, 1) := by decide +kernel
theorem dX12_open_3 : decode cX12_open 3 = .ok (.invokevirtual 343, 3) := by decide +kernel
theorem dX12_open_6 : decode cX12_open 6 = .ok (.ifCond .eq 7, 3) := by decide +kernel
theorem dX12_open_9 : decode cX12_open 9 = .ok (.iconst 0, 1) := by decide +kernel
theorem dX12_open_10 : decode cX12_open 10 = .ok (.goto 4, 3) := by decide +kernel
theorem dX12_open_13 : decode cX12_open 13 = .ok (.iconst 1, 1) := by decide +kernel
theorem dX12_open_14 : decode cX12_open 14 = .ok (.putfield 175, 3) := by decide +kernel
theorem dX12_open_17 : decode cX12_open 17 = .ok (.aload_n 0, 1) := by decide +kernel
theorem dX12_open_18 : decode cX12_open 18 = .ok (.getfield 175, 3) := by decide +kernel
theorem dX12_open_21 : decode cX12_open 21 = .ok (.ifCond .le 5, 3) := by decide +kernel
theorem dX12_open_24 : decode cX12_open 24 = .ok (.iconst 0, 1) := by decide +kernel
theorem dX12_open_25 : decode cX12_open 25 = .ok (.ireturn, 1) := by decide +kernel
theorem dX12_open_26 : decode cX12_open 26 = .ok (.aload_n 0, 1) := by decide +kernel
theorem dX12_open_27 : decode cX12_open 27 = .ok (.getfield 236, 3) := by decide +kernel
theorem dX12_open_30 : decode cX12_open 30 = .ok (.ifCond .ne 17, 3) := by decide +kernel
theorem dX12_open_33 : decode cX12_open 33 = .ok (.aload_n 0, 1) := by decide +kernel
theorem dX12_open_34 : decode cX12_open 34 = .ok (.iconst 2, 1) := by decide +kernel
theorem dX12_open_35 : decode cX12_open 35 = .ok (.invokevirtual 297, 3) := by decide +kernel
theorem dX12_open_38 : decode cX12_open 38 = .ok (.ifCond .le 7, 3) := by decide +kernel
theorem dX12_open_41 : decode cX12_open 41 = .ok (.iconst 1, 1) := by decide +kernel
theorem dX12_open_42 : decode cX12_open 42 = .ok (.goto 4, 3) := by decide +kernel
theorem dX12_open_45 : decode cX12_open 45 = .ok (.iconst 0, 1) := by decide +kernel
theorem dX12_open_46 : decode cX12_open 46 = .ok (.ireturn, 1) := by decide +kernel
theorem dX12_open_47 : decode cX12_open 47 = .ok (.aload_n 0, 1) := by decide +kernel
theorem dX12_open_48 : decode cX12_open 48 = .ok (.getfield 60, 3) := by decide +kernel
theorem dX12_open_51 : decode cX12_open 51 = .ok (.bipush 8, 2) := by decide +kernel
theorem dX12_open_53 : decode cX12_open 53 = .ok (.baload, 1) := by decide +kernel
theorem dX12_open_54 : decode cX12_open 54 = .ok (.ifCond .eq 5, 3) := by decide +kernel
theorem dX12_open_57 : decode cX12_open 57 = .ok (.iconst 0, 1) := by decide +kernel
theorem dX12_open_58 : decode cX12_open 58 = .ok (.ireturn, 1) := by decide +kernel
theorem dX12_open_59 : decode cX12_open 59 = .ok (.aload_n 0, 1) := by decide +kernel
theorem dX12_open_60 : decode cX12_open 60 = .ok (.iload_n 1, 1) := by decide +kernel
theorem dX12_open_61 : decode cX12_open 61 = .ok (.putfield 69, 3) := by decide +kernel
theorem dX12_open_64 : decode cX12_open 64 = .ok (.aload_n 0, 1) := by decide +kernel
theorem dX12_open_65 : decode cX12_open 65 = .ok (.getfield 36, 3) := by decide +kernel
theorem dX12_open_68 : decode cX12_open 68 = .ok (.bipush 8, 2) := by decide +kernel
theorem dX12_open_70 : decode cX12_open 70 = .ok (.aload_n 0, 1) := by decide +kernel
theorem dX12_open_71 : decode cX12_open 71 = .ok (.getfield 192, 3) := by decide +kernel
theorem dX12_open_74 : decode cX12_open 74 = .ok (.iastore, 1) := by decide +kernel
theorem dX12_open_75 : decode cX12_open 75 = .ok (.aload_n 0, 1) := by decide +kernel
theorem dX12_open_76 : decode cX12_open 76 = .ok (.getfield 39, 3) := by decide +kernel
theorem dX12_open_79 : decode cX12_open 79 = .ok (.bipush 8, 2) := by decide +kernel
theorem dX12_open_81 : decode cX12_open 81 = .ok (.aload_n 0, 1) := by decide +kernel
theorem dX12_open_82 : decode cX12_open 82 = .ok (.getfield 195, 3) := by decide +kernel
theorem dX12_open_85 : decode cX12_open 85 = .ok (.iastore, 1) := by decide +kernel
theorem dX12_open_86 : decode cX12_open 86 = .ok (.aload_n 0, 1) := by decide +kernel
theorem dX12_open_87 : decode cX12_open 87 = .ok (.iconst 1, 1) := by decide +kernel
theorem dX12_open_88 : decode cX12_open 88 = .ok (.putfield 276, 3) := by decide +kernel
theorem dX12_open_91 : decode cX12_open 91 = .ok (.iconst 1, 1) := by decide +kernel
theorem dX12_open_92 : decode cX12_open 92 = .ok (.ireturn, 1) := by decide +kernel
set_option maxHeartbeats 4000000 in
set_option maxRecDepth 100000 in
theorem m_X12_open (l : Launch) {Z : pZ} (S : pSh Z) {h : pH} (I : Iv Z h) (label : Int32) (E9 : mE h) (S9 : mS h) (K9 : mK h) : pMet l yX12_open cX12_open 2 (some .boolean) 1 0 0 22 Z h [.ref (zB Z + 137), .int label] (pQi Z (fun r Z1 h1 => Z = Z1 ∧ Iv Z h1 ∧ agr [(137, 0), (137, 18), (137, 19), (137, 20), (137, 22), (137, 21), (137, 23), (137, 40), (137, 48), (137, 56), (137, 58), (137, 70), (137, 71), (153, 1000), (137, 41), (145, 1000), (146, 1000)] h h1 ∧ (r.toInt = 0 ∨ r.toInt = 1) ∧ (mE h1) ∧ (mS h1) ∧ (mK h1))) := by
  refine pOfW (lv := [(0, .ref (zB Z + 137)), (1, .int label)]) (by decide) (Nat.le_of_ble_eq_true rfl) rfl ?_
  intro p e s m below meth c ls M hr hlk hnm V hl
  have hx := M.1.1
  have hb := M.1.2.1
  have A : agr [] h h := agr.rf
  have J_46 : ∀ (y46_0 : Int32) (hJ : pH) (H : Heap) (locs : List Loc) (ls : Array Slot), pV Z hJ s.heap H locs → Iv Z hJ → agr [(137, 0), (137, 18), (137, 19), (137, 20), (137, 21), (137, 22), (137, 23), (137, 40), (137, 48), (137, 56), (137, 58), (137, 70), (137, 71), (153, 1000)] h hJ → lv_has ls 2 [(0, .ref (zB Z + 137)), (1, .int label)] → (0 ≤ y46_0.toInt ∧ y46_0.toInt ≤ 0) → mE hJ → mS hJ → mK hJ → W p l e (pRm 1 0 0 22) s m ([.ref (zB Z + 137), .int label] : List Value).toArray below meth c H locs 0 0 (MQ below (pQi Z (fun r Z1 h1 => Z = Z1 ∧ Iv Z h1 ∧ agr [(137, 0), (137, 18), (137, 19), (137, 20), (137, 22), (137, 21), (137, 23), (137, 40), (137, 48), (137, 56), (137, 58), (137, 70), (137, 71), (153, 1000), (137, 41), (145, 1000), (146, 1000)] h h1 ∧ (r.toInt = 0 ∨ r.toInt = 1) ∧ (mE h1) ∧ (mS h1) ∧ (mK h1))) ([.ref (zB Z + 137), .int label] : List Value).toArray s 0 0 (pA (zB Z))) (F0 m 46 ls [.int y46_0]) := by
    intro y46_0 hJ H locs ls V I A hl gs_46_0 E9 S9 K9
    exact pe_i M V rfl rfl hr hlk (pn_z (pi_z (by omega))).1 ⟨rfl, I, A.wk (by decide), by omega, (E9.congr rfl rfl), (S9.congr rfl rfl rfl rfl rfl rfl rfl), (K9.congr rfl rfl)⟩ ⟨Nat.le_refl _, Nat.le_refl _⟩ dX12_open_46
  have J_14 : ∀ (y14_0 : Int32) (hJ : pH) (H : Heap) (locs : List Loc) (ls : Array Slot), pV Z hJ s.heap H locs → Iv Z hJ → agr [] h hJ → lv_has ls 2 [(0, .ref (zB Z + 137)), (1, .int label)] → (0 ≤ y14_0.toInt ∧ y14_0.toInt ≤ 1) → mE hJ → mS hJ → mK hJ → W p l e (pRm 1 0 0 22) s m ([.ref (zB Z + 137), .int label] : List Value).toArray below meth c H locs 0 0 (MQ below (pQi Z (fun r Z1 h1 => Z = Z1 ∧ Iv Z h1 ∧ agr [(137, 0), (137, 18), (137, 19), (137, 20), (137, 22), (137, 21), (137, 23), (137, 40), (137, 48), (137, 56), (137, 58), (137, 70), (137, 71), (153, 1000), (137, 41), (145, 1000), (146, 1000)] h h1 ∧ (r.toInt = 0 ∨ r.toInt = 1) ∧ (mE h1) ∧ (mS h1) ∧ (mK h1))) ([.ref (zB Z + 137), .int label] : List Value).toArray s 0 0 (pA (zB Z))) (F0 m 14 ls [.int y14_0, .ref (zB Z + 137)]) := by
    intro y14_0 hJ H locs ls V I A hl gs_14_0 E9 S9 K9
    refine pp_i M V 12 0 (sm_this S) pC12 fk12_0 rfl lkF_X12_175 ⟨rfl, rfl⟩ dX12_open_14 (fun H locs V => ?_)
    have A := A.wk (l3 := [(137, 0)]) (by decide)
    have A := A.up (o := 137) (k := 0) (v := y14_0) (by decide)
    have I := I.up (k := 0) (v := y14_0) (sm_this S) (pi_full _)
    refine lv_aload_n hx hb dX12_open_17 rfl (lv_at hl 0 rfl) ?_
    refine pg_iv M V 12 0 (v := y14_0) (sm_this S) pC12 fk12_0 rfl lkF_X12_175 dX12_open_18 ?_
    refine lv_if_le (tgt := 26) hx hb dX12_open_21 (by decide) (fun c_21 => ?_) (fun c_21 => ?_)
    · skip
      have k_0 : (0 : Int32).toInt = 0 := rfl
      have c_21 := pi_le.mp c_21
      refine lv_aload_n hx hb dX12_open_26 rfl (lv_at hl 0 rfl) ?_
      refine pg_i M V 12 18 (sm_this S) pC12 fk12_18 lkF_X12_236 dX12_open_27 ?_
      refine lv_topi (fun v1 ev1 => ?_)
      have tv1 : 0 ≤ v1.toInt ∧ v1.toInt ≤ 1 := by rw [ev1]; exact I.get (sm_this S) 18
      refine lv_if_ne (tgt := 47) hx hb dX12_open_30 (by decide) (fun c_30 => ?_) (fun c_30 => ?_)
      · skip
        have c_30 := pi_ne c_30
        refine lv_aload_n hx hb dX12_open_47 rfl (lv_at hl 0 rfl) ?_
        refine pg_r M V 12 37 (sm_this S) pC12 fk12_37 (sm_here S).2.2 lkF_X12_60 dX12_open_48 ?_
        refine lv_bipush (v := 8) hx hb dX12_open_51 (by decide) ?_
        have k_8 : (8 : Int32).toInt = 8 := rfl
        refine pa_z M V (sm_here S).1 (by rw [(sm_here S).2.1]; exact pi_in (by omega)) dX12_open_53 ?_
        refine lv_topi (fun v2 ev2 => ?_)
        have tv2 : 0 ≤ v2.toInt ∧ v2.toInt ≤ 1 := by rw [ev2]; exact I.get (sm_here S).1 _
        refine lv_if_eq (tgt := 59) hx hb dX12_open_54 (by decide) (fun c_54 => ?_) (fun c_54 => ?_)
        · skip
          have c_54 := pi_eq.mp c_54
          refine lv_aload_n hx hb dX12_open_59 rfl (lv_at hl 0 rfl) ?_
          refine lv_iload_n hx hb dX12_open_60 rfl (lv_at hl 1 rfl) ?_
          refine pp_i M V 12 40 (sm_this S) pC12 fk12_40 rfl lkF_X12_69 ⟨rfl, rfl⟩ dX12_open_61 (fun H locs V => ?_)
          have A := A.wk (l3 := [(137, 0), (137, 40)]) (by decide)
          have A := A.up (o := 137) (k := 40) (v := label) (by decide)
          have I := I.up (k := 40) (v := label) (sm_this S) (pi_full _)
          refine lv_aload_n hx hb dX12_open_64 rfl (lv_at hl 0 rfl) ?_
          refine pg_r M V 12 29 (sm_this S) pC12 fk12_29 (sm_x S).2.2 lkF_X12_36 dX12_open_65 ?_
          refine lv_bipush (v := 8) hx hb dX12_open_68 (by decide) ?_
          refine lv_aload_n hx hb dX12_open_70 rfl (lv_at hl 0 rfl) ?_
          refine pg_i M V 12 3 (sm_this S) pC12 fk12_3 lkF_X12_192 dX12_open_71 ?_
          refine lv_topi (fun v3 ev3 => ?_)
          refine ps_i M V (sm_x S).1 (by rw [(sm_x S).2.1]; exact pi_in (by omega)) dX12_open_74 (fun H locs V => ?_)
          have A := A.wk (l3 := [(137, 0), (137, 40), (145, 1000)]) (by decide)
          have A := A.upA (o := 145) (k := (8 : Int32).toNatClampNeg) (v := v3) (by decide)
          have I := I.up (k := (8 : Int32).toNatClampNeg) (v := v3) (sm_x S).1 (pi_full _)
          refine lv_aload_n hx hb dX12_open_75 rfl (lv_at hl 0 rfl) ?_
          refine pg_r M V 12 30 (sm_this S) pC12 fk12_30 (sm_y S).2.2 lkF_X12_39 dX12_open_76 ?_
          refine lv_bipush (v := 8) hx hb dX12_open_79 (by decide) ?_
          refine lv_aload_n hx hb dX12_open_81 rfl (lv_at hl 0 rfl) ?_
          refine pg_i M V 12 4 (sm_this S) pC12 fk12_4 lkF_X12_195 dX12_open_82 ?_
          refine lv_topi (fun v4 ev4 => ?_)
          refine ps_i M V (sm_y S).1 (by rw [(sm_y S).2.1]; exact pi_in (by omega)) dX12_open_85 (fun H locs V => ?_)
          have A := A.wk (l3 := [(137, 0), (137, 40), (145, 1000), (146, 1000)]) (by decide)
          have A := A.upA (o := 146) (k := (8 : Int32).toNatClampNeg) (v := v4) (by decide)
          have I := I.up (k := (8 : Int32).toNatClampNeg) (v := v4) (sm_y S).1 (pi_full _)
          refine lv_aload_n hx hb dX12_open_86 rfl (lv_at hl 0 rfl) ?_
          refine lv_iconst (v := 1) hx hb dX12_open_87 (by decide) ?_
          have k_1 : (1 : Int32).toInt = 1 := rfl
          have z_88 : (1 : Int32) = 0 ∨ (1 : Int32) = 1 := pi_z (by omega)
          refine pp_i M V 12 41 (sm_this S) pC12 fk12_41 rfl lkF_X12_276 ⟨(pn_z z_88).1, (pn_z z_88).2.1⟩ dX12_open_88 (fun H locs V => ?_)
          have A := A.wk (l3 := [(137, 0), (137, 40), (145, 1000), (146, 1000), (137, 41)]) (by decide)
          have A := A.up (o := 137) (k := 41) (v := (1 : Int32)) (by decide)
          have I := I.up (k := 41) (v := (1 : Int32)) (sm_this S) (show (0 : Int) ≤ (1 : Int32).toInt ∧ (1 : Int32).toInt ≤ (1 : Int) by omega)
          refine lv_iconst (v := 1) hx hb dX12_open_91 (by decide) ?_
          exact pe_i M V rfl rfl hr hlk (pn_z (pi_z (by omega))).1 ⟨rfl, I, A.wk (by decide), by omega, (E9.congr rfl rfl), (S9.congr rfl rfl rfl rfl rfl rfl rfl), (K9.congr rfl rfl)⟩ ⟨Nat.le_refl _, Nat.le_refl _⟩ dX12_open_92
        · skip
          have c_54 := pi_ne c_54
          refine lv_iconst (v := 0) hx hb dX12_open_57 (by decide) ?_
          exact pe_i M V rfl rfl hr hlk (pn_z (pi_z (by omega))).1 ⟨rfl, I, A.wk (by decide), by omega, (E9.congr rfl rfl), (S9.congr rfl rfl rfl rfl rfl rfl rfl), (K9.congr rfl rfl)⟩ ⟨Nat.le_refl _, Nat.le_refl _⟩ dX12_open_58
      · skip
        have c_30 := pi_eq.mp c_30
        refine lv_aload_n hx hb dX12_open_33 rfl (lv_at hl 0 rfl) ?_
        refine lv_iconst (v := 2) hx hb dX12_open_34 (by decide) ?_
        refine pk_i (pr_V M V (m_X12_fails l S I (2 : Int32) ) km_X12_fails (sm_this S) pC12 lkM_X12_297 rfl hl.1 rfl (Nat.le_of_ble_eq_true rfl) ⟨Nat.le_of_ble_eq_true rfl, Nat.le_of_ble_eq_true rfl⟩ ⟨Nat.le_of_ble_eq_true rfl, Nat.le_of_ble_eq_true rfl⟩ dX12_open_35) V (fun r5 Zr5 hr5 H locs pr5 _ _ V => ?_)
        obtain ⟨rfl, I, pA_r5, fr5_0, fr5_1⟩ := pr5
        have A := A.wk (l3 := [(137, 0), (137, 18), (137, 19), (137, 20), (137, 22), (137, 21), (137, 23), (137, 40), (137, 48), (137, 56), (137, 58), (137, 70), (137, 71), (153, 1000)]) (by decide)
        have A := A.tr pA_r5 (by decide)
        have E9 : mE hr5 := E9.congr (pA_r5.get 137 2 (by decide)) (pA_r5.row 138 (by decide))
        have S9 : mS hr5 := fr5_1 (S9.congr rfl rfl rfl rfl rfl rfl rfl)
        have K9 : mK hr5 := K9.congr (pA_r5.row 185 (by decide)) (pA_r5.row 184 (by decide))
        refine lv_if_le (tgt := 45) hx hb dX12_open_38 (by decide) (fun c_38 => ?_) (fun c_38 => ?_)
        · skip
          have c_38 := pi_le.mp c_38
          refine lv_iconst (v := 0) hx hb dX12_open_45 (by decide) ?_
          exact J_46 (0 : Int32) _ _ _ _ V I (A.wk (by decide)) (lv_sub hl [0, 1] rfl) (by omega) (E9.congr rfl rfl) (S9.congr rfl rfl rfl rfl rfl rfl rfl) (K9.congr rfl rfl) 
        · skip
          have c_38 := pi_le' c_38
          refine lv_iconst (v := 1) hx hb dX12_open_41 (by decide) ?_
          refine lv_goto (tgt := 46) hx hb dX12_open_42 (by decide) ?_
          have k_1 : (1 : Int32).toInt = 1 := rfl
          exact J_46 (1 : Int32) _ _ _ _ V I (A.wk (by decide)) (lv_sub hl [0, 1] rfl) (by omega) (E9.congr rfl rfl) (S9.congr rfl rfl rfl rfl rfl rfl rfl) (K9.congr rfl rfl) 
    · skip
      have k_0 : (0 : Int32).toInt = 0 := rfl
      have c_21 := pi_le' c_21
      refine lv_iconst (v := 0) hx hb dX12_open_24 (by decide) ?_
      exact pe_i M V rfl rfl hr hlk (pn_z (pi_z (by omega))).1 ⟨rfl, I, A.wk (by decide), by omega, (E9.congr rfl rfl), (S9.congr rfl rfl rfl rfl rfl rfl rfl), (K9.congr rfl rfl)⟩ ⟨Nat.le_refl _, Nat.le_refl _⟩ dX12_open_25
  refine lv_aload_n hx hb dX12_open_0 rfl (lv_at hl 0 rfl) ?_
  refine lv_aload_n hx hb dX12_open_1 rfl (lv_at hl 0 rfl) ?_
  refine lv_iload_n hx hb dX12_open_2 rfl (lv_at hl 1 rfl) ?_
  refine pk_i (pr_V M V (m_X12_isLabel l S I label) km_X12_isLabel (sm_this S) pC12 lkM_X12_343 rfl hl.1 rfl (Nat.le_of_ble_eq_true rfl) ⟨Nat.le_of_ble_eq_true rfl, Nat.le_of_ble_eq_true rfl⟩ ⟨Nat.le_of_ble_eq_true rfl, Nat.le_of_ble_eq_true rfl⟩ dX12_open_3) V (fun r6 Zr6 hr6 H locs pr6 _ _ V => ?_)
  obtain ⟨rfl, rfl, fr6_0⟩ := pr6
  refine lv_if_eq (tgt := 13) hx hb dX12_open_6 (by decide) (fun c_6 => ?_) (fun c_6 => ?_)
  · skip
    have k_0 : (0 : Int32).toInt = 0 := rfl
    have c_6 := pi_eq.mp c_6
    refine lv_iconst (v := 1) hx hb dX12_open_13 (by decide) ?_
    have k_1 : (1 : Int32).toInt = 1 := rfl
    exact J_14 (1 : Int32) _ _ _ _ V I (A.wk (by decide)) (lv_sub hl [0, 1] rfl) (by omega) (E9.congr rfl rfl) (S9.congr rfl rfl rfl rfl rfl rfl rfl) (K9.congr rfl rfl) 
  · skip
    have k_0 : (0 : Int32).toInt = 0 := rfl
    have c_6 := pi_ne c_6
    refine lv_iconst (v := 0) hx hb dX12_open_9 (by decide) ?_
    refine lv_goto (tgt := 14) hx hb dX12_open_10 (by decide) ?_
    exact J_14 (0 : Int32) _ _ _ _ V I (A.wk (by decide)) (lv_sub hl [0, 1] rfl) (by omega) (E9.congr rfl rfl) (S9.congr rfl rfl rfl rfl rfl rfl rfl) (K9.congr rfl rfl) 
theorem dX12_button_0 : decode cX12_button 0 = .ok (.aload_n 0, 1) := by decide +kernel
theorem dX12_button_1 : decode cX12_button 1 = .ok (.aload_n 0, 1) := by decide +kernel
theorem dX12_button_2 : decode cX12_button 2 = .ok (.iload_n 1, 1) := by decide +kernel
theorem dX12_button_3 : decode cX12_button 3 = .ok (.invokevirtual 343, 3) := by decide +kernel
theorem dX12_button_6 : decode cX12_button 6 = .ok (.ifCond .eq 19, 3) := by decide +kernel
theorem dX12_button_9 : decode cX12_button 9 = .ok (.iload_n 2, 1) := by decide +kernel
theorem dX12_button_10 : decode cX12_button 10 = .ok (.iconst 1, 1) := by decide +kernel
theorem dX12_button_11 : decode cX12_button 11 = .ok (.if_icmp .lt 14, 3) := by decide +kernel
theorem dX12_button_14 : decode cX12_button 14 = .ok (.iload_n 2, 1) := by decide +kernel
theorem dX12_button_15 : decode cX12_button 15 = .ok (.sipush 200, 3) := by decide +kernel
theorem dX12_button_18 : decode cX12_button 18 = .ok (.if_icmp .gt 7, 3) := by decide +kernel
theorem dX12_button_21 : decode cX12_button 21 = .ok (.iconst 1, 1) := by decide +kernel
theorem dX12_button_22 : decode cX12_button 22 = .ok (.goto 4, 3) := by decide +kernel
theorem dX12_button_25 : decode cX12_button 25 = .ok (.iconst 0, 1) := by decide +kernel
theorem dX12_button_26 : decode cX12_button 26 = .ok (.invokevirtual 371, 3) := by decide +kernel
theorem dX12_button_29 : decode cX12_button 29 = .ok (.ifCond .eq 5, 3) := by decide +kernel
theorem dX12_button_32 : decode cX12_button 32 = .ok (.iconst 0, 1) := by decide +kernel
theorem dX12_button_33 : decode cX12_button 33 = .ok (.ireturn, 1) := by decide +kernel
theorem dX12_button_34 : decode cX12_button 34 = .ok (.aload_n 0, 1) := by decide +kernel
theorem dX12_button_35 : decode cX12_button 35 = .ok (.iload_n 1, 1) := by decide +kernel
theorem dX12_button_36 : decode cX12_button 36 = .ok (.iload_n 2, 1) := by decide +kernel
theorem dX12_button_37 : decode cX12_button 37 = .ok (.bipush 12, 2) := by decide +kernel
theorem dX12_button_39 : decode cX12_button 39 = .ok (.invokevirtual 375, 3) := by decide +kernel
theorem dX12_button_42 : decode cX12_button 42 = .ok (.istore_n 3, 1) := by decide +kernel
theorem dX12_button_43 : decode cX12_button 43 = .ok (.aload_n 0, 1) := by decide +kernel
theorem dX12_button_44 : decode cX12_button 44 = .ok (.iload_n 3, 1) := by decide +kernel
theorem dX12_button_45 : decode cX12_button 45 = .ok (.invokevirtual 378, 3) := by decide +kernel
theorem dX12_button_48 : decode cX12_button 48 = .ok (.istore 4, 2) := by decide +kernel
theorem dX12_button_50 : decode cX12_button 50 = .ok (.aload_n 0, 1) := by decide +kernel
theorem dX12_button_51 : decode cX12_button 51 = .ok (.iload_n 3, 1) := by decide +kernel
theorem dX12_button_52 : decode cX12_button 52 = .ok (.invokevirtual 381, 3) := by decide +kernel
theorem dX12_button_55 : decode cX12_button 55 = .ok (.aload_n 0, 1) := by decide +kernel
theorem dX12_button_56 : decode cX12_button 56 = .ok (.iload_n 1, 1) := by decide +kernel
theorem dX12_button_57 : decode cX12_button 57 = .ok (.invokevirtual 384, 3) := by decide +kernel
theorem dX12_button_60 : decode cX12_button 60 = .ok (.iload 4, 2) := by decide +kernel
theorem dX12_button_62 : decode cX12_button 62 = .ok (.ireturn, 1) := by decide +kernel
set_option maxHeartbeats 4000000 in
set_option maxRecDepth 100000 in
theorem m_X12_button (l : Launch) {Z : pZ} (S : pSh Z) {h : pH} (I : Iv Z h) (label : Int32) (width : Int32) (E9 : mE h) (S9 : mS h) (K9 : mK h) (ht : (h 137 25).toInt ≤ 599) (hb9 : (h 137 27).toInt ≤ 599) (hq : (h 137 82).toInt ≤ 6980) : pMet l yX12_button cX12_button 5 (some .boolean) 4 0 0 101 Z h [.ref (zB Z + 137), .int label, .int width] (pQi Z (fun r Z1 h1 => Z = Z1 ∧ Iv Z h1 ∧ agr [(137, 0), (137, 18), (137, 19), (137, 20), (137, 22), (137, 21), (137, 23), (137, 40), (137, 48), (137, 56), (137, 58), (137, 70), (137, 71), (153, 1000), (180, 1000), (172, 1000), (173, 1000), (171, 1000), (174, 1000), (175, 1000), (176, 1000), (177, 1000), (137, 25), (143, 1000), (137, 28), (137, 27), (144, 1000), (137, 82), (186, 1000)] h h1 ∧ (r.toInt = 0 ∨ r.toInt = 1) ∧ (mE h1) ∧ (mS h1) ∧ (mK h1) ∧ ((h 137 25).toInt + (0) ≤ (h1 137 25).toInt ∧ (h1 137 25).toInt ≤ (h 137 25).toInt + (1)) ∧ ((h 137 27).toInt + (0) ≤ (h1 137 27).toInt ∧ (h1 137 27).toInt ≤ (h 137 27).toInt + (1)) ∧ ((h 137 82).toInt + (0) ≤ (h1 137 82).toInt ∧ (h1 137 82).toInt ≤ (h 137 82).toInt + (4)))) := by
  refine pOfW (lv := [(0, .ref (zB Z + 137)), (1, .int label), (2, .int width)]) (by decide) (Nat.le_of_ble_eq_true rfl) rfl ?_
  intro p e s m below meth c ls M hr hlk hnm V hl
  have hx := M.1.1
  have hb := M.1.2.1
  have A : agr [] h h := agr.rf
  have i_56 : 0 ≤ (h 137 56).toInt ∧ (h 137 56).toInt ≤ 40 := I.get (sm_this S) 56
  have i_70 : 0 ≤ (h 137 70).toInt ∧ (h 137 70).toInt ≤ 40 := I.get (sm_this S) 70
  have i_58 : 0 ≤ (h 137 58).toInt ∧ (h 137 58).toInt ≤ 40 := I.get (sm_this S) 58
  have i_25 : 0 ≤ (h 137 25).toInt ∧ (h 137 25).toInt ≤ 600 := I.get (sm_this S) 25
  have i_27 : 0 ≤ (h 137 27).toInt ∧ (h 137 27).toInt ≤ 600 := I.get (sm_this S) 27
  have i_82 : 0 ≤ (h 137 82).toInt ∧ (h 137 82).toInt ≤ 7000 := I.get (sm_this S) 82
  have i_83 : 0 ≤ (h 137 83).toInt ∧ (h 137 83).toInt ≤ 7000 := I.get (sm_this S) 83
  have i_2 : 0 ≤ (h 137 2).toInt ∧ (h 137 2).toInt ≤ 64 := I.get (sm_this S) 2
  have n9 := S9.num
  have J_26 : ∀ (y26_0 : Int32) (hJ : pH) (H : Heap) (locs : List Loc) (ls : Array Slot), pV Z hJ s.heap H locs → Iv Z hJ → agr [] h hJ → lv_has ls 5 [(0, .ref (zB Z + 137)), (1, .int label), (2, .int width)] → (0 ≤ y26_0.toInt ∧ y26_0.toInt ≤ 1) → ((h 137 56).toInt + (0) ≤ (hJ 137 56).toInt ∧ (hJ 137 56).toInt ≤ (h 137 56).toInt + (0)) → ((h 137 70).toInt + (0) ≤ (hJ 137 70).toInt ∧ (hJ 137 70).toInt ≤ (h 137 70).toInt + (0)) → ((h 137 58).toInt + (0) ≤ (hJ 137 58).toInt ∧ (hJ 137 58).toInt ≤ (h 137 58).toInt + (0)) → ((h 137 25).toInt + (0) ≤ (hJ 137 25).toInt ∧ (hJ 137 25).toInt ≤ (h 137 25).toInt + (0)) → ((h 137 27).toInt + (0) ≤ (hJ 137 27).toInt ∧ (hJ 137 27).toInt ≤ (h 137 27).toInt + (0)) → ((h 137 82).toInt + (0) ≤ (hJ 137 82).toInt ∧ (hJ 137 82).toInt ≤ (h 137 82).toInt + (0)) → ((h 137 83).toInt + (0) ≤ (hJ 137 83).toInt ∧ (hJ 137 83).toInt ≤ (h 137 83).toInt + (0)) → ((h 137 2).toInt + (0) ≤ (hJ 137 2).toInt ∧ (hJ 137 2).toInt ≤ (h 137 2).toInt + (0)) → (y26_0.toInt = 1 → 0 ≤ label.toInt ∧ label.toInt ≤ 999 ∧ 1 ≤ width.toInt ∧ width.toInt ≤ 200) → mE hJ → mS hJ → mK hJ → W p l e (pRm 4 0 0 101) s m ([.ref (zB Z + 137), .int label, .int width] : List Value).toArray below meth c H locs 0 0 (MQ below (pQi Z (fun r Z1 h1 => Z = Z1 ∧ Iv Z h1 ∧ agr [(137, 0), (137, 18), (137, 19), (137, 20), (137, 22), (137, 21), (137, 23), (137, 40), (137, 48), (137, 56), (137, 58), (137, 70), (137, 71), (153, 1000), (180, 1000), (172, 1000), (173, 1000), (171, 1000), (174, 1000), (175, 1000), (176, 1000), (177, 1000), (137, 25), (143, 1000), (137, 28), (137, 27), (144, 1000), (137, 82), (186, 1000)] h h1 ∧ (r.toInt = 0 ∨ r.toInt = 1) ∧ (mE h1) ∧ (mS h1) ∧ (mK h1) ∧ ((h 137 25).toInt + (0) ≤ (h1 137 25).toInt ∧ (h1 137 25).toInt ≤ (h 137 25).toInt + (1)) ∧ ((h 137 27).toInt + (0) ≤ (h1 137 27).toInt ∧ (h1 137 27).toInt ≤ (h 137 27).toInt + (1)) ∧ ((h 137 82).toInt + (0) ≤ (h1 137 82).toInt ∧ (h1 137 82).toInt ≤ (h 137 82).toInt + (4)))) ([.ref (zB Z + 137), .int label, .int width] : List Value).toArray s 0 0 (pA (zB Z))) (F0 m 26 ls [.int y26_0, .ref (zB Z + 137)]) := by
    intro y26_0 hJ H locs ls V I A hl gs_26_0 gd_26_56 gd_26_70 gd_26_58 gd_26_25 gd_26_27 gd_26_82 gd_26_83 gd_26_2 eb E9 S9 K9
    refine pk_i (pr_V M V (m_X12_bars l S I y26_0 (by omega)) km_X12_bars (sm_this S) pC12 lkM_X12_371 rfl hl.1 rfl (Nat.le_of_ble_eq_true rfl) ⟨Nat.le_of_ble_eq_true rfl, Nat.le_of_ble_eq_true rfl⟩ ⟨Nat.le_of_ble_eq_true rfl, Nat.le_of_ble_eq_true rfl⟩ dX12_button_26) V (fun r1 Zr1 hr1 H locs pr1 _ _ V => ?_)
    obtain ⟨rfl, I, pA_r1, fr1_0, fr1_1, fr1_2⟩ := pr1
    refine lv_if_eq (tgt := 34) hx hb dX12_button_29 (by decide) (fun c_29 => ?_) (fun c_29 => ?_)
    · skip
      have k_0 : (0 : Int32).toInt = 0 := rfl
      have c_29 := pi_eq.mp c_29
      have b_r1 := fr1_1 (by omega)
      have pB_r1 := b_r1.2.2
      have g_r1 := b_r1.1
      have a_r1 : 1 ≤ (hJ 137 70).toInt := b_r1.2.1
      have A := A.wk (l3 := [(137, 0)]) (by decide)
      have A := A.tr pB_r1 (by decide)
      have E9 : mE hr1 := E9.congr (pB_r1.get 137 2 (by decide)) (pB_r1.row 138 (by decide))
      have S9 : mS hr1 := S9.congr (pB_r1.get 137 56 (by decide)) (pB_r1.get 137 70 (by decide)) (pB_r1.get 137 58 (by decide)) (pB_r1.row 162 (by decide)) (pB_r1.row 163 (by decide)) (pB_r1.row 165 (by decide)) (pB_r1.row 166 (by decide))
      have K9 : mK hr1 := K9.congr (pB_r1.row 185 (by decide)) (pB_r1.row 184 (by decide))
      have w_r1_56 : (hr1 137 56).toInt = (hJ 137 56).toInt := congrArg Int32.toInt (pB_r1.get 137 56 (by decide))
      have w_r1_70 : (hr1 137 70).toInt = (hJ 137 70).toInt := congrArg Int32.toInt (pB_r1.get 137 70 (by decide))
      have w_r1_58 : (hr1 137 58).toInt = (hJ 137 58).toInt := congrArg Int32.toInt (pB_r1.get 137 58 (by decide))
      have w_r1_25 : (hr1 137 25).toInt = (hJ 137 25).toInt := congrArg Int32.toInt (pB_r1.get 137 25 (by decide))
      have w_r1_27 : (hr1 137 27).toInt = (hJ 137 27).toInt := congrArg Int32.toInt (pB_r1.get 137 27 (by decide))
      have w_r1_82 : (hr1 137 82).toInt = (hJ 137 82).toInt := congrArg Int32.toInt (pB_r1.get 137 82 (by decide))
      have w_r1_83 : (hr1 137 83).toInt = (hJ 137 83).toInt := congrArg Int32.toInt (pB_r1.get 137 83 (by decide))
      have w_r1_2 : (hr1 137 2).toInt = (hJ 137 2).toInt := congrArg Int32.toInt (pB_r1.get 137 2 (by decide))
      refine lv_aload_n hx hb dX12_button_34 rfl (lv_at hl 0 rfl) ?_
      refine lv_iload_n hx hb dX12_button_35 rfl (lv_at hl 1 rfl) ?_
      refine lv_iload_n hx hb dX12_button_36 rfl (lv_at hl 2 rfl) ?_
      refine lv_bipush (v := 12) hx hb dX12_button_37 (by decide) ?_
      refine pk_i (pr_V M V (m_X12_lay l S I label width (12 : Int32) (show 1 ≤ (hr1 137 58).toInt by omega) (show 1 ≤ (hr1 137 70).toInt by omega) (show (hr1 137 25).toInt ≤ 599 by omega)) km_X12_lay (sm_this S) pC12 lkM_X12_375 rfl hl.1 rfl (Nat.le_of_ble_eq_true rfl) ⟨Nat.le_of_ble_eq_true rfl, Nat.le_of_ble_eq_true rfl⟩ ⟨Nat.le_of_ble_eq_true rfl, Nat.le_of_ble_eq_true rfl⟩ dX12_button_39) V (fun r2 Zr2 hr2 H locs pr2 _ _ V => ?_)
      obtain ⟨rfl, I, pA_r2, fr2_0⟩ := pr2
      have fr2_0 : (hr1 137 25).toInt + (1) ≤ (hr2 137 25).toInt ∧ (hr2 137 25).toInt ≤ (hr1 137 25).toInt + (1) := fr2_0
      have A := A.wk (l3 := [(137, 0), (180, 1000), (172, 1000), (173, 1000), (171, 1000), (174, 1000), (175, 1000), (176, 1000), (177, 1000), (137, 25), (143, 1000)]) (by decide)
      have A := A.tr pA_r2 (by decide)
      have E9 : mE hr2 := E9.congr (pA_r2.get 137 2 (by decide)) (pA_r2.row 138 (by decide))
      have S9 : mS hr2 := S9.congr (pA_r2.get 137 56 (by decide)) (pA_r2.get 137 70 (by decide)) (pA_r2.get 137 58 (by decide)) (pA_r2.row 162 (by decide)) (pA_r2.row 163 (by decide)) (pA_r2.row 165 (by decide)) (pA_r2.row 166 (by decide))
      have K9 : mK hr2 := K9.congr (pA_r2.row 185 (by decide)) (pA_r2.row 184 (by decide))
      have w_r2_56 : (hr2 137 56).toInt = (hr1 137 56).toInt := congrArg Int32.toInt (pA_r2.get 137 56 (by decide))
      have w_r2_70 : (hr2 137 70).toInt = (hr1 137 70).toInt := congrArg Int32.toInt (pA_r2.get 137 70 (by decide))
      have w_r2_58 : (hr2 137 58).toInt = (hr1 137 58).toInt := congrArg Int32.toInt (pA_r2.get 137 58 (by decide))
      have w_r2_27 : (hr2 137 27).toInt = (hr1 137 27).toInt := congrArg Int32.toInt (pA_r2.get 137 27 (by decide))
      have w_r2_82 : (hr2 137 82).toInt = (hr1 137 82).toInt := congrArg Int32.toInt (pA_r2.get 137 82 (by decide))
      have w_r2_83 : (hr2 137 83).toInt = (hr1 137 83).toInt := congrArg Int32.toInt (pA_r2.get 137 83 (by decide))
      have w_r2_2 : (hr2 137 2).toInt = (hr1 137 2).toInt := congrArg Int32.toInt (pA_r2.get 137 2 (by decide))
      refine lv_istore_n (lv' := [(3, .int r2), (0, .ref (zB Z + 137)), (1, .int label), (2, .int width)]) hx hb dX12_button_42 rfl hl (by decide) rfl (fun ls hl => ?_)
      refine lv_aload_n hx hb dX12_button_43 rfl (lv_at hl 1 rfl) ?_
      refine lv_iload_n hx hb dX12_button_44 rfl (lv_at hl 0 rfl) ?_
      refine pk_i (pr_V M V (m_X12_behaves l S I r2 (show (hr2 137 27).toInt ≤ 599 by omega)) km_X12_behaves (sm_this S) pC12 lkM_X12_378 rfl hl.1 rfl (Nat.le_of_ble_eq_true rfl) ⟨Nat.le_of_ble_eq_true rfl, Nat.le_of_ble_eq_true rfl⟩ ⟨Nat.le_of_ble_eq_true rfl, Nat.le_of_ble_eq_true rfl⟩ dX12_button_45) V (fun r3 Zr3 hr3 H locs pr3 _ _ V => ?_)
      obtain ⟨rfl, I, pA_r3, fr3_0, fr3_1⟩ := pr3
      have fr3_1 : (hr2 137 27).toInt + (1) ≤ (hr3 137 27).toInt ∧ (hr3 137 27).toInt ≤ (hr2 137 27).toInt + (1) := fr3_1
      have A := A.wk (l3 := [(137, 0), (180, 1000), (172, 1000), (173, 1000), (171, 1000), (174, 1000), (175, 1000), (176, 1000), (177, 1000), (137, 25), (143, 1000), (137, 20), (137, 21), (137, 22), (137, 28), (137, 27), (144, 1000), (137, 19)]) (by decide)
      have A := A.tr pA_r3 (by decide)
      have E9 : mE hr3 := E9.congr (pA_r3.get 137 2 (by decide)) (pA_r3.row 138 (by decide))
      have S9 : mS hr3 := S9.congr (pA_r3.get 137 56 (by decide)) (pA_r3.get 137 70 (by decide)) (pA_r3.get 137 58 (by decide)) (pA_r3.row 162 (by decide)) (pA_r3.row 163 (by decide)) (pA_r3.row 165 (by decide)) (pA_r3.row 166 (by decide))
      have K9 : mK hr3 := K9.congr (pA_r3.row 185 (by decide)) (pA_r3.row 184 (by decide))
      have w_r3_56 : (hr3 137 56).toInt = (hr2 137 56).toInt := congrArg Int32.toInt (pA_r3.get 137 56 (by decide))
      have w_r3_70 : (hr3 137 70).toInt = (hr2 137 70).toInt := congrArg Int32.toInt (pA_r3.get 137 70 (by decide))
      have w_r3_58 : (hr3 137 58).toInt = (hr2 137 58).toInt := congrArg Int32.toInt (pA_r3.get 137 58 (by decide))
      have w_r3_25 : (hr3 137 25).toInt = (hr2 137 25).toInt := congrArg Int32.toInt (pA_r3.get 137 25 (by decide))
      have w_r3_82 : (hr3 137 82).toInt = (hr2 137 82).toInt := congrArg Int32.toInt (pA_r3.get 137 82 (by decide))
      have w_r3_83 : (hr3 137 83).toInt = (hr2 137 83).toInt := congrArg Int32.toInt (pA_r3.get 137 83 (by decide))
      have w_r3_2 : (hr3 137 2).toInt = (hr2 137 2).toInt := congrArg Int32.toInt (pA_r3.get 137 2 (by decide))
      refine lv_istore (lv' := [(4, .int r3), (3, .int r2), (0, .ref (zB Z + 137)), (1, .int label), (2, .int width)]) hx hb dX12_button_48 hl (by decide) rfl (fun ls hl => ?_)
      refine lv_aload_n hx hb dX12_button_50 rfl (lv_at hl 2 rfl) ?_
      refine lv_iload_n hx hb dX12_button_51 rfl (lv_at hl 1 rfl) ?_
      refine pk_v (pr_V M V (m_X12_shape l S I r2 (show (hr3 137 82).toInt ≤ 6999 by omega)) km_X12_shape (sm_this S) pC12 lkM_X12_381 rfl hl.1 rfl (Nat.le_of_ble_eq_true rfl) ⟨Nat.le_of_ble_eq_true rfl, Nat.le_of_ble_eq_true rfl⟩ ⟨Nat.le_of_ble_eq_true rfl, Nat.le_of_ble_eq_true rfl⟩ dX12_button_52) V (fun Zr4 hr4 H locs pr4 _ _ V => ?_)
      obtain ⟨rfl, I, pA_r4, fr4_0⟩ := pr4
      have fr4_0 : (hr3 137 82).toInt + (0) ≤ (hr4 137 82).toInt ∧ (hr4 137 82).toInt ≤ (hr3 137 82).toInt + (1) := fr4_0
      have A := A.wk (l3 := [(137, 0), (180, 1000), (172, 1000), (173, 1000), (171, 1000), (174, 1000), (175, 1000), (176, 1000), (177, 1000), (137, 25), (143, 1000), (137, 20), (137, 21), (137, 22), (137, 28), (137, 27), (144, 1000), (137, 19), (137, 82), (186, 1000)]) (by decide)
      have A := A.tr pA_r4 (by decide)
      have E9 : mE hr4 := E9.congr (pA_r4.get 137 2 (by decide)) (pA_r4.row 138 (by decide))
      have S9 : mS hr4 := S9.congr (pA_r4.get 137 56 (by decide)) (pA_r4.get 137 70 (by decide)) (pA_r4.get 137 58 (by decide)) (pA_r4.row 162 (by decide)) (pA_r4.row 163 (by decide)) (pA_r4.row 165 (by decide)) (pA_r4.row 166 (by decide))
      have K9 : mK hr4 := K9.congr (pA_r4.row 185 (by decide)) (pA_r4.row 184 (by decide))
      have w_r4_56 : (hr4 137 56).toInt = (hr3 137 56).toInt := congrArg Int32.toInt (pA_r4.get 137 56 (by decide))
      have w_r4_70 : (hr4 137 70).toInt = (hr3 137 70).toInt := congrArg Int32.toInt (pA_r4.get 137 70 (by decide))
      have w_r4_58 : (hr4 137 58).toInt = (hr3 137 58).toInt := congrArg Int32.toInt (pA_r4.get 137 58 (by decide))
      have w_r4_25 : (hr4 137 25).toInt = (hr3 137 25).toInt := congrArg Int32.toInt (pA_r4.get 137 25 (by decide))
      have w_r4_27 : (hr4 137 27).toInt = (hr3 137 27).toInt := congrArg Int32.toInt (pA_r4.get 137 27 (by decide))
      have w_r4_83 : (hr4 137 83).toInt = (hr3 137 83).toInt := congrArg Int32.toInt (pA_r4.get 137 83 (by decide))
      have w_r4_2 : (hr4 137 2).toInt = (hr3 137 2).toInt := congrArg Int32.toInt (pA_r4.get 137 2 (by decide))
      refine lv_aload_n hx hb dX12_button_55 rfl (lv_at hl 2 rfl) ?_
      refine lv_iload_n hx hb dX12_button_56 rfl (lv_at hl 3 rfl) ?_
      refine pk_v (pr_V M V (m_X12_digits l S I label (by omega) (show (hr4 137 82).toInt ≤ 6997 by omega)) km_X12_digits (sm_this S) pC12 lkM_X12_384 rfl hl.1 rfl (Nat.le_of_ble_eq_true rfl) ⟨Nat.le_of_ble_eq_true rfl, Nat.le_of_ble_eq_true rfl⟩ ⟨Nat.le_of_ble_eq_true rfl, Nat.le_of_ble_eq_true rfl⟩ dX12_button_57) V (fun Zr5 hr5 H locs pr5 _ _ V => ?_)
      obtain ⟨rfl, I, pA_r5, fr5_0⟩ := pr5
      have fr5_0 : (hr4 137 82).toInt + (0) ≤ (hr5 137 82).toInt ∧ (hr5 137 82).toInt ≤ (hr4 137 82).toInt + (3) := fr5_0
      have A := A.tr pA_r5 (by decide)
      have E9 : mE hr5 := E9.congr (pA_r5.get 137 2 (by decide)) (pA_r5.row 138 (by decide))
      have S9 : mS hr5 := S9.congr (pA_r5.get 137 56 (by decide)) (pA_r5.get 137 70 (by decide)) (pA_r5.get 137 58 (by decide)) (pA_r5.row 162 (by decide)) (pA_r5.row 163 (by decide)) (pA_r5.row 165 (by decide)) (pA_r5.row 166 (by decide))
      have K9 : mK hr5 := K9.congr (pA_r5.row 185 (by decide)) (pA_r5.row 184 (by decide))
      have w_r5_56 : (hr5 137 56).toInt = (hr4 137 56).toInt := congrArg Int32.toInt (pA_r5.get 137 56 (by decide))
      have w_r5_70 : (hr5 137 70).toInt = (hr4 137 70).toInt := congrArg Int32.toInt (pA_r5.get 137 70 (by decide))
      have w_r5_58 : (hr5 137 58).toInt = (hr4 137 58).toInt := congrArg Int32.toInt (pA_r5.get 137 58 (by decide))
      have w_r5_25 : (hr5 137 25).toInt = (hr4 137 25).toInt := congrArg Int32.toInt (pA_r5.get 137 25 (by decide))
      have w_r5_27 : (hr5 137 27).toInt = (hr4 137 27).toInt := congrArg Int32.toInt (pA_r5.get 137 27 (by decide))
      have w_r5_83 : (hr5 137 83).toInt = (hr4 137 83).toInt := congrArg Int32.toInt (pA_r5.get 137 83 (by decide))
      have w_r5_2 : (hr5 137 2).toInt = (hr4 137 2).toInt := congrArg Int32.toInt (pA_r5.get 137 2 (by decide))
      refine lv_iload hx hb dX12_button_60 (lv_at hl 0 rfl) ?_
      exact pe_i M V rfl rfl hr hlk (pn_z (pi_z (by omega))).1 ⟨rfl, I, A.wk (by decide), by omega, (E9.congr rfl rfl), (S9.congr rfl rfl rfl rfl rfl rfl rfl), (K9.congr rfl rfl), (show (h 137 25).toInt + (0) ≤ (hr5 137 25).toInt ∧ (hr5 137 25).toInt ≤ (h 137 25).toInt + (1) by omega), (show (h 137 27).toInt + (0) ≤ (hr5 137 27).toInt ∧ (hr5 137 27).toInt ≤ (h 137 27).toInt + (1) by omega), (show (h 137 82).toInt + (0) ≤ (hr5 137 82).toInt ∧ (hr5 137 82).toInt ≤ (h 137 82).toInt + (4) by omega)⟩ ⟨Nat.le_refl _, Nat.le_refl _⟩ dX12_button_62
    · skip
      have k_0 : (0 : Int32).toInt = 0 := rfl
      have c_29 := pi_ne c_29
      have A := A.wk (l3 := [(137, 0), (137, 18), (137, 19), (137, 20), (137, 22), (137, 21), (137, 23), (137, 40), (137, 48), (137, 56), (137, 58), (137, 70), (137, 71), (153, 1000)]) (by decide)
      have A := A.tr pA_r1 (by decide)
      have E9 : mE hr1 := E9.congr (pA_r1.get 137 2 (by decide)) (pA_r1.row 138 (by decide))
      have S9 : mS hr1 := fr1_2 (S9.congr rfl rfl rfl rfl rfl rfl rfl)
      have K9 : mK hr1 := K9.congr (pA_r1.row 185 (by decide)) (pA_r1.row 184 (by decide))
      have w_r1_25 : (hr1 137 25).toInt = (hJ 137 25).toInt := congrArg Int32.toInt (pA_r1.get 137 25 (by decide))
      have w_r1_27 : (hr1 137 27).toInt = (hJ 137 27).toInt := congrArg Int32.toInt (pA_r1.get 137 27 (by decide))
      have w_r1_82 : (hr1 137 82).toInt = (hJ 137 82).toInt := congrArg Int32.toInt (pA_r1.get 137 82 (by decide))
      have w_r1_83 : (hr1 137 83).toInt = (hJ 137 83).toInt := congrArg Int32.toInt (pA_r1.get 137 83 (by decide))
      have w_r1_2 : (hr1 137 2).toInt = (hJ 137 2).toInt := congrArg Int32.toInt (pA_r1.get 137 2 (by decide))
      refine lv_iconst (v := 0) hx hb dX12_button_32 (by decide) ?_
      exact pe_i M V rfl rfl hr hlk (pn_z (pi_z (by omega))).1 ⟨rfl, I, A.wk (by decide), by omega, (E9.congr rfl rfl), (S9.congr rfl rfl rfl rfl rfl rfl rfl), (K9.congr rfl rfl), (show (h 137 25).toInt + (0) ≤ (hr1 137 25).toInt ∧ (hr1 137 25).toInt ≤ (h 137 25).toInt + (1) by omega), (show (h 137 27).toInt + (0) ≤ (hr1 137 27).toInt ∧ (hr1 137 27).toInt ≤ (h 137 27).toInt + (1) by omega), (show (h 137 82).toInt + (0) ≤ (hr1 137 82).toInt ∧ (hr1 137 82).toInt ≤ (h 137 82).toInt + (4) by omega)⟩ ⟨Nat.le_refl _, Nat.le_refl _⟩ dX12_button_33
  have J_25 : ∀ (hJ : pH) (H : Heap) (locs : List Loc) (ls : Array Slot), pV Z hJ s.heap H locs → Iv Z hJ → agr [] h hJ → lv_has ls 5 [(0, .ref (zB Z + 137)), (1, .int label), (2, .int width)] → ((h 137 56).toInt + (0) ≤ (hJ 137 56).toInt ∧ (hJ 137 56).toInt ≤ (h 137 56).toInt + (0)) → ((h 137 70).toInt + (0) ≤ (hJ 137 70).toInt ∧ (hJ 137 70).toInt ≤ (h 137 70).toInt + (0)) → ((h 137 58).toInt + (0) ≤ (hJ 137 58).toInt ∧ (hJ 137 58).toInt ≤ (h 137 58).toInt + (0)) → ((h 137 25).toInt + (0) ≤ (hJ 137 25).toInt ∧ (hJ 137 25).toInt ≤ (h 137 25).toInt + (0)) → ((h 137 27).toInt + (0) ≤ (hJ 137 27).toInt ∧ (hJ 137 27).toInt ≤ (h 137 27).toInt + (0)) → ((h 137 82).toInt + (0) ≤ (hJ 137 82).toInt ∧ (hJ 137 82).toInt ≤ (h 137 82).toInt + (0)) → ((h 137 83).toInt + (0) ≤ (hJ 137 83).toInt ∧ (hJ 137 83).toInt ≤ (h 137 83).toInt + (0)) → ((h 137 2).toInt + (0) ≤ (hJ 137 2).toInt ∧ (hJ 137 2).toInt ≤ (h 137 2).toInt + (0)) → mE hJ → mS hJ → mK hJ → W p l e (pRm 4 0 0 101) s m ([.ref (zB Z + 137), .int label, .int width] : List Value).toArray below meth c H locs 0 0 (MQ below (pQi Z (fun r Z1 h1 => Z = Z1 ∧ Iv Z h1 ∧ agr [(137, 0), (137, 18), (137, 19), (137, 20), (137, 22), (137, 21), (137, 23), (137, 40), (137, 48), (137, 56), (137, 58), (137, 70), (137, 71), (153, 1000), (180, 1000), (172, 1000), (173, 1000), (171, 1000), (174, 1000), (175, 1000), (176, 1000), (177, 1000), (137, 25), (143, 1000), (137, 28), (137, 27), (144, 1000), (137, 82), (186, 1000)] h h1 ∧ (r.toInt = 0 ∨ r.toInt = 1) ∧ (mE h1) ∧ (mS h1) ∧ (mK h1) ∧ ((h 137 25).toInt + (0) ≤ (h1 137 25).toInt ∧ (h1 137 25).toInt ≤ (h 137 25).toInt + (1)) ∧ ((h 137 27).toInt + (0) ≤ (h1 137 27).toInt ∧ (h1 137 27).toInt ≤ (h 137 27).toInt + (1)) ∧ ((h 137 82).toInt + (0) ≤ (h1 137 82).toInt ∧ (h1 137 82).toInt ≤ (h 137 82).toInt + (4)))) ([.ref (zB Z + 137), .int label, .int width] : List Value).toArray s 0 0 (pA (zB Z))) (F0 m 25 ls [.ref (zB Z + 137)]) := by
    intro hJ H locs ls V I A hl gd_25_56 gd_25_70 gd_25_58 gd_25_25 gd_25_27 gd_25_82 gd_25_83 gd_25_2 E9 S9 K9
    refine lv_iconst (v := 0) hx hb dX12_button_25 (by decide) ?_
    have k_0 : (0 : Int32).toInt = 0 := rfl
    exact J_26 (0 : Int32) _ _ _ _ V I (A.wk (by decide)) (lv_sub hl [0, 1, 2] rfl) (by omega) (show (h 137 56).toInt + (0) ≤ (hJ 137 56).toInt ∧ (hJ 137 56).toInt ≤ (h 137 56).toInt + (0) by omega) (show (h 137 70).toInt + (0) ≤ (hJ 137 70).toInt ∧ (hJ 137 70).toInt ≤ (h 137 70).toInt + (0) by omega) (show (h 137 58).toInt + (0) ≤ (hJ 137 58).toInt ∧ (hJ 137 58).toInt ≤ (h 137 58).toInt + (0) by omega) (show (h 137 25).toInt + (0) ≤ (hJ 137 25).toInt ∧ (hJ 137 25).toInt ≤ (h 137 25).toInt + (0) by omega) (show (h 137 27).toInt + (0) ≤ (hJ 137 27).toInt ∧ (hJ 137 27).toInt ≤ (h 137 27).toInt + (0) by omega) (show (h 137 82).toInt + (0) ≤ (hJ 137 82).toInt ∧ (hJ 137 82).toInt ≤ (h 137 82).toInt + (0) by omega) (show (h 137 83).toInt + (0) ≤ (hJ 137 83).toInt ∧ (hJ 137 83).toInt ≤ (h 137 83).toInt + (0) by omega) (show (h 137 2).toInt + (0) ≤ (hJ 137 2).toInt ∧ (hJ 137 2).toInt ≤ (h 137 2).toInt + (0) by omega) (by omega) (E9.congr rfl rfl) (S9.congr rfl rfl rfl rfl rfl rfl rfl) (K9.congr rfl rfl) 
  refine lv_aload_n hx hb dX12_button_0 rfl (lv_at hl 0 rfl) ?_
  refine lv_aload_n hx hb dX12_button_1 rfl (lv_at hl 0 rfl) ?_
  refine lv_iload_n hx hb dX12_button_2 rfl (lv_at hl 1 rfl) ?_
  refine pk_i (pr_V M V (m_X12_isLabel l S I label) km_X12_isLabel (sm_this S) pC12 lkM_X12_343 rfl hl.1 rfl (Nat.le_of_ble_eq_true rfl) ⟨Nat.le_of_ble_eq_true rfl, Nat.le_of_ble_eq_true rfl⟩ ⟨Nat.le_of_ble_eq_true rfl, Nat.le_of_ble_eq_true rfl⟩ dX12_button_3) V (fun r6 Zr6 hr6 H locs pr6 _ _ V => ?_)
  obtain ⟨rfl, rfl, fr6_0⟩ := pr6
  refine lv_if_eq (tgt := 25) hx hb dX12_button_6 (by decide) (fun c_6 => ?_) (fun c_6 => ?_)
  · skip
    have k_0 : (0 : Int32).toInt = 0 := rfl
    have c_6 := pi_eq.mp c_6
    exact J_25 _ _ _ _ V I (A.wk (by decide)) (lv_sub hl [0, 1, 2] rfl) (show (h 137 56).toInt + (0) ≤ (h 137 56).toInt ∧ (h 137 56).toInt ≤ (h 137 56).toInt + (0) by omega) (show (h 137 70).toInt + (0) ≤ (h 137 70).toInt ∧ (h 137 70).toInt ≤ (h 137 70).toInt + (0) by omega) (show (h 137 58).toInt + (0) ≤ (h 137 58).toInt ∧ (h 137 58).toInt ≤ (h 137 58).toInt + (0) by omega) (show (h 137 25).toInt + (0) ≤ (h 137 25).toInt ∧ (h 137 25).toInt ≤ (h 137 25).toInt + (0) by omega) (show (h 137 27).toInt + (0) ≤ (h 137 27).toInt ∧ (h 137 27).toInt ≤ (h 137 27).toInt + (0) by omega) (show (h 137 82).toInt + (0) ≤ (h 137 82).toInt ∧ (h 137 82).toInt ≤ (h 137 82).toInt + (0) by omega) (show (h 137 83).toInt + (0) ≤ (h 137 83).toInt ∧ (h 137 83).toInt ≤ (h 137 83).toInt + (0) by omega) (show (h 137 2).toInt + (0) ≤ (h 137 2).toInt ∧ (h 137 2).toInt ≤ (h 137 2).toInt + (0) by omega) (E9.congr rfl rfl) (S9.congr rfl rfl rfl rfl rfl rfl rfl) (K9.congr rfl rfl) 
  · skip
    have k_0 : (0 : Int32).toInt = 0 := rfl
    have c_6 := pi_ne c_6
    refine lv_iload_n hx hb dX12_button_9 rfl (lv_at hl 2 rfl) ?_
    refine lv_iconst (v := 1) hx hb dX12_button_10 (by decide) ?_
    refine lv_icmp_lt (tgt := 25) hx hb dX12_button_11 (by decide) (fun c_11 => ?_) (fun c_11 => ?_)
    · skip
      have k_1 : (1 : Int32).toInt = 1 := rfl
      have c_11 := pi_lt.mp c_11
      exact J_25 _ _ _ _ V I (A.wk (by decide)) (lv_sub hl [0, 1, 2] rfl) (show (h 137 56).toInt + (0) ≤ (h 137 56).toInt ∧ (h 137 56).toInt ≤ (h 137 56).toInt + (0) by omega) (show (h 137 70).toInt + (0) ≤ (h 137 70).toInt ∧ (h 137 70).toInt ≤ (h 137 70).toInt + (0) by omega) (show (h 137 58).toInt + (0) ≤ (h 137 58).toInt ∧ (h 137 58).toInt ≤ (h 137 58).toInt + (0) by omega) (show (h 137 25).toInt + (0) ≤ (h 137 25).toInt ∧ (h 137 25).toInt ≤ (h 137 25).toInt + (0) by omega) (show (h 137 27).toInt + (0) ≤ (h 137 27).toInt ∧ (h 137 27).toInt ≤ (h 137 27).toInt + (0) by omega) (show (h 137 82).toInt + (0) ≤ (h 137 82).toInt ∧ (h 137 82).toInt ≤ (h 137 82).toInt + (0) by omega) (show (h 137 83).toInt + (0) ≤ (h 137 83).toInt ∧ (h 137 83).toInt ≤ (h 137 83).toInt + (0) by omega) (show (h 137 2).toInt + (0) ≤ (h 137 2).toInt ∧ (h 137 2).toInt ≤ (h 137 2).toInt + (0) by omega) (E9.congr rfl rfl) (S9.congr rfl rfl rfl rfl rfl rfl rfl) (K9.congr rfl rfl) 
    · skip
      have k_1 : (1 : Int32).toInt = 1 := rfl
      have c_11 := pi_lt' c_11
      refine lv_iload_n hx hb dX12_button_14 rfl (lv_at hl 2 rfl) ?_
      refine lv_sipush (v := 200) hx hb dX12_button_15 (by decide) ?_
      refine lv_icmp_gt (tgt := 25) hx hb dX12_button_18 (by decide) (fun c_18 => ?_) (fun c_18 => ?_)
      · skip
        have k_200 : (200 : Int32).toInt = 200 := rfl
        have c_18 := pi_lt.mp c_18
        exact J_25 _ _ _ _ V I (A.wk (by decide)) (lv_sub hl [0, 1, 2] rfl) (show (h 137 56).toInt + (0) ≤ (h 137 56).toInt ∧ (h 137 56).toInt ≤ (h 137 56).toInt + (0) by omega) (show (h 137 70).toInt + (0) ≤ (h 137 70).toInt ∧ (h 137 70).toInt ≤ (h 137 70).toInt + (0) by omega) (show (h 137 58).toInt + (0) ≤ (h 137 58).toInt ∧ (h 137 58).toInt ≤ (h 137 58).toInt + (0) by omega) (show (h 137 25).toInt + (0) ≤ (h 137 25).toInt ∧ (h 137 25).toInt ≤ (h 137 25).toInt + (0) by omega) (show (h 137 27).toInt + (0) ≤ (h 137 27).toInt ∧ (h 137 27).toInt ≤ (h 137 27).toInt + (0) by omega) (show (h 137 82).toInt + (0) ≤ (h 137 82).toInt ∧ (h 137 82).toInt ≤ (h 137 82).toInt + (0) by omega) (show (h 137 83).toInt + (0) ≤ (h 137 83).toInt ∧ (h 137 83).toInt ≤ (h 137 83).toInt + (0) by omega) (show (h 137 2).toInt + (0) ≤ (h 137 2).toInt ∧ (h 137 2).toInt ≤ (h 137 2).toInt + (0) by omega) (E9.congr rfl rfl) (S9.congr rfl rfl rfl rfl rfl rfl rfl) (K9.congr rfl rfl) 
      · skip
        have k_200 : (200 : Int32).toInt = 200 := rfl
        have c_18 := pi_lt' c_18
        refine lv_iconst (v := 1) hx hb dX12_button_21 (by decide) ?_
        refine lv_goto (tgt := 26) hx hb dX12_button_22 (by decide) ?_
        exact J_26 (1 : Int32) _ _ _ _ V I (A.wk (by decide)) (lv_sub hl [0, 1, 2] rfl) (by omega) (show (h 137 56).toInt + (0) ≤ (h 137 56).toInt ∧ (h 137 56).toInt ≤ (h 137 56).toInt + (0) by omega) (show (h 137 70).toInt + (0) ≤ (h 137 70).toInt ∧ (h 137 70).toInt ≤ (h 137 70).toInt + (0) by omega) (show (h 137 58).toInt + (0) ≤ (h 137 58).toInt ∧ (h 137 58).toInt ≤ (h 137 58).toInt + (0) by omega) (show (h 137 25).toInt + (0) ≤ (h 137 25).toInt ∧ (h 137 25).toInt ≤ (h 137 25).toInt + (0) by omega) (show (h 137 27).toInt + (0) ≤ (h 137 27).toInt ∧ (h 137 27).toInt ≤ (h 137 27).toInt + (0) by omega) (show (h 137 82).toInt + (0) ≤ (h 137 82).toInt ∧ (h 137 82).toInt ≤ (h 137 82).toInt + (0) by omega) (show (h 137 83).toInt + (0) ≤ (h 137 83).toInt ∧ (h 137 83).toInt ≤ (h 137 83).toInt + (0) by omega) (show (h 137 2).toInt + (0) ≤ (h 137 2).toInt ∧ (h 137 2).toInt ≤ (h 137 2).toInt + (0) by omega) (by omega) (E9.congr rfl rfl) (S9.congr rfl rfl rfl rfl rfl rfl rfl) (K9.congr rfl rfl) 
theorem dX12_check_0 : decode cX12_check 0 = .ok (.aload_n 0, 1) := by decide +kernel
theorem dX12_check_1 : decode cX12_check 1 = .ok (.aload_n 0, 1) := by decide +kernel
theorem dX12_check_2 : decode cX12_check 2 = .ok (.iload_n 1, 1) := by decide +kernel
theorem dX12_check_3 : decode cX12_check 3 = .ok (.invokevirtual 343, 3) := by decide +kernel
theorem dX12_check_6 : decode cX12_check 6 = .ok (.invokevirtual 371, 3) := by decide +kernel
theorem dX12_check_9 : decode cX12_check 9 = .ok (.ifCond .eq 5, 3) := by decide +kernel
theorem dX12_check_12 : decode cX12_check 12 = .ok (.iconst 0, 1) := by decide +kernel
theorem dX12_check_13 : decode cX12_check 13 = .ok (.ireturn, 1) := by decide +kernel
theorem dX12_check_14 : decode cX12_check 14 = .ok (.aload_n 0, 1) := by decide +kernel
theorem dX12_check_15 : decode cX12_check 15 = .ok (.iload_n 1, 1) := by decide +kernel
theorem dX12_check_16 : decode cX12_check 16 = .ok (.bipush 12, 2) := by decide +kernel
theorem dX12_check_18 : decode cX12_check 18 = .ok (.bipush 12, 2) := by decide +kernel
theorem dX12_check_20 : decode cX12_check 20 = .ok (.invokevirtual 375, 3) := by decide +kernel
theorem dX12_check_23 : decode cX12_check 23 = .ok (.istore_n 2, 1) := by decide +kernel
theorem dX12_check_24 : decode cX12_check 24 = .ok (.aload_n 0, 1) := by decide +kernel
theorem dX12_check_25 : decode cX12_check 25 = .ok (.iload_n 2, 1) := by decide +kernel
theorem dX12_check_26 : decode cX12_check 26 = .ok (.invokevirtual 378, 3) := by decide +kernel
theorem dX12_check_29 : decode cX12_check 29 = .ok (.ifCond .eq 21, 3) := by decide +kernel
theorem dX12_check_32 : decode cX12_check 32 = .ok (.aload_n 0, 1) := by decide +kernel
theorem dX12_check_33 : decode cX12_check 33 = .ok (.iload_n 2, 1) := by decide +kernel
theorem dX12_check_34 : decode cX12_check 34 = .ok (.aload_n 0, 1) := by decide +kernel
theorem dX12_check_35 : decode cX12_check 35 = .ok (.iload_n 2, 1) := by decide +kernel
theorem dX12_check_36 : decode cX12_check 36 = .ok (.invokevirtual 387, 3) := by decide +kernel
theorem dX12_check_39 : decode cX12_check 39 = .ok (.ifCond .eq 7, 3) := by decide +kernel
theorem dX12_check_42 : decode cX12_check 42 = .ok (.iconst 0, 1) := by decide +kernel
theorem dX12_check_43 : decode cX12_check 43 = .ok (.goto 4, 3) := by decide +kernel
theorem dX12_check_46 : decode cX12_check 46 = .ok (.iconst 1, 1) := by decide +kernel
theorem dX12_check_47 : decode cX12_check 47 = .ok (.invokevirtual 390, 3) := by decide +kernel
theorem dX12_check_50 : decode cX12_check 50 = .ok (.aload_n 0, 1) := by decide +kernel
theorem dX12_check_51 : decode cX12_check 51 = .ok (.iload_n 2, 1) := by decide +kernel
theorem dX12_check_52 : decode cX12_check 52 = .ok (.invokevirtual 381, 3) := by decide +kernel
theorem dX12_check_55 : decode cX12_check 55 = .ok (.aload_n 0, 1) := by decide +kernel
theorem dX12_check_56 : decode cX12_check 56 = .ok (.iload_n 2, 1) := by decide +kernel
theorem dX12_check_57 : decode cX12_check 57 = .ok (.invokevirtual 387, 3) := by decide +kernel
theorem dX12_check_60 : decode cX12_check 60 = .ok (.ireturn, 1) := by decide +kernel
set_option maxHeartbeats 4000000 in
set_option maxRecDepth 100000 in
theorem m_X12_check (l : Launch) {Z : pZ} (S : pSh Z) {h : pH} (I : Iv Z h) (label : Int32) (E9 : mE h) (S9 : mS h) (K9 : mK h) (ht : (h 137 25).toInt ≤ 599) (hb9 : (h 137 27).toInt ≤ 599) (hq : (h 137 82).toInt ≤ 6980) : pMet l yX12_check cX12_check 3 (some .int) 4 0 0 99 Z h [.ref (zB Z + 137), .int label] (pQi Z (fun r Z1 h1 => Z = Z1 ∧ Iv Z h1 ∧ agr [(137, 0), (137, 18), (137, 19), (137, 20), (137, 22), (137, 21), (137, 23), (137, 40), (137, 48), (137, 56), (137, 58), (137, 70), (137, 71), (153, 1000), (180, 1000), (172, 1000), (173, 1000), (171, 1000), (174, 1000), (175, 1000), (176, 1000), (177, 1000), (137, 25), (143, 1000), (137, 28), (137, 27), (144, 1000), (137, 82), (186, 1000), (137, 79), (181, 1000), (182, 1000), (184, 1000), (185, 1000)] h h1 ∧ (mE h1) ∧ (mS h1) ∧ (mK h1) ∧ ((h 137 25).toInt + (0) ≤ (h1 137 25).toInt ∧ (h1 137 25).toInt ≤ (h 137 25).toInt + (1)) ∧ ((h 137 27).toInt + (0) ≤ (h1 137 27).toInt ∧ (h1 137 27).toInt ≤ (h 137 27).toInt + (1)) ∧ ((h 137 82).toInt + (0) ≤ (h1 137 82).toInt ∧ (h1 137 82).toInt ≤ (h 137 82).toInt + (1)))) := by
  refine pOfW (lv := [(0, .ref (zB Z + 137)), (1, .int label)]) (by decide) (Nat.le_of_ble_eq_true rfl) rfl ?_
  intro p e s m below meth c ls M hr hlk hnm V hl
  have hx := M.1.1
  have hb := M.1.2.1
  have A : agr [] h h := agr.rf
  have i_56 : 0 ≤ (h 137 56).toInt ∧ (h 137 56).toInt ≤ 40 := I.get (sm_this S) 56
  have i_70 : 0 ≤ (h 137 70).toInt ∧ (h 137 70).toInt ≤ 40 := I.get (sm_this S) 70
  have i_58 : 0 ≤ (h 137 58).toInt ∧ (h 137 58).toInt ≤ 40 := I.get (sm_this S) 58
  have i_25 : 0 ≤ (h 137 25).toInt ∧ (h 137 25).toInt ≤ 600 := I.get (sm_this S) 25
  have i_27 : 0 ≤ (h 137 27).toInt ∧ (h 137 27).toInt ≤ 600 := I.get (sm_this S) 27
  have i_82 : 0 ≤ (h 137 82).toInt ∧ (h 137 82).toInt ≤ 7000 := I.get (sm_this S) 82
  have i_83 : 0 ≤ (h 137 83).toInt ∧ (h 137 83).toInt ≤ 7000 := I.get (sm_this S) 83
  have i_2 : 0 ≤ (h 137 2).toInt ∧ (h 137 2).toInt ≤ 64 := I.get (sm_this S) 2
  have n9 := S9.num
  have J_50 : ∀ (x50_2 : Int32) (hJ : pH) (H : Heap) (locs : List Loc) (ls : Array Slot), pV Z hJ s.heap H locs → Iv Z hJ → agr [(137, 0), (137, 19), (137, 20), (137, 21), (137, 22), (137, 25), (137, 27), (137, 28), (137, 79), (143, 1000), (144, 1000), (171, 1000), (172, 1000), (173, 1000), (174, 1000), (175, 1000), (176, 1000), (177, 1000), (180, 1000), (181, 1000), (182, 1000), (184, 1000), (185, 1000)] h hJ → lv_has ls 3 [(0, .ref (zB Z + 137)), (1, .int label), (2, .int x50_2)] → ((h 137 56).toInt + (0) ≤ (hJ 137 56).toInt ∧ (hJ 137 56).toInt ≤ (h 137 56).toInt + (0)) → ((h 137 70).toInt + (0) ≤ (hJ 137 70).toInt ∧ (hJ 137 70).toInt ≤ (h 137 70).toInt + (0)) → ((h 137 58).toInt + (0) ≤ (hJ 137 58).toInt ∧ (hJ 137 58).toInt ≤ (h 137 58).toInt + (0)) → ((h 137 25).toInt + (1) ≤ (hJ 137 25).toInt ∧ (hJ 137 25).toInt ≤ (h 137 25).toInt + (1)) → ((h 137 27).toInt + (1) ≤ (hJ 137 27).toInt ∧ (hJ 137 27).toInt ≤ (h 137 27).toInt + (1)) → ((h 137 82).toInt + (0) ≤ (hJ 137 82).toInt ∧ (hJ 137 82).toInt ≤ (h 137 82).toInt + (0)) → ((h 137 83).toInt + (0) ≤ (hJ 137 83).toInt ∧ (hJ 137 83).toInt ≤ (h 137 83).toInt + (0)) → ((h 137 2).toInt + (0) ≤ (hJ 137 2).toInt ∧ (hJ 137 2).toInt ≤ (h 137 2).toInt + (0)) → (0 ≤ label.toInt ∧ label.toInt ≤ 999) → mE hJ → mS hJ → mK hJ → W p l e (pRm 4 0 0 99) s m ([.ref (zB Z + 137), .int label] : List Value).toArray below meth c H locs 0 0 (MQ below (pQi Z (fun r Z1 h1 => Z = Z1 ∧ Iv Z h1 ∧ agr [(137, 0), (137, 18), (137, 19), (137, 20), (137, 22), (137, 21), (137, 23), (137, 40), (137, 48), (137, 56), (137, 58), (137, 70), (137, 71), (153, 1000), (180, 1000), (172, 1000), (173, 1000), (171, 1000), (174, 1000), (175, 1000), (176, 1000), (177, 1000), (137, 25), (143, 1000), (137, 28), (137, 27), (144, 1000), (137, 82), (186, 1000), (137, 79), (181, 1000), (182, 1000), (184, 1000), (185, 1000)] h h1 ∧ (mE h1) ∧ (mS h1) ∧ (mK h1) ∧ ((h 137 25).toInt + (0) ≤ (h1 137 25).toInt ∧ (h1 137 25).toInt ≤ (h 137 25).toInt + (1)) ∧ ((h 137 27).toInt + (0) ≤ (h1 137 27).toInt ∧ (h1 137 27).toInt ≤ (h 137 27).toInt + (1)) ∧ ((h 137 82).toInt + (0) ≤ (h1 137 82).toInt ∧ (h1 137 82).toInt ≤ (h 137 82).toInt + (1)))) ([.ref (zB Z + 137), .int label] : List Value).toArray s 0 0 (pA (zB Z))) (F0 m 50 ls []) := by
    intro x50_2 hJ H locs ls V I A hl gd_50_56 gd_50_70 gd_50_58 gd_50_25 gd_50_27 gd_50_82 gd_50_83 gd_50_2 eL E9 S9 K9
    refine lv_aload_n hx hb dX12_check_50 rfl (lv_at hl 0 rfl) ?_
    refine lv_iload_n hx hb dX12_check_51 rfl (lv_at hl 2 rfl) ?_
    refine pk_v (pr_V M V (m_X12_shape l S I x50_2 (show (hJ 137 82).toInt ≤ 6999 by omega)) km_X12_shape (sm_this S) pC12 lkM_X12_381 rfl hl.1 rfl (Nat.le_of_ble_eq_true rfl) ⟨Nat.le_of_ble_eq_true rfl, Nat.le_of_ble_eq_true rfl⟩ ⟨Nat.le_of_ble_eq_true rfl, Nat.le_of_ble_eq_true rfl⟩ dX12_check_52) V (fun Zr1 hr1 H locs pr1 _ _ V => ?_)
    obtain ⟨rfl, I, pA_r1, fr1_0⟩ := pr1
    have fr1_0 : (hJ 137 82).toInt + (0) ≤ (hr1 137 82).toInt ∧ (hr1 137 82).toInt ≤ (hJ 137 82).toInt + (1) := fr1_0
    have A := A.wk (l3 := [(137, 0), (137, 19), (137, 20), (137, 21), (137, 22), (137, 25), (137, 27), (137, 28), (137, 79), (143, 1000), (144, 1000), (171, 1000), (172, 1000), (173, 1000), (174, 1000), (175, 1000), (176, 1000), (177, 1000), (180, 1000), (181, 1000), (182, 1000), (184, 1000), (185, 1000), (137, 82), (186, 1000)]) (by decide)
    have A := A.tr pA_r1 (by decide)
    have E9 : mE hr1 := E9.congr (pA_r1.get 137 2 (by decide)) (pA_r1.row 138 (by decide))
    have S9 : mS hr1 := S9.congr (pA_r1.get 137 56 (by decide)) (pA_r1.get 137 70 (by decide)) (pA_r1.get 137 58 (by decide)) (pA_r1.row 162 (by decide)) (pA_r1.row 163 (by decide)) (pA_r1.row 165 (by decide)) (pA_r1.row 166 (by decide))
    have K9 : mK hr1 := K9.congr (pA_r1.row 185 (by decide)) (pA_r1.row 184 (by decide))
    have w_r1_56 : (hr1 137 56).toInt = (hJ 137 56).toInt := congrArg Int32.toInt (pA_r1.get 137 56 (by decide))
    have w_r1_70 : (hr1 137 70).toInt = (hJ 137 70).toInt := congrArg Int32.toInt (pA_r1.get 137 70 (by decide))
    have w_r1_58 : (hr1 137 58).toInt = (hJ 137 58).toInt := congrArg Int32.toInt (pA_r1.get 137 58 (by decide))
    have w_r1_25 : (hr1 137 25).toInt = (hJ 137 25).toInt := congrArg Int32.toInt (pA_r1.get 137 25 (by decide))
    have w_r1_27 : (hr1 137 27).toInt = (hJ 137 27).toInt := congrArg Int32.toInt (pA_r1.get 137 27 (by decide))
    have w_r1_83 : (hr1 137 83).toInt = (hJ 137 83).toInt := congrArg Int32.toInt (pA_r1.get 137 83 (by decide))
    have w_r1_2 : (hr1 137 2).toInt = (hJ 137 2).toInt := congrArg Int32.toInt (pA_r1.get 137 2 (by decide))
    refine lv_aload_n hx hb dX12_check_55 rfl (lv_at hl 0 rfl) ?_
    refine lv_iload_n hx hb dX12_check_56 rfl (lv_at hl 2 rfl) ?_
    refine pk_i (pr_V M V (m_X12_numberOf l S I x50_2 ) km_X12_numberOf (sm_this S) pC12 lkM_X12_387 rfl hl.1 rfl (Nat.le_of_ble_eq_true rfl) ⟨Nat.le_of_ble_eq_true rfl, Nat.le_of_ble_eq_true rfl⟩ ⟨Nat.le_of_ble_eq_true rfl, Nat.le_of_ble_eq_true rfl⟩ dX12_check_57) V (fun r2 Zr2 hr2 H locs pr2 _ _ V => ?_)
    obtain ⟨rfl, I, pA_r2⟩ := pr2
    have A := A.tr pA_r2 (by decide)
    have E9 : mE hr2 := E9.congr (pA_r2.get 137 2 (by decide)) (pA_r2.row 138 (by decide))
    have S9 : mS hr2 := S9.congr (pA_r2.get 137 56 (by decide)) (pA_r2.get 137 70 (by decide)) (pA_r2.get 137 58 (by decide)) (pA_r2.row 162 (by decide)) (pA_r2.row 163 (by decide)) (pA_r2.row 165 (by decide)) (pA_r2.row 166 (by decide))
    have K9 : mK hr2 := K9.congr (pA_r2.row 185 (by decide)) (pA_r2.row 184 (by decide))
    have w_r2_56 : (hr2 137 56).toInt = (hr1 137 56).toInt := congrArg Int32.toInt (pA_r2.get 137 56 (by decide))
    have w_r2_70 : (hr2 137 70).toInt = (hr1 137 70).toInt := congrArg Int32.toInt (pA_r2.get 137 70 (by decide))
    have w_r2_58 : (hr2 137 58).toInt = (hr1 137 58).toInt := congrArg Int32.toInt (pA_r2.get 137 58 (by decide))
    have w_r2_25 : (hr2 137 25).toInt = (hr1 137 25).toInt := congrArg Int32.toInt (pA_r2.get 137 25 (by decide))
    have w_r2_27 : (hr2 137 27).toInt = (hr1 137 27).toInt := congrArg Int32.toInt (pA_r2.get 137 27 (by decide))
    have w_r2_82 : (hr2 137 82).toInt = (hr1 137 82).toInt := congrArg Int32.toInt (pA_r2.get 137 82 (by decide))
    have w_r2_83 : (hr2 137 83).toInt = (hr1 137 83).toInt := congrArg Int32.toInt (pA_r2.get 137 83 (by decide))
    have w_r2_2 : (hr2 137 2).toInt = (hr1 137 2).toInt := congrArg Int32.toInt (pA_r2.get 137 2 (by decide))
    exact pe_i M V rfl rfl hr hlk rfl ⟨rfl, I, A.wk (by decide), (E9.congr rfl rfl), (S9.congr rfl rfl rfl rfl rfl rfl rfl), (K9.congr rfl rfl), (show (h 137 25).toInt + (0) ≤ (hr2 137 25).toInt ∧ (hr2 137 25).toInt ≤ (h 137 25).toInt + (1) by omega), (show (h 137 27).toInt + (0) ≤ (hr2 137 27).toInt ∧ (hr2 137 27).toInt ≤ (h 137 27).toInt + (1) by omega), (show (h 137 82).toInt + (0) ≤ (hr2 137 82).toInt ∧ (hr2 137 82).toInt ≤ (h 137 82).toInt + (1) by omega)⟩ ⟨Nat.le_refl _, Nat.le_refl _⟩ dX12_check_60
  have J_47 : ∀ (x47_2 : Int32) (y47_0 : Int32) (y47_1 : Int32) (hJ : pH) (H : Heap) (locs : List Loc) (ls : Array Slot), pV Z hJ s.heap H locs → Iv Z hJ → agr [(137, 0), (137, 19), (137, 20), (137, 21), (137, 22), (137, 25), (137, 27), (137, 28), (143, 1000), (144, 1000), (171, 1000), (172, 1000), (173, 1000), (174, 1000), (175, 1000), (176, 1000), (177, 1000), (180, 1000)] h hJ → lv_has ls 3 [(0, .ref (zB Z + 137)), (1, .int label), (2, .int x47_2)] → (0 ≤ y47_0.toInt ∧ y47_0.toInt ≤ 1) → ((h 137 56).toInt + (0) ≤ (hJ 137 56).toInt ∧ (hJ 137 56).toInt ≤ (h 137 56).toInt + (0)) → ((h 137 70).toInt + (0) ≤ (hJ 137 70).toInt ∧ (hJ 137 70).toInt ≤ (h 137 70).toInt + (0)) → ((h 137 58).toInt + (0) ≤ (hJ 137 58).toInt ∧ (hJ 137 58).toInt ≤ (h 137 58).toInt + (0)) → ((h 137 25).toInt + (1) ≤ (hJ 137 25).toInt ∧ (hJ 137 25).toInt ≤ (h 137 25).toInt + (1)) → ((h 137 27).toInt + (1) ≤ (hJ 137 27).toInt ∧ (hJ 137 27).toInt ≤ (h 137 27).toInt + (1)) → ((h 137 82).toInt + (0) ≤ (hJ 137 82).toInt ∧ (hJ 137 82).toInt ≤ (h 137 82).toInt + (0)) → ((h 137 83).toInt + (0) ≤ (hJ 137 83).toInt ∧ (hJ 137 83).toInt ≤ (h 137 83).toInt + (0)) → ((h 137 2).toInt + (0) ≤ (hJ 137 2).toInt ∧ (hJ 137 2).toInt ≤ (h 137 2).toInt + (0)) → (0 ≤ label.toInt ∧ label.toInt ≤ 999) → mE hJ → mS hJ → mK hJ → W p l e (pRm 4 0 0 99) s m ([.ref (zB Z + 137), .int label] : List Value).toArray below meth c H locs 0 0 (MQ below (pQi Z (fun r Z1 h1 => Z = Z1 ∧ Iv Z h1 ∧ agr [(137, 0), (137, 18), (137, 19), (137, 20), (137, 22), (137, 21), (137, 23), (137, 40), (137, 48), (137, 56), (137, 58), (137, 70), (137, 71), (153, 1000), (180, 1000), (172, 1000), (173, 1000), (171, 1000), (174, 1000), (175, 1000), (176, 1000), (177, 1000), (137, 25), (143, 1000), (137, 28), (137, 27), (144, 1000), (137, 82), (186, 1000), (137, 79), (181, 1000), (182, 1000), (184, 1000), (185, 1000)] h h1 ∧ (mE h1) ∧ (mS h1) ∧ (mK h1) ∧ ((h 137 25).toInt + (0) ≤ (h1 137 25).toInt ∧ (h1 137 25).toInt ≤ (h 137 25).toInt + (1)) ∧ ((h 137 27).toInt + (0) ≤ (h1 137 27).toInt ∧ (h1 137 27).toInt ≤ (h 137 27).toInt + (1)) ∧ ((h 137 82).toInt + (0) ≤ (h1 137 82).toInt ∧ (h1 137 82).toInt ≤ (h 137 82).toInt + (1)))) ([.ref (zB Z + 137), .int label] : List Value).toArray s 0 0 (pA (zB Z))) (F0 m 47 ls [.int y47_0, .int y47_1, .ref (zB Z + 137)]) := by
    intro x47_2 y47_0 y47_1 hJ H locs ls V I A hl gs_47_0 gd_47_56 gd_47_70 gd_47_58 gd_47_25 gd_47_27 gd_47_82 gd_47_83 gd_47_2 eL E9 S9 K9
    refine pk_v (pr_V M V (m_X12_keep l S I y47_1 y47_0 (K9.congr rfl rfl)) km_X12_keep (sm_this S) pC12 lkM_X12_390 rfl hl.1 rfl (Nat.le_of_ble_eq_true rfl) ⟨Nat.le_of_ble_eq_true rfl, Nat.le_of_ble_eq_true rfl⟩ ⟨Nat.le_of_ble_eq_true rfl, Nat.le_of_ble_eq_true rfl⟩ dX12_check_47) V (fun Zr3 hr3 H locs pr3 _ _ V => ?_)
    obtain ⟨rfl, I, pA_r3, fr3_0⟩ := pr3
    have A := A.wk (l3 := [(137, 0), (137, 19), (137, 20), (137, 21), (137, 22), (137, 25), (137, 27), (137, 28), (143, 1000), (144, 1000), (171, 1000), (172, 1000), (173, 1000), (174, 1000), (175, 1000), (176, 1000), (177, 1000), (180, 1000), (137, 79), (181, 1000), (182, 1000), (184, 1000), (185, 1000)]) (by decide)
    have A := A.tr pA_r3 (by decide)
    have E9 : mE hr3 := E9.congr (pA_r3.get 137 2 (by decide)) (pA_r3.row 138 (by decide))
    have S9 : mS hr3 := S9.congr (pA_r3.get 137 56 (by decide)) (pA_r3.get 137 70 (by decide)) (pA_r3.get 137 58 (by decide)) (pA_r3.row 162 (by decide)) (pA_r3.row 163 (by decide)) (pA_r3.row 165 (by decide)) (pA_r3.row 166 (by decide))
    have K9 : mK hr3 := fr3_0
    have w_r3_56 : (hr3 137 56).toInt = (hJ 137 56).toInt := congrArg Int32.toInt (pA_r3.get 137 56 (by decide))
    have w_r3_70 : (hr3 137 70).toInt = (hJ 137 70).toInt := congrArg Int32.toInt (pA_r3.get 137 70 (by decide))
    have w_r3_58 : (hr3 137 58).toInt = (hJ 137 58).toInt := congrArg Int32.toInt (pA_r3.get 137 58 (by decide))
    have w_r3_25 : (hr3 137 25).toInt = (hJ 137 25).toInt := congrArg Int32.toInt (pA_r3.get 137 25 (by decide))
    have w_r3_27 : (hr3 137 27).toInt = (hJ 137 27).toInt := congrArg Int32.toInt (pA_r3.get 137 27 (by decide))
    have w_r3_82 : (hr3 137 82).toInt = (hJ 137 82).toInt := congrArg Int32.toInt (pA_r3.get 137 82 (by decide))
    have w_r3_83 : (hr3 137 83).toInt = (hJ 137 83).toInt := congrArg Int32.toInt (pA_r3.get 137 83 (by decide))
    have w_r3_2 : (hr3 137 2).toInt = (hJ 137 2).toInt := congrArg Int32.toInt (pA_r3.get 137 2 (by decide))
    exact J_50 x47_2 _ _ _ _ V I (A.wk (by decide)) (lv_sub hl [0, 1, 2] rfl) (show (h 137 56).toInt + (0) ≤ (hr3 137 56).toInt ∧ (hr3 137 56).toInt ≤ (h 137 56).toInt + (0) by omega) (show (h 137 70).toInt + (0) ≤ (hr3 137 70).toInt ∧ (hr3 137 70).toInt ≤ (h 137 70).toInt + (0) by omega) (show (h 137 58).toInt + (0) ≤ (hr3 137 58).toInt ∧ (hr3 137 58).toInt ≤ (h 137 58).toInt + (0) by omega) (show (h 137 25).toInt + (1) ≤ (hr3 137 25).toInt ∧ (hr3 137 25).toInt ≤ (h 137 25).toInt + (1) by omega) (show (h 137 27).toInt + (1) ≤ (hr3 137 27).toInt ∧ (hr3 137 27).toInt ≤ (h 137 27).toInt + (1) by omega) (show (h 137 82).toInt + (0) ≤ (hr3 137 82).toInt ∧ (hr3 137 82).toInt ≤ (h 137 82).toInt + (0) by omega) (show (h 137 83).toInt + (0) ≤ (hr3 137 83).toInt ∧ (hr3 137 83).toInt ≤ (h 137 83).toInt + (0) by omega) (show (h 137 2).toInt + (0) ≤ (hr3 137 2).toInt ∧ (hr3 137 2).toInt ≤ (h 137 2).toInt + (0) by omega) (by omega) (E9.congr rfl rfl) (S9.congr rfl rfl rfl rfl rfl rfl rfl) (K9.congr rfl rfl) 
  refine lv_aload_n hx hb dX12_check_0 rfl (lv_at hl 0 rfl) ?_
  refine lv_aload_n hx hb dX12_check_1 rfl (lv_at hl 0 rfl) ?_
  refine lv_iload_n hx hb dX12_check_2 rfl (lv_at hl 1 rfl) ?_
  refine pk_i (pr_V M V (m_X12_isLabel l S I label) km_X12_isLabel (sm_this S) pC12 lkM_X12_343 rfl hl.1 rfl (Nat.le_of_ble_eq_true rfl) ⟨Nat.le_of_ble_eq_true rfl, Nat.le_of_ble_eq_true rfl⟩ ⟨Nat.le_of_ble_eq_true rfl, Nat.le_of_ble_eq_true rfl⟩ dX12_check_3) V (fun r4 Zr4 hr4 H locs pr4 _ _ V => ?_)
  obtain ⟨rfl, rfl, fr4_0⟩ := pr4
  refine pk_i (pr_V M V (m_X12_bars l S I r4 (by omega)) km_X12_bars (sm_this S) pC12 lkM_X12_371 rfl hl.1 rfl (Nat.le_of_ble_eq_true rfl) ⟨Nat.le_of_ble_eq_true rfl, Nat.le_of_ble_eq_true rfl⟩ ⟨Nat.le_of_ble_eq_true rfl, Nat.le_of_ble_eq_true rfl⟩ dX12_check_6) V (fun r5 Zr5 hr5 H locs pr5 _ _ V => ?_)
  obtain ⟨rfl, I, pA_r5, fr5_0, fr5_1, fr5_2⟩ := pr5
  refine lv_if_eq (tgt := 14) hx hb dX12_check_9 (by decide) (fun c_9 => ?_) (fun c_9 => ?_)
  · skip
    have k_0 : (0 : Int32).toInt = 0 := rfl
    have c_9 := pi_eq.mp c_9
    have b_r5 := fr5_1 (by omega)
    have pB_r5 := b_r5.2.2
    have g_r5 := b_r5.1
    have a_r5 : 1 ≤ (h 137 70).toInt := b_r5.2.1
    have A := A.wk (l3 := [(137, 0)]) (by decide)
    have A := A.tr pB_r5 (by decide)
    have E9 : mE hr5 := E9.congr (pB_r5.get 137 2 (by decide)) (pB_r5.row 138 (by decide))
    have S9 : mS hr5 := S9.congr (pB_r5.get 137 56 (by decide)) (pB_r5.get 137 70 (by decide)) (pB_r5.get 137 58 (by decide)) (pB_r5.row 162 (by decide)) (pB_r5.row 163 (by decide)) (pB_r5.row 165 (by decide)) (pB_r5.row 166 (by decide))
    have K9 : mK hr5 := K9.congr (pB_r5.row 185 (by decide)) (pB_r5.row 184 (by decide))
    have w_r5_56 : (hr5 137 56).toInt = (h 137 56).toInt := congrArg Int32.toInt (pB_r5.get 137 56 (by decide))
    have w_r5_70 : (hr5 137 70).toInt = (h 137 70).toInt := congrArg Int32.toInt (pB_r5.get 137 70 (by decide))
    have w_r5_58 : (hr5 137 58).toInt = (h 137 58).toInt := congrArg Int32.toInt (pB_r5.get 137 58 (by decide))
    have w_r5_25 : (hr5 137 25).toInt = (h 137 25).toInt := congrArg Int32.toInt (pB_r5.get 137 25 (by decide))
    have w_r5_27 : (hr5 137 27).toInt = (h 137 27).toInt := congrArg Int32.toInt (pB_r5.get 137 27 (by decide))
    have w_r5_82 : (hr5 137 82).toInt = (h 137 82).toInt := congrArg Int32.toInt (pB_r5.get 137 82 (by decide))
    have w_r5_83 : (hr5 137 83).toInt = (h 137 83).toInt := congrArg Int32.toInt (pB_r5.get 137 83 (by decide))
    have w_r5_2 : (hr5 137 2).toInt = (h 137 2).toInt := congrArg Int32.toInt (pB_r5.get 137 2 (by decide))
    refine lv_aload_n hx hb dX12_check_14 rfl (lv_at hl 0 rfl) ?_
    refine lv_iload_n hx hb dX12_check_15 rfl (lv_at hl 1 rfl) ?_
    refine lv_bipush (v := 12) hx hb dX12_check_16 (by decide) ?_
    refine lv_bipush (v := 12) hx hb dX12_check_18 (by decide) ?_
    refine pk_i (pr_V M V (m_X12_lay l S I label (12 : Int32) (12 : Int32) (show 1 ≤ (hr5 137 58).toInt by omega) (show 1 ≤ (hr5 137 70).toInt by omega) (show (hr5 137 25).toInt ≤ 599 by omega)) km_X12_lay (sm_this S) pC12 lkM_X12_375 rfl hl.1 rfl (Nat.le_of_ble_eq_true rfl) ⟨Nat.le_of_ble_eq_true rfl, Nat.le_of_ble_eq_true rfl⟩ ⟨Nat.le_of_ble_eq_true rfl, Nat.le_of_ble_eq_true rfl⟩ dX12_check_20) V (fun r6 Zr6 hr6 H locs pr6 _ _ V => ?_)
    obtain ⟨rfl, I, pA_r6, fr6_0⟩ := pr6
    have fr6_0 : (hr5 137 25).toInt + (1) ≤ (hr6 137 25).toInt ∧ (hr6 137 25).toInt ≤ (hr5 137 25).toInt + (1) := fr6_0
    have A := A.wk (l3 := [(137, 0), (180, 1000), (172, 1000), (173, 1000), (171, 1000), (174, 1000), (175, 1000), (176, 1000), (177, 1000), (137, 25), (143, 1000)]) (by decide)
    have A := A.tr pA_r6 (by decide)
    have E9 : mE hr6 := E9.congr (pA_r6.get 137 2 (by decide)) (pA_r6.row 138 (by decide))
    have S9 : mS hr6 := S9.congr (pA_r6.get 137 56 (by decide)) (pA_r6.get 137 70 (by decide)) (pA_r6.get 137 58 (by decide)) (pA_r6.row 162 (by decide)) (pA_r6.row 163 (by decide)) (pA_r6.row 165 (by decide)) (pA_r6.row 166 (by decide))
    have K9 : mK hr6 := K9.congr (pA_r6.row 185 (by decide)) (pA_r6.row 184 (by decide))
    have w_r6_56 : (hr6 137 56).toInt = (hr5 137 56).toInt := congrArg Int32.toInt (pA_r6.get 137 56 (by decide))
    have w_r6_70 : (hr6 137 70).toInt = (hr5 137 70).toInt := congrArg Int32.toInt (pA_r6.get 137 70 (by decide))
    have w_r6_58 : (hr6 137 58).toInt = (hr5 137 58).toInt := congrArg Int32.toInt (pA_r6.get 137 58 (by decide))
    have w_r6_27 : (hr6 137 27).toInt = (hr5 137 27).toInt := congrArg Int32.toInt (pA_r6.get 137 27 (by decide))
    have w_r6_82 : (hr6 137 82).toInt = (hr5 137 82).toInt := congrArg Int32.toInt (pA_r6.get 137 82 (by decide))
    have w_r6_83 : (hr6 137 83).toInt = (hr5 137 83).toInt := congrArg Int32.toInt (pA_r6.get 137 83 (by decide))
    have w_r6_2 : (hr6 137 2).toInt = (hr5 137 2).toInt := congrArg Int32.toInt (pA_r6.get 137 2 (by decide))
    refine lv_istore_n (lv' := [(2, .int r6), (0, .ref (zB Z + 137)), (1, .int label)]) hx hb dX12_check_23 rfl hl (by decide) rfl (fun ls hl => ?_)
    refine lv_aload_n hx hb dX12_check_24 rfl (lv_at hl 1 rfl) ?_
    refine lv_iload_n hx hb dX12_check_25 rfl (lv_at hl 0 rfl) ?_
    refine pk_i (pr_V M V (m_X12_behaves l S I r6 (show (hr6 137 27).toInt ≤ 599 by omega)) km_X12_behaves (sm_this S) pC12 lkM_X12_378 rfl hl.1 rfl (Nat.le_of_ble_eq_true rfl) ⟨Nat.le_of_ble_eq_true rfl, Nat.le_of_ble_eq_true rfl⟩ ⟨Nat.le_of_ble_eq_true rfl, Nat.le_of_ble_eq_true rfl⟩ dX12_check_26) V (fun r7 Zr7 hr7 H locs pr7 _ _ V => ?_)
    obtain ⟨rfl, I, pA_r7, fr7_0, fr7_1⟩ := pr7
    have fr7_1 : (hr6 137 27).toInt + (1) ≤ (hr7 137 27).toInt ∧ (hr7 137 27).toInt ≤ (hr6 137 27).toInt + (1) := fr7_1
    have A := A.wk (l3 := [(137, 0), (180, 1000), (172, 1000), (173, 1000), (171, 1000), (174, 1000), (175, 1000), (176, 1000), (177, 1000), (137, 25), (143, 1000), (137, 20), (137, 21), (137, 22), (137, 28), (137, 27), (144, 1000), (137, 19)]) (by decide)
    have A := A.tr pA_r7 (by decide)
    have E9 : mE hr7 := E9.congr (pA_r7.get 137 2 (by decide)) (pA_r7.row 138 (by decide))
    have S9 : mS hr7 := S9.congr (pA_r7.get 137 56 (by decide)) (pA_r7.get 137 70 (by decide)) (pA_r7.get 137 58 (by decide)) (pA_r7.row 162 (by decide)) (pA_r7.row 163 (by decide)) (pA_r7.row 165 (by decide)) (pA_r7.row 166 (by decide))
    have K9 : mK hr7 := K9.congr (pA_r7.row 185 (by decide)) (pA_r7.row 184 (by decide))
    have w_r7_56 : (hr7 137 56).toInt = (hr6 137 56).toInt := congrArg Int32.toInt (pA_r7.get 137 56 (by decide))
    have w_r7_70 : (hr7 137 70).toInt = (hr6 137 70).toInt := congrArg Int32.toInt (pA_r7.get 137 70 (by decide))
    have w_r7_58 : (hr7 137 58).toInt = (hr6 137 58).toInt := congrArg Int32.toInt (pA_r7.get 137 58 (by decide))
    have w_r7_25 : (hr7 137 25).toInt = (hr6 137 25).toInt := congrArg Int32.toInt (pA_r7.get 137 25 (by decide))
    have w_r7_82 : (hr7 137 82).toInt = (hr6 137 82).toInt := congrArg Int32.toInt (pA_r7.get 137 82 (by decide))
    have w_r7_83 : (hr7 137 83).toInt = (hr6 137 83).toInt := congrArg Int32.toInt (pA_r7.get 137 83 (by decide))
    have w_r7_2 : (hr7 137 2).toInt = (hr6 137 2).toInt := congrArg Int32.toInt (pA_r7.get 137 2 (by decide))
    refine lv_if_eq (tgt := 50) hx hb dX12_check_29 (by decide) (fun c_29 => ?_) (fun c_29 => ?_)
    · skip
      have c_29 := pi_eq.mp c_29
      exact J_50 r6 _ _ _ _ V I (A.wk (by decide)) (lv_sub hl [1, 2, 0] rfl) (show (h 137 56).toInt + (0) ≤ (hr7 137 56).toInt ∧ (hr7 137 56).toInt ≤ (h 137 56).toInt + (0) by omega) (show (h 137 70).toInt + (0) ≤ (hr7 137 70).toInt ∧ (hr7 137 70).toInt ≤ (h 137 70).toInt + (0) by omega) (show (h 137 58).toInt + (0) ≤ (hr7 137 58).toInt ∧ (hr7 137 58).toInt ≤ (h 137 58).toInt + (0) by omega) (show (h 137 25).toInt + (1) ≤ (hr7 137 25).toInt ∧ (hr7 137 25).toInt ≤ (h 137 25).toInt + (1) by omega) (show (h 137 27).toInt + (1) ≤ (hr7 137 27).toInt ∧ (hr7 137 27).toInt ≤ (h 137 27).toInt + (1) by omega) (show (h 137 82).toInt + (0) ≤ (hr7 137 82).toInt ∧ (hr7 137 82).toInt ≤ (h 137 82).toInt + (0) by omega) (show (h 137 83).toInt + (0) ≤ (hr7 137 83).toInt ∧ (hr7 137 83).toInt ≤ (h 137 83).toInt + (0) by omega) (show (h 137 2).toInt + (0) ≤ (hr7 137 2).toInt ∧ (hr7 137 2).toInt ≤ (h 137 2).toInt + (0) by omega) (by omega) (E9.congr rfl rfl) (S9.congr rfl rfl rfl rfl rfl rfl rfl) (K9.congr rfl rfl) 
    · skip
      have c_29 := pi_ne c_29
      refine lv_aload_n hx hb dX12_check_32 rfl (lv_at hl 1 rfl) ?_
      refine lv_iload_n hx hb dX12_check_33 rfl (lv_at hl 0 rfl) ?_
      refine lv_aload_n hx hb dX12_check_34 rfl (lv_at hl 1 rfl) ?_
      refine lv_iload_n hx hb dX12_check_35 rfl (lv_at hl 0 rfl) ?_
      refine pk_i (pr_V M V (m_X12_numberOf l S I r6 ) km_X12_numberOf (sm_this S) pC12 lkM_X12_387 rfl hl.1 rfl (Nat.le_of_ble_eq_true rfl) ⟨Nat.le_of_ble_eq_true rfl, Nat.le_of_ble_eq_true rfl⟩ ⟨Nat.le_of_ble_eq_true rfl, Nat.le_of_ble_eq_true rfl⟩ dX12_check_36) V (fun r8 Zr8 hr8 H locs pr8 _ _ V => ?_)
      obtain ⟨rfl, I, pA_r8⟩ := pr8
      have A := A.tr pA_r8 (by decide)
      have E9 : mE hr8 := E9.congr (pA_r8.get 137 2 (by decide)) (pA_r8.row 138 (by decide))
      have S9 : mS hr8 := S9.congr (pA_r8.get 137 56 (by decide)) (pA_r8.get 137 70 (by decide)) (pA_r8.get 137 58 (by decide)) (pA_r8.row 162 (by decide)) (pA_r8.row 163 (by decide)) (pA_r8.row 165 (by decide)) (pA_r8.row 166 (by decide))
      have K9 : mK hr8 := K9.congr (pA_r8.row 185 (by decide)) (pA_r8.row 184 (by decide))
      have w_r8_56 : (hr8 137 56).toInt = (hr7 137 56).toInt := congrArg Int32.toInt (pA_r8.get 137 56 (by decide))
      have w_r8_70 : (hr8 137 70).toInt = (hr7 137 70).toInt := congrArg Int32.toInt (pA_r8.get 137 70 (by decide))
      have w_r8_58 : (hr8 137 58).toInt = (hr7 137 58).toInt := congrArg Int32.toInt (pA_r8.get 137 58 (by decide))
      have w_r8_25 : (hr8 137 25).toInt = (hr7 137 25).toInt := congrArg Int32.toInt (pA_r8.get 137 25 (by decide))
      have w_r8_27 : (hr8 137 27).toInt = (hr7 137 27).toInt := congrArg Int32.toInt (pA_r8.get 137 27 (by decide))
      have w_r8_82 : (hr8 137 82).toInt = (hr7 137 82).toInt := congrArg Int32.toInt (pA_r8.get 137 82 (by decide))
      have w_r8_83 : (hr8 137 83).toInt = (hr7 137 83).toInt := congrArg Int32.toInt (pA_r8.get 137 83 (by decide))
      have w_r8_2 : (hr8 137 2).toInt = (hr7 137 2).toInt := congrArg Int32.toInt (pA_r8.get 137 2 (by decide))
      refine lv_if_eq (tgt := 46) hx hb dX12_check_39 (by decide) (fun c_39 => ?_) (fun c_39 => ?_)
      · skip
        have c_39 := pi_eq.mp c_39
        refine lv_iconst (v := 1) hx hb dX12_check_46 (by decide) ?_
        have k_1 : (1 : Int32).toInt = 1 := rfl
        exact J_47 r6 (1 : Int32) r6 _ _ _ _ V I (A.wk (by decide)) (lv_sub hl [1, 2, 0] rfl) (by omega) (show (h 137 56).toInt + (0) ≤ (hr8 137 56).toInt ∧ (hr8 137 56).toInt ≤ (h 137 56).toInt + (0) by omega) (show (h 137 70).toInt + (0) ≤ (hr8 137 70).toInt ∧ (hr8 137 70).toInt ≤ (h 137 70).toInt + (0) by omega) (show (h 137 58).toInt + (0) ≤ (hr8 137 58).toInt ∧ (hr8 137 58).toInt ≤ (h 137 58).toInt + (0) by omega) (show (h 137 25).toInt + (1) ≤ (hr8 137 25).toInt ∧ (hr8 137 25).toInt ≤ (h 137 25).toInt + (1) by omega) (show (h 137 27).toInt + (1) ≤ (hr8 137 27).toInt ∧ (hr8 137 27).toInt ≤ (h 137 27).toInt + (1) by omega) (show (h 137 82).toInt + (0) ≤ (hr8 137 82).toInt ∧ (hr8 137 82).toInt ≤ (h 137 82).toInt + (0) by omega) (show (h 137 83).toInt + (0) ≤ (hr8 137 83).toInt ∧ (hr8 137 83).toInt ≤ (h 137 83).toInt + (0) by omega) (show (h 137 2).toInt + (0) ≤ (hr8 137 2).toInt ∧ (hr8 137 2).toInt ≤ (h 137 2).toInt + (0) by omega) (by omega) (E9.congr rfl rfl) (S9.congr rfl rfl rfl rfl rfl rfl rfl) (K9.congr rfl rfl) 
      · skip
        have c_39 := pi_ne c_39
        refine lv_iconst (v := 0) hx hb dX12_check_42 (by decide) ?_
        refine lv_goto (tgt := 47) hx hb dX12_check_43 (by decide) ?_
        exact J_47 r6 (0 : Int32) r6 _ _ _ _ V I (A.wk (by decide)) (lv_sub hl [1, 2, 0] rfl) (by omega) (show (h 137 56).toInt + (0) ≤ (hr8 137 56).toInt ∧ (hr8 137 56).toInt ≤ (h 137 56).toInt + (0) by omega) (show (h 137 70).toInt + (0) ≤ (hr8 137 70).toInt ∧ (hr8 137 70).toInt ≤ (h 137 70).toInt + (0) by omega) (show (h 137 58).toInt + (0) ≤ (hr8 137 58).toInt ∧ (hr8 137 58).toInt ≤ (h 137 58).toInt + (0) by omega) (show (h 137 25).toInt + (1) ≤ (hr8 137 25).toInt ∧ (hr8 137 25).toInt ≤ (h 137 25).toInt + (1) by omega) (show (h 137 27).toInt + (1) ≤ (hr8 137 27).toInt ∧ (hr8 137 27).toInt ≤ (h 137 27).toInt + (1) by omega) (show (h 137 82).toInt + (0) ≤ (hr8 137 82).toInt ∧ (hr8 137 82).toInt ≤ (h 137 82).toInt + (0) by omega) (show (h 137 83).toInt + (0) ≤ (hr8 137 83).toInt ∧ (hr8 137 83).toInt ≤ (h 137 83).toInt + (0) by omega) (show (h 137 2).toInt + (0) ≤ (hr8 137 2).toInt ∧ (hr8 137 2).toInt ≤ (h 137 2).toInt + (0) by omega) (by omega) (E9.congr rfl rfl) (S9.congr rfl rfl rfl rfl rfl rfl rfl) (K9.congr rfl rfl) 
  · skip
    have k_0 : (0 : Int32).toInt = 0 := rfl
    have c_9 := pi_ne c_9
    have A := A.wk (l3 := [(137, 0), (137, 18), (137, 19), (137, 20), (137, 22), (137, 21), (137, 23), (137, 40), (137, 48), (137, 56), (137, 58), (137, 70), (137, 71), (153, 1000)]) (by decide)
    have A := A.tr pA_r5 (by decide)
    have E9 : mE hr5 := E9.congr (pA_r5.get 137 2 (by decide)) (pA_r5.row 138 (by decide))
    have S9 : mS hr5 := fr5_2 (S9.congr rfl rfl rfl rfl rfl rfl rfl)
    have K9 : mK hr5 := K9.congr (pA_r5.row 185 (by decide)) (pA_r5.row 184 (by decide))
    have w_r5_25 : (hr5 137 25).toInt = (h 137 25).toInt := congrArg Int32.toInt (pA_r5.get 137 25 (by decide))
    have w_r5_27 : (hr5 137 27).toInt = (h 137 27).toInt := congrArg Int32.toInt (pA_r5.get 137 27 (by decide))
    have w_r5_82 : (hr5 137 82).toInt = (h 137 82).toInt := congrArg Int32.toInt (pA_r5.get 137 82 (by decide))
    have w_r5_83 : (hr5 137 83).toInt = (h 137 83).toInt := congrArg Int32.toInt (pA_r5.get 137 83 (by decide))
    have w_r5_2 : (hr5 137 2).toInt = (h 137 2).toInt := congrArg Int32.toInt (pA_r5.get 137 2 (by decide))
    refine lv_iconst (v := 0) hx hb dX12_check_12 (by decide) ?_
    exact pe_i M V rfl rfl hr hlk rfl ⟨rfl, I, A.wk (by decide), (E9.congr rfl rfl), (S9.congr rfl rfl rfl rfl rfl rfl rfl), (K9.congr rfl rfl), (show (h 137 25).toInt + (0) ≤ (hr5 137 25).toInt ∧ (hr5 137 25).toInt ≤ (h 137 25).toInt + (1) by omega), (show (h 137 27).toInt + (0) ≤ (hr5 137 27).toInt ∧ (hr5 137 27).toInt ≤ (h 137 27).toInt + (1) by omega), (show (h 137 82).toInt + (0) ≤ (hr5 137 82).toInt ∧ (hr5 137 82).toInt ≤ (h 137 82).toInt + (1) by omega)⟩ ⟨Nat.le_refl _, Nat.le_refl _⟩ dX12_check_13
theorem dX12_slider_0 : decode cX12_slider 0 = .ok (.aload_n 0, 1) := by decide +kernel
theorem dX12_slider_1 : decode cX12_slider 1 = .ok (.aload_n 0, 1) := by decide +kernel
theorem dX12_slider_2 : decode cX12_slider 2 = .ok (.iload_n 1, 1) := by decide +kernel
theorem dX12_slider_3 : decode cX12_slider 3 = .ok (.invokevirtual 343, 3) := by decide +kernel
theorem dX12_slider_6 : decode cX12_slider 6 = .ok (.ifCond .eq 40, 3) := by decide +kernel
theorem dX12_slider_9 : decode cX12_slider 9 = .ok (.iload_n 2, 1) := by decide +kernel
theorem dX12_slider_10 : decode cX12_slider 10 = .ok (.iconst 2, 1) := by decide +kernel
theorem dX12_slider_11 : decode cX12_slider 11 = .ok (.if_icmp .lt 35, 3) := by decide +kernel
theorem dX12_slider_14 : decode cX12_slider 14 = .ok (.iload_n 2, 1) := by decide +kernel
theorem dX12_slider_15 : decode cX12_slider 15 = .ok (.sipush 200, 3) := by decide +kernel
theorem dX12_slider_18 : decode cX12_slider 18 = .ok (.if_icmp .gt 28, 3) := by decide +kernel
theorem dX12_slider_21 : decode cX12_slider 21 = .ok (.iload_n 3, 1) := by decide +kernel
theorem dX12_slider_22 : decode cX12_slider 22 = .ok (.iload 4, 2) := by decide +kernel
theorem dX12_slider_24 : decode cX12_slider 24 = .ok (.if_icmp .ge 22, 3) := by decide +kernel
theorem dX12_slider_27 : decode cX12_slider 27 = .ok (.iload_n 3, 1) := by decide +kernel
theorem dX12_slider_28 : decode cX12_slider 28 = .ok (.sipush (-1000), 3) := by decide +kernel
theorem dX12_slider_31 : decode cX12_slider 31 = .ok (.if_icmp .lt 15, 3) := by decide +kernel
theorem dX12_slider_34 : decode cX12_slider 34 = .ok (.iload 4, 2) := by decide +kernel
theorem dX12_slider_36 : decode cX12_slider 36 = .ok (.sipush 1000, 3) := by decide +kernel
theorem dX12_slider_39 : decode cX12_slider 39 = .ok (.if_icmp .gt 7, 3) := by decide +kernel
theorem dX12_slider_42 : decode cX12_slider 42 = .ok (.iconst 1, 1) := by decide +kernel
theorem dX12_slider_43 : decode cX12_slider 43 = .ok (.goto 4, 3) := by decide +kernel
theorem dX12_slider_46 : decode cX12_slider 46 = .ok (.iconst 0, 1) := by decide +kernel
theorem dX12_slider_47 : decode cX12_slider 47 = .ok (.invokevirtual 371, 3) := by decide +kernel
theorem dX12_slider_50 : decode cX12_slider 50 = .ok (.ifCond .eq 5, 3) := by decide +kernel
theorem dX12_slider_53 : decode cX12_slider 53 = .ok (.iconst 0, 1) := by decide +kernel
theorem dX12_slider_54 : decode cX12_slider 54 = .ok (.ireturn, 1) := by decide +kernel
theorem dX12_slider_55 : decode cX12_slider 55 = .ok (.aload_n 0, 1) := by decide +kernel
theorem dX12_slider_56 : decode cX12_slider 56 = .ok (.iload_n 1, 1) := by decide +kernel
theorem dX12_slider_57 : decode cX12_slider 57 = .ok (.iload_n 2, 1) := by decide +kernel
theorem dX12_slider_58 : decode cX12_slider 58 = .ok (.bipush 12, 2) := by decide +kernel
theorem dX12_slider_60 : decode cX12_slider 60 = .ok (.invokevirtual 375, 3) := by decide +kernel
theorem dX12_slider_63 : decode cX12_slider 63 = .ok (.istore 5, 2) := by decide +kernel
theorem dX12_slider_65 : decode cX12_slider 65 = .ok (.aload_n 0, 1) := by decide +kernel
theorem dX12_slider_66 : decode cX12_slider 66 = .ok (.iload 5, 2) := by decide +kernel
theorem dX12_slider_68 : decode cX12_slider 68 = .ok (.invokevirtual 378, 3) := by decide +kernel
theorem dX12_slider_71 : decode cX12_slider 71 = .ok (.pop, 1) := by decide +kernel
theorem dX12_slider_72 : decode cX12_slider 72 = .ok (.aload_n 0, 1) := by decide +kernel
theorem dX12_slider_73 : decode cX12_slider 73 = .ok (.iload 5, 2) := by decide +kernel
theorem dX12_slider_75 : decode cX12_slider 75 = .ok (.invokevirtual 387, 3) := by decide +kernel
theorem dX12_slider_78 : decode cX12_slider 78 = .ok (.iload_n 3, 1) := by decide +kernel
theorem dX12_slider_79 : decode cX12_slider 79 = .ok (.iload 4, 2) := by decide +kernel
theorem dX12_slider_81 : decode cX12_slider 81 = .ok (.invokestatic 327, 3) := by decide +kernel
theorem dX12_slider_84 : decode cX12_slider 84 = .ok (.istore 6, 2) := by decide +kernel
theorem dX12_slider_86 : decode cX12_slider 86 = .ok (.aload_n 0, 1) := by decide +kernel
theorem dX12_slider_87 : decode cX12_slider 87 = .ok (.getfield 255, 3) := by decide +kernel
theorem dX12_slider_90 : decode cX12_slider 90 = .ok (.iload 5, 2) := by decide +kernel
theorem dX12_slider_92 : decode cX12_slider 92 = .ok (.if_icmp .ne 40, 3) := by decide +kernel
theorem dX12_slider_95 : decode cX12_slider 95 = .ok (.aload_n 0, 1) := by decide +kernel
theorem dX12_slider_96 : decode cX12_slider 96 = .ok (.getfield 198, 3) := by decide +kernel
theorem dX12_slider_99 : decode cX12_slider 99 = .ok (.ifCond .eq 33, 3) := by decide +kernel
theorem dX12_slider_102 : decode cX12_slider 102 = .ok (.iload_n 3, 1) := by decide +kernel
theorem dX12_slider_103 : decode cX12_slider 103 = .ok (.aload_n 0, 1) := by decide +kernel
theorem dX12_slider_104 : decode cX12_slider 104 = .ok (.getfield 192, 3) := by decide +kernel
theorem dX12_slider_107 : decode cX12_slider 107 = .ok (.aload_n 0, 1) := by decide +kernel
theorem dX12_slider_108 : decode cX12_slider 108 = .ok (.getfield 150, 3) := by decide +kernel
theorem dX12_slider_111 : decode cX12_slider 111 = .ok (.iconst 0, 1) := by decide +kernel
theorem dX12_slider_112 : decode cX12_slider 112 = .ok (.iaload, 1) := by decide +kernel
theorem dX12_slider_113 : decode cX12_slider 113 = .ok (.isub, 1) := by decide +kernel
theorem dX12_slider_114 : decode cX12_slider 114 = .ok (.iload 4, 2) := by decide +kernel
theorem dX12_slider_116 : decode cX12_slider 116 = .ok (.iload_n 3, 1) := by decide +kernel
theorem dX12_slider_117 : decode cX12_slider 117 = .ok (.isub, 1) := by decide +kernel
theorem dX12_slider_118 : decode cX12_slider 118 = .ok (.imul, 1) := by decide +kernel
theorem dX12_slider_119 : decode cX12_slider 119 = .ok (.iload_n 2, 1) := by decide +kernel
theorem dX12_slider_120 : decode cX12_slider 120 = .ok (.iconst 1, 1) := by decide +kernel
theorem dX12_slider_121 : decode cX12_slider 121 = .ok (.isub, 1) := by decide +kernel
theorem dX12_slider_122 : decode cX12_slider 122 = .ok (.idiv, 1) := by decide +kernel
theorem dX12_slider_123 : decode cX12_slider 123 = .ok (.iadd, 1) := by decide +kernel
theorem dX12_slider_124 : decode cX12_slider 124 = .ok (.iload_n 3, 1) := by decide +kernel
theorem dX12_slider_125 : decode cX12_slider 125 = .ok (.iload 4, 2) := by decide +kernel
theorem dX12_slider_127 : decode cX12_slider 127 = .ok (.invokestatic 327, 3) := by decide +kernel
theorem dX12_slider_130 : decode cX12_slider 130 = .ok (.istore 6, 2) := by decide +kernel
theorem dX12_slider_132 : decode cX12_slider 132 = .ok (.aload_n 0, 1) := by decide +kernel
theorem dX12_slider_133 : decode cX12_slider 133 = .ok (.getfield 294, 3) := by decide +kernel
theorem dX12_slider_136 : decode cX12_slider 136 = .ok (.iload 5, 2) := by decide +kernel
theorem dX12_slider_138 : decode cX12_slider 138 = .ok (.if_icmp .ne 21, 3) := by decide +kernel
theorem dX12_slider_141 : decode cX12_slider 141 = .ok (.aload_n 0, 1) := by decide +kernel
theorem dX12_slider_142 : decode cX12_slider 142 = .ok (.getfield 17, 3) := by decide +kernel
theorem dX12_slider_145 : decode cX12_slider 145 = .ok (.iconst 2, 1) := by decide +kernel
theorem dX12_slider_146 : decode cX12_slider 146 = .ok (.baload, 1) := by decide +kernel
theorem dX12_slider_147 : decode cX12_slider 147 = .ok (.ifCond .eq 12, 3) := by decide +kernel
theorem dX12_slider_150 : decode cX12_slider 150 = .ok (.iload 6, 2) := by decide +kernel
theorem dX12_slider_152 : decode cX12_slider 152 = .ok (.iload_n 3, 1) := by decide +kernel
theorem dX12_slider_153 : decode cX12_slider 153 = .ok (.if_icmp .le 6, 3) := by decide +kernel
theorem dX12_slider_156 : decode cX12_slider 156 = .ok (.iinc 6 (-1), 3) := by decide +kernel
theorem dX12_slider_159 : decode cX12_slider 159 = .ok (.aload_n 0, 1) := by decide +kernel
theorem dX12_slider_160 : decode cX12_slider 160 = .ok (.getfield 294, 3) := by decide +kernel
theorem dX12_slider_163 : decode cX12_slider 163 = .ok (.iload 5, 2) := by decide +kernel
theorem dX12_slider_165 : decode cX12_slider 165 = .ok (.if_icmp .ne 22, 3) := by decide +kernel
theorem dX12_slider_168 : decode cX12_slider 168 = .ok (.aload_n 0, 1) := by decide +kernel
theorem dX12_slider_169 : decode cX12_slider 169 = .ok (.getfield 17, 3) := by decide +kernel
theorem dX12_slider_172 : decode cX12_slider 172 = .ok (.iconst 3, 1) := by decide +kernel
theorem dX12_slider_173 : decode cX12_slider 173 = .ok (.baload, 1) := by decide +kernel
theorem dX12_slider_174 : decode cX12_slider 174 = .ok (.ifCond .eq 13, 3) := by decide +kernel
theorem dX12_slider_177 : decode cX12_slider 177 = .ok (.iload 6, 2) := by decide +kernel
theorem dX12_slider_179 : decode cX12_slider 179 = .ok (.iload 4, 2) := by decide +kernel
theorem dX12_slider_181 : decode cX12_slider 181 = .ok (.if_icmp .ge 6, 3) := by decide +kernel
theorem dX12_slider_184 : decode cX12_slider 184 = .ok (.iinc 6 1, 3) := by decide +kernel
theorem dX12_slider_187 : decode cX12_slider 187 = .ok (.aload_n 0, 1) := by decide +kernel
theorem dX12_slider_188 : decode cX12_slider 188 = .ok (.iload 5, 2) := by decide +kernel
theorem dX12_slider_190 : decode cX12_slider 190 = .ok (.iload 6, 2) := by decide +kernel
theorem dX12_slider_192 : decode cX12_slider 192 = .ok (.invokevirtual 390, 3) := by decide +kernel
theorem dX12_slider_195 : decode cX12_slider 195 = .ok (.aload_n 0, 1) := by decide +kernel
theorem dX12_slider_196 : decode cX12_slider 196 = .ok (.iload 5, 2) := by decide +kernel
theorem dX12_slider_198 : decode cX12_slider 198 = .ok (.invokevirtual 381, 3) := by decide +kernel
theorem dX12_slider_201 : decode cX12_slider 201 = .ok (.aload_n 0, 1) := by decide +kernel
theorem dX12_slider_202 : decode cX12_slider 202 = .ok (.iload_n 1, 1) := by decide +kernel
theorem dX12_slider_203 : decode cX12_slider 203 = .ok (.invokevirtual 384, 3) := by decide +kernel
theorem dX12_slider_206 : decode cX12_slider 206 = .ok (.iload 6, 2) := by decide +kernel
theorem dX12_slider_208 : decode cX12_slider 208 = .ok (.ireturn, 1) := by decide +kernel
set_option maxHeartbeats 4000000 in
set_option maxRecDepth 100000 in
theorem m_X12_slider (l : Launch) {Z : pZ} (S : pSh Z) {h : pH} (I : Iv Z h) (label : Int32) (width : Int32) (low : Int32) (top : Int32) (E9 : mE h) (S9 : mS h) (K9 : mK h) (ht : (h 137 25).toInt ≤ 599) (hb9 : (h 137 27).toInt ≤ 599) (hq : (h 137 82).toInt ≤ 6980) : pMet l yX12_slider cX12_slider 7 (some .int) 4 0 0 101 Z h [.ref (zB Z + 137), .int label, .int width, .int low, .int top] (pQi Z (fun r Z1 h1 => Z = Z1 ∧ Iv Z h1 ∧ agr [(137, 0), (137, 18), (137, 19), (137, 20), (137, 22), (137, 21), (137, 23), (137, 40), (137, 48), (137, 56), (137, 58), (137, 70), (137, 71), (153, 1000), (180, 1000), (172, 1000), (173, 1000), (171, 1000), (174, 1000), (175, 1000), (176, 1000), (177, 1000), (137, 25), (143, 1000), (137, 28), (137, 27), (144, 1000), (137, 82), (186, 1000), (137, 79), (181, 1000), (182, 1000), (184, 1000), (185, 1000)] h h1 ∧ (mE h1) ∧ (mS h1) ∧ (mK h1) ∧ ((h 137 25).toInt + (0) ≤ (h1 137 25).toInt ∧ (h1 137 25).toInt ≤ (h 137 25).toInt + (1)) ∧ ((h 137 27).toInt + (0) ≤ (h1 137 27).toInt ∧ (h1 137 27).toInt ≤ (h 137 27).toInt + (1)) ∧ ((h 137 82).toInt + (0) ≤ (h1 137 82).toInt ∧ (h1 137 82).toInt ≤ (h 137 82).toInt + (4)))) := by
  refine pOfW (lv := [(0, .ref (zB Z + 137)), (1, .int label), (2, .int width), (3, .int low), (4, .int top)]) (by decide) (Nat.le_of_ble_eq_true rfl) rfl ?_
  intro p e s m below meth c ls M hr hlk hnm V hl
  have hx := M.1.1
  have hb := M.1.2.1
  have A : agr [] h h := agr.rf
  have i_56 : 0 ≤ (h 137 56).toInt ∧ (h 137 56).toInt ≤ 40 := I.get (sm_this S) 56
  have i_70 : 0 ≤ (h 137 70).toInt ∧ (h 137 70).toInt ≤ 40 := I.get (sm_this S) 70
  have i_58 : 0 ≤ (h 137 58).toInt ∧ (h 137 58).toInt ≤ 40 := I.get (sm_this S) 58
  have i_25 : 0 ≤ (h 137 25).toInt ∧ (h 137 25).toInt ≤ 600 := I.get (sm_this S) 25
  have i_27 : 0 ≤ (h 137 27).toInt ∧ (h 137 27).toInt ≤ 600 := I.get (sm_this S) 27
  have i_82 : 0 ≤ (h 137 82).toInt ∧ (h 137 82).toInt ≤ 7000 := I.get (sm_this S) 82
  have i_83 : 0 ≤ (h 137 83).toInt ∧ (h 137 83).toInt ≤ 7000 := I.get (sm_this S) 83
  have i_2 : 0 ≤ (h 137 2).toInt ∧ (h 137 2).toInt ≤ 64 := I.get (sm_this S) 2
  have n9 := S9.num
  have J_187 : ∀ (x187_5 : Int32) (x187_6 : Int32) (hJ : pH) (H : Heap) (locs : List Loc) (ls : Array Slot), pV Z hJ s.heap H locs → Iv Z hJ → agr [(137, 0), (137, 19), (137, 20), (137, 21), (137, 22), (137, 25), (137, 27), (137, 28), (143, 1000), (144, 1000), (171, 1000), (172, 1000), (173, 1000), (174, 1000), (175, 1000), (176, 1000), (177, 1000), (180, 1000)] h hJ → lv_has ls 7 [(0, .ref (zB Z + 137)), (1, .int label), (2, .int width), (3, .int low), (4, .int top), (5, .int x187_5), (6, .int x187_6)] → ((h 137 56).toInt + (0) ≤ (hJ 137 56).toInt ∧ (hJ 137 56).toInt ≤ (h 137 56).toInt + (0)) → ((h 137 70).toInt + (0) ≤ (hJ 137 70).toInt ∧ (hJ 137 70).toInt ≤ (h 137 70).toInt + (0)) → ((h 137 58).toInt + (0) ≤ (hJ 137 58).toInt ∧ (hJ 137 58).toInt ≤ (h 137 58).toInt + (0)) → ((h 137 25).toInt + (1) ≤ (hJ 137 25).toInt ∧ (hJ 137 25).toInt ≤ (h 137 25).toInt + (1)) → ((h 137 27).toInt + (1) ≤ (hJ 137 27).toInt ∧ (hJ 137 27).toInt ≤ (h 137 27).toInt + (1)) → ((h 137 82).toInt + (0) ≤ (hJ 137 82).toInt ∧ (hJ 137 82).toInt ≤ (h 137 82).toInt + (0)) → ((h 137 83).toInt + (0) ≤ (hJ 137 83).toInt ∧ (hJ 137 83).toInt ≤ (h 137 83).toInt + (0)) → ((h 137 2).toInt + (0) ≤ (hJ 137 2).toInt ∧ (hJ 137 2).toInt ≤ (h 137 2).toInt + (0)) → (0 ≤ label.toInt ∧ label.toInt ≤ 999 ∧ 2 ≤ width.toInt ∧ width.toInt ≤ 200) → mE hJ → mS hJ → mK hJ → W p l e (pRm 4 0 0 101) s m ([.ref (zB Z + 137), .int label, .int width, .int low, .int top] : List Value).toArray below meth c H locs 0 0 (MQ below (pQi Z (fun r Z1 h1 => Z = Z1 ∧ Iv Z h1 ∧ agr [(137, 0), (137, 18), (137, 19), (137, 20), (137, 22), (137, 21), (137, 23), (137, 40), (137, 48), (137, 56), (137, 58), (137, 70), (137, 71), (153, 1000), (180, 1000), (172, 1000), (173, 1000), (171, 1000), (174, 1000), (175, 1000), (176, 1000), (177, 1000), (137, 25), (143, 1000), (137, 28), (137, 27), (144, 1000), (137, 82), (186, 1000), (137, 79), (181, 1000), (182, 1000), (184, 1000), (185, 1000)] h h1 ∧ (mE h1) ∧ (mS h1) ∧ (mK h1) ∧ ((h 137 25).toInt + (0) ≤ (h1 137 25).toInt ∧ (h1 137 25).toInt ≤ (h 137 25).toInt + (1)) ∧ ((h 137 27).toInt + (0) ≤ (h1 137 27).toInt ∧ (h1 137 27).toInt ≤ (h 137 27).toInt + (1)) ∧ ((h 137 82).toInt + (0) ≤ (h1 137 82).toInt ∧ (h1 137 82).toInt ≤ (h 137 82).toInt + (4)))) ([.ref (zB Z + 137), .int label, .int width, .int low, .int top] : List Value).toArray s 0 0 (pA (zB Z))) (F0 m 187 ls []) := by
    intro x187_5 x187_6 hJ H locs ls V I A hl gd_187_56 gd_187_70 gd_187_58 gd_187_25 gd_187_27 gd_187_82 gd_187_83 gd_187_2 eL E9 S9 K9
    refine lv_aload_n hx hb dX12_slider_187 rfl (lv_at hl 0 rfl) ?_
    refine lv_iload hx hb dX12_slider_188 (lv_at hl 5 rfl) ?_
    refine lv_iload hx hb dX12_slider_190 (lv_at hl 6 rfl) ?_
    refine pk_v (pr_V M V (m_X12_keep l S I x187_5 x187_6 (K9.congr rfl rfl)) km_X12_keep (sm_this S) pC12 lkM_X12_390 rfl hl.1 rfl (Nat.le_of_ble_eq_true rfl) ⟨Nat.le_of_ble_eq_true rfl, Nat.le_of_ble_eq_true rfl⟩ ⟨Nat.le_of_ble_eq_true rfl, Nat.le_of_ble_eq_true rfl⟩ dX12_slider_192) V (fun Zr1 hr1 H locs pr1 _ _ V => ?_)
    obtain ⟨rfl, I, pA_r1, fr1_0⟩ := pr1
    have A := A.wk (l3 := [(137, 0), (137, 19), (137, 20), (137, 21), (137, 22), (137, 25), (137, 27), (137, 28), (143, 1000), (144, 1000), (171, 1000), (172, 1000), (173, 1000), (174, 1000), (175, 1000), (176, 1000), (177, 1000), (180, 1000), (137, 79), (181, 1000), (182, 1000), (184, 1000), (185, 1000)]) (by decide)
    have A := A.tr pA_r1 (by decide)
    have E9 : mE hr1 := E9.congr (pA_r1.get 137 2 (by decide)) (pA_r1.row 138 (by decide))
    have S9 : mS hr1 := S9.congr (pA_r1.get 137 56 (by decide)) (pA_r1.get 137 70 (by decide)) (pA_r1.get 137 58 (by decide)) (pA_r1.row 162 (by decide)) (pA_r1.row 163 (by decide)) (pA_r1.row 165 (by decide)) (pA_r1.row 166 (by decide))
    have K9 : mK hr1 := fr1_0
    have w_r1_56 : (hr1 137 56).toInt = (hJ 137 56).toInt := congrArg Int32.toInt (pA_r1.get 137 56 (by decide))
    have w_r1_70 : (hr1 137 70).toInt = (hJ 137 70).toInt := congrArg Int32.toInt (pA_r1.get 137 70 (by decide))
    have w_r1_58 : (hr1 137 58).toInt = (hJ 137 58).toInt := congrArg Int32.toInt (pA_r1.get 137 58 (by decide))
    have w_r1_25 : (hr1 137 25).toInt = (hJ 137 25).toInt := congrArg Int32.toInt (pA_r1.get 137 25 (by decide))
    have w_r1_27 : (hr1 137 27).toInt = (hJ 137 27).toInt := congrArg Int32.toInt (pA_r1.get 137 27 (by decide))
    have w_r1_82 : (hr1 137 82).toInt = (hJ 137 82).toInt := congrArg Int32.toInt (pA_r1.get 137 82 (by decide))
    have w_r1_83 : (hr1 137 83).toInt = (hJ 137 83).toInt := congrArg Int32.toInt (pA_r1.get 137 83 (by decide))
    have w_r1_2 : (hr1 137 2).toInt = (hJ 137 2).toInt := congrArg Int32.toInt (pA_r1.get 137 2 (by decide))
    refine lv_aload_n hx hb dX12_slider_195 rfl (lv_at hl 0 rfl) ?_
    refine lv_iload hx hb dX12_slider_196 (lv_at hl 5 rfl) ?_
    refine pk_v (pr_V M V (m_X12_shape l S I x187_5 (show (hr1 137 82).toInt ≤ 6999 by omega)) km_X12_shape (sm_this S) pC12 lkM_X12_381 rfl hl.1 rfl (Nat.le_of_ble_eq_true rfl) ⟨Nat.le_of_ble_eq_true rfl, Nat.le_of_ble_eq_true rfl⟩ ⟨Nat.le_of_ble_eq_true rfl, Nat.le_of_ble_eq_true rfl⟩ dX12_slider_198) V (fun Zr2 hr2 H locs pr2 _ _ V => ?_)
    obtain ⟨rfl, I, pA_r2, fr2_0⟩ := pr2
    have fr2_0 : (hr1 137 82).toInt + (0) ≤ (hr2 137 82).toInt ∧ (hr2 137 82).toInt ≤ (hr1 137 82).toInt + (1) := fr2_0
    have A := A.wk (l3 := [(137, 0), (137, 19), (137, 20), (137, 21), (137, 22), (137, 25), (137, 27), (137, 28), (143, 1000), (144, 1000), (171, 1000), (172, 1000), (173, 1000), (174, 1000), (175, 1000), (176, 1000), (177, 1000), (180, 1000), (137, 79), (181, 1000), (182, 1000), (184, 1000), (185, 1000), (137, 82), (186, 1000)]) (by decide)
    have A := A.tr pA_r2 (by decide)
    have E9 : mE hr2 := E9.congr (pA_r2.get 137 2 (by decide)) (pA_r2.row 138 (by decide))
    have S9 : mS hr2 := S9.congr (pA_r2.get 137 56 (by decide)) (pA_r2.get 137 70 (by decide)) (pA_r2.get 137 58 (by decide)) (pA_r2.row 162 (by decide)) (pA_r2.row 163 (by decide)) (pA_r2.row 165 (by decide)) (pA_r2.row 166 (by decide))
    have K9 : mK hr2 := K9.congr (pA_r2.row 185 (by decide)) (pA_r2.row 184 (by decide))
    have w_r2_56 : (hr2 137 56).toInt = (hr1 137 56).toInt := congrArg Int32.toInt (pA_r2.get 137 56 (by decide))
    have w_r2_70 : (hr2 137 70).toInt = (hr1 137 70).toInt := congrArg Int32.toInt (pA_r2.get 137 70 (by decide))
    have w_r2_58 : (hr2 137 58).toInt = (hr1 137 58).toInt := congrArg Int32.toInt (pA_r2.get 137 58 (by decide))
    have w_r2_25 : (hr2 137 25).toInt = (hr1 137 25).toInt := congrArg Int32.toInt (pA_r2.get 137 25 (by decide))
    have w_r2_27 : (hr2 137 27).toInt = (hr1 137 27).toInt := congrArg Int32.toInt (pA_r2.get 137 27 (by decide))
    have w_r2_83 : (hr2 137 83).toInt = (hr1 137 83).toInt := congrArg Int32.toInt (pA_r2.get 137 83 (by decide))
    have w_r2_2 : (hr2 137 2).toInt = (hr1 137 2).toInt := congrArg Int32.toInt (pA_r2.get 137 2 (by decide))
    refine lv_aload_n hx hb dX12_slider_201 rfl (lv_at hl 0 rfl) ?_
    refine lv_iload_n hx hb dX12_slider_202 rfl (lv_at hl 1 rfl) ?_
    refine pk_v (pr_V M V (m_X12_digits l S I label (by omega) (show (hr2 137 82).toInt ≤ 6997 by omega)) km_X12_digits (sm_this S) pC12 lkM_X12_384 rfl hl.1 rfl (Nat.le_of_ble_eq_true rfl) ⟨Nat.le_of_ble_eq_true rfl, Nat.le_of_ble_eq_true rfl⟩ ⟨Nat.le_of_ble_eq_true rfl, Nat.le_of_ble_eq_true rfl⟩ dX12_slider_203) V (fun Zr3 hr3 H locs pr3 _ _ V => ?_)
    obtain ⟨rfl, I, pA_r3, fr3_0⟩ := pr3
    have fr3_0 : (hr2 137 82).toInt + (0) ≤ (hr3 137 82).toInt ∧ (hr3 137 82).toInt ≤ (hr2 137 82).toInt + (3) := fr3_0
    have A := A.tr pA_r3 (by decide)
    have E9 : mE hr3 := E9.congr (pA_r3.get 137 2 (by decide)) (pA_r3.row 138 (by decide))
    have S9 : mS hr3 := S9.congr (pA_r3.get 137 56 (by decide)) (pA_r3.get 137 70 (by decide)) (pA_r3.get 137 58 (by decide)) (pA_r3.row 162 (by decide)) (pA_r3.row 163 (by decide)) (pA_r3.row 165 (by decide)) (pA_r3.row 166 (by decide))
    have K9 : mK hr3 := K9.congr (pA_r3.row 185 (by decide)) (pA_r3.row 184 (by decide))
    have w_r3_56 : (hr3 137 56).toInt = (hr2 137 56).toInt := congrArg Int32.toInt (pA_r3.get 137 56 (by decide))
    have w_r3_70 : (hr3 137 70).toInt = (hr2 137 70).toInt := congrArg Int32.toInt (pA_r3.get 137 70 (by decide))
    have w_r3_58 : (hr3 137 58).toInt = (hr2 137 58).toInt := congrArg Int32.toInt (pA_r3.get 137 58 (by decide))
    have w_r3_25 : (hr3 137 25).toInt = (hr2 137 25).toInt := congrArg Int32.toInt (pA_r3.get 137 25 (by decide))
    have w_r3_27 : (hr3 137 27).toInt = (hr2 137 27).toInt := congrArg Int32.toInt (pA_r3.get 137 27 (by decide))
    have w_r3_83 : (hr3 137 83).toInt = (hr2 137 83).toInt := congrArg Int32.toInt (pA_r3.get 137 83 (by decide))
    have w_r3_2 : (hr3 137 2).toInt = (hr2 137 2).toInt := congrArg Int32.toInt (pA_r3.get 137 2 (by decide))
    refine lv_iload hx hb dX12_slider_206 (lv_at hl 6 rfl) ?_
    exact pe_i M V rfl rfl hr hlk rfl ⟨rfl, I, A.wk (by decide), (E9.congr rfl rfl), (S9.congr rfl rfl rfl rfl rfl rfl rfl), (K9.congr rfl rfl), (show (h 137 25).toInt + (0) ≤ (hr3 137 25).toInt ∧ (hr3 137 25).toInt ≤ (h 137 25).toInt + (1) by omega), (show (h 137 27).toInt + (0) ≤ (hr3 137 27).toInt ∧ (hr3 137 27).toInt ≤ (h 137 27).toInt + (1) by omega), (show (h 137 82).toInt + (0) ≤ (hr3 137 82).toInt ∧ (hr3 137 82).toInt ≤ (h 137 82).toInt + (4) by omega)⟩ ⟨Nat.le_refl _, Nat.le_refl _⟩ dX12_slider_208
  have J_159 : ∀ (x159_5 : Int32) (x159_6 : Int32) (hJ : pH) (H : Heap) (locs : List Loc) (ls : Array Slot), pV Z hJ s.heap H locs → Iv Z hJ → agr [(137, 0), (137, 19), (137, 20), (137, 21), (137, 22), (137, 25), (137, 27), (137, 28), (143, 1000), (144, 1000), (171, 1000), (172, 1000), (173, 1000), (174, 1000), (175, 1000), (176, 1000), (177, 1000), (180, 1000)] h hJ → lv_has ls 7 [(0, .ref (zB Z + 137)), (1, .int label), (2, .int width), (3, .int low), (4, .int top), (5, .int x159_5), (6, .int x159_6)] → ((h 137 56).toInt + (0) ≤ (hJ 137 56).toInt ∧ (hJ 137 56).toInt ≤ (h 137 56).toInt + (0)) → ((h 137 70).toInt + (0) ≤ (hJ 137 70).toInt ∧ (hJ 137 70).toInt ≤ (h 137 70).toInt + (0)) → ((h 137 58).toInt + (0) ≤ (hJ 137 58).toInt ∧ (hJ 137 58).toInt ≤ (h 137 58).toInt + (0)) → ((h 137 25).toInt + (1) ≤ (hJ 137 25).toInt ∧ (hJ 137 25).toInt ≤ (h 137 25).toInt + (1)) → ((h 137 27).toInt + (1) ≤ (hJ 137 27).toInt ∧ (hJ 137 27).toInt ≤ (h 137 27).toInt + (1)) → ((h 137 82).toInt + (0) ≤ (hJ 137 82).toInt ∧ (hJ 137 82).toInt ≤ (h 137 82).toInt + (0)) → ((h 137 83).toInt + (0) ≤ (hJ 137 83).toInt ∧ (hJ 137 83).toInt ≤ (h 137 83).toInt + (0)) → ((h 137 2).toInt + (0) ≤ (hJ 137 2).toInt ∧ (hJ 137 2).toInt ≤ (h 137 2).toInt + (0)) → (0 ≤ label.toInt ∧ label.toInt ≤ 999 ∧ 2 ≤ width.toInt ∧ width.toInt ≤ 200) → mE hJ → mS hJ → mK hJ → W p l e (pRm 4 0 0 101) s m ([.ref (zB Z + 137), .int label, .int width, .int low, .int top] : List Value).toArray below meth c H locs 0 0 (MQ below (pQi Z (fun r Z1 h1 => Z = Z1 ∧ Iv Z h1 ∧ agr [(137, 0), (137, 18), (137, 19), (137, 20), (137, 22), (137, 21), (137, 23), (137, 40), (137, 48), (137, 56), (137, 58), (137, 70), (137, 71), (153, 1000), (180, 1000), (172, 1000), (173, 1000), (171, 1000), (174, 1000), (175, 1000), (176, 1000), (177, 1000), (137, 25), (143, 1000), (137, 28), (137, 27), (144, 1000), (137, 82), (186, 1000), (137, 79), (181, 1000), (182, 1000), (184, 1000), (185, 1000)] h h1 ∧ (mE h1) ∧ (mS h1) ∧ (mK h1) ∧ ((h 137 25).toInt + (0) ≤ (h1 137 25).toInt ∧ (h1 137 25).toInt ≤ (h 137 25).toInt + (1)) ∧ ((h 137 27).toInt + (0) ≤ (h1 137 27).toInt ∧ (h1 137 27).toInt ≤ (h 137 27).toInt + (1)) ∧ ((h 137 82).toInt + (0) ≤ (h1 137 82).toInt ∧ (h1 137 82).toInt ≤ (h 137 82).toInt + (4)))) ([.ref (zB Z + 137), .int label, .int width, .int low, .int top] : List Value).toArray s 0 0 (pA (zB Z))) (F0 m 159 ls []) := by
    intro x159_5 x159_6 hJ H locs ls V I A hl gd_159_56 gd_159_70 gd_159_58 gd_159_25 gd_159_27 gd_159_82 gd_159_83 gd_159_2 eL E9 S9 K9
    refine lv_aload_n hx hb dX12_slider_159 rfl (lv_at hl 0 rfl) ?_
    refine pg_i M V 12 21 (sm_this S) pC12 fk12_21 lkF_X12_294 dX12_slider_160 ?_
    refine lv_topi (fun v4 ev4 => ?_)
    refine lv_iload hx hb dX12_slider_163 (lv_at hl 5 rfl) ?_
    refine lv_icmp_ne (tgt := 187) hx hb dX12_slider_165 (by decide) (fun c_165 => ?_) (fun c_165 => ?_)
    · skip
      have c_165 := pi_ne c_165
      exact J_187 x159_5 x159_6 _ _ _ _ V I (A.wk (by decide)) (lv_sub hl [0, 1, 2, 3, 4, 5, 6] rfl) (show (h 137 56).toInt + (0) ≤ (hJ 137 56).toInt ∧ (hJ 137 56).toInt ≤ (h 137 56).toInt + (0) by omega) (show (h 137 70).toInt + (0) ≤ (hJ 137 70).toInt ∧ (hJ 137 70).toInt ≤ (h 137 70).toInt + (0) by omega) (show (h 137 58).toInt + (0) ≤ (hJ 137 58).toInt ∧ (hJ 137 58).toInt ≤ (h 137 58).toInt + (0) by omega) (show (h 137 25).toInt + (1) ≤ (hJ 137 25).toInt ∧ (hJ 137 25).toInt ≤ (h 137 25).toInt + (1) by omega) (show (h 137 27).toInt + (1) ≤ (hJ 137 27).toInt ∧ (hJ 137 27).toInt ≤ (h 137 27).toInt + (1) by omega) (show (h 137 82).toInt + (0) ≤ (hJ 137 82).toInt ∧ (hJ 137 82).toInt ≤ (h 137 82).toInt + (0) by omega) (show (h 137 83).toInt + (0) ≤ (hJ 137 83).toInt ∧ (hJ 137 83).toInt ≤ (h 137 83).toInt + (0) by omega) (show (h 137 2).toInt + (0) ≤ (hJ 137 2).toInt ∧ (hJ 137 2).toInt ≤ (h 137 2).toInt + (0) by omega) (by omega) (E9.congr rfl rfl) (S9.congr rfl rfl rfl rfl rfl rfl rfl) (K9.congr rfl rfl) 
    · skip
      have c_165 := pi_eq.mp c_165
      refine lv_aload_n hx hb dX12_slider_168 rfl (lv_at hl 0 rfl) ?_
      refine pg_r M V 12 11 (sm_this S) pC12 fk12_11 (sm_downHere S).2.2 lkF_X12_17 dX12_slider_169 ?_
      refine lv_iconst (v := 3) hx hb dX12_slider_172 (by decide) ?_
      have k_3 : (3 : Int32).toInt = 3 := rfl
      refine pa_z M V (sm_downHere S).1 (by rw [(sm_downHere S).2.1]; exact pi_in (by omega)) dX12_slider_173 ?_
      refine lv_topi (fun v5 ev5 => ?_)
      have tv5 : 0 ≤ v5.toInt ∧ v5.toInt ≤ 1 := by rw [ev5]; exact I.get (sm_downHere S).1 _
      refine lv_if_eq (tgt := 187) hx hb dX12_slider_174 (by decide) (fun c_174 => ?_) (fun c_174 => ?_)
      · skip
        have k_0 : (0 : Int32).toInt = 0 := rfl
        have c_174 := pi_eq.mp c_174
        exact J_187 x159_5 x159_6 _ _ _ _ V I (A.wk (by decide)) (lv_sub hl [0, 1, 2, 3, 4, 5, 6] rfl) (show (h 137 56).toInt + (0) ≤ (hJ 137 56).toInt ∧ (hJ 137 56).toInt ≤ (h 137 56).toInt + (0) by omega) (show (h 137 70).toInt + (0) ≤ (hJ 137 70).toInt ∧ (hJ 137 70).toInt ≤ (h 137 70).toInt + (0) by omega) (show (h 137 58).toInt + (0) ≤ (hJ 137 58).toInt ∧ (hJ 137 58).toInt ≤ (h 137 58).toInt + (0) by omega) (show (h 137 25).toInt + (1) ≤ (hJ 137 25).toInt ∧ (hJ 137 25).toInt ≤ (h 137 25).toInt + (1) by omega) (show (h 137 27).toInt + (1) ≤ (hJ 137 27).toInt ∧ (hJ 137 27).toInt ≤ (h 137 27).toInt + (1) by omega) (show (h 137 82).toInt + (0) ≤ (hJ 137 82).toInt ∧ (hJ 137 82).toInt ≤ (h 137 82).toInt + (0) by omega) (show (h 137 83).toInt + (0) ≤ (hJ 137 83).toInt ∧ (hJ 137 83).toInt ≤ (h 137 83).toInt + (0) by omega) (show (h 137 2).toInt + (0) ≤ (hJ 137 2).toInt ∧ (hJ 137 2).toInt ≤ (h 137 2).toInt + (0) by omega) (by omega) (E9.congr rfl rfl) (S9.congr rfl rfl rfl rfl rfl rfl rfl) (K9.congr rfl rfl) 
      · skip
        have k_0 : (0 : Int32).toInt = 0 := rfl
        have c_174 := pi_ne c_174
        refine lv_iload hx hb dX12_slider_177 (lv_at hl 6 rfl) ?_
        refine lv_iload hx hb dX12_slider_179 (lv_at hl 4 rfl) ?_
        refine lv_icmp_ge (tgt := 187) hx hb dX12_slider_181 (by decide) (fun c_181 => ?_) (fun c_181 => ?_)
        · skip
          have c_181 := pi_le.mp c_181
          exact J_187 x159_5 x159_6 _ _ _ _ V I (A.wk (by decide)) (lv_sub hl [0, 1, 2, 3, 4, 5, 6] rfl) (show (h 137 56).toInt + (0) ≤ (hJ 137 56).toInt ∧ (hJ 137 56).toInt ≤ (h 137 56).toInt + (0) by omega) (show (h 137 70).toInt + (0) ≤ (hJ 137 70).toInt ∧ (hJ 137 70).toInt ≤ (h 137 70).toInt + (0) by omega) (show (h 137 58).toInt + (0) ≤ (hJ 137 58).toInt ∧ (hJ 137 58).toInt ≤ (h 137 58).toInt + (0) by omega) (show (h 137 25).toInt + (1) ≤ (hJ 137 25).toInt ∧ (hJ 137 25).toInt ≤ (h 137 25).toInt + (1) by omega) (show (h 137 27).toInt + (1) ≤ (hJ 137 27).toInt ∧ (hJ 137 27).toInt ≤ (h 137 27).toInt + (1) by omega) (show (h 137 82).toInt + (0) ≤ (hJ 137 82).toInt ∧ (hJ 137 82).toInt ≤ (h 137 82).toInt + (0) by omega) (show (h 137 83).toInt + (0) ≤ (hJ 137 83).toInt ∧ (hJ 137 83).toInt ≤ (h 137 83).toInt + (0) by omega) (show (h 137 2).toInt + (0) ≤ (hJ 137 2).toInt ∧ (hJ 137 2).toInt ≤ (h 137 2).toInt + (0) by omega) (by omega) (E9.congr rfl rfl) (S9.congr rfl rfl rfl rfl rfl rfl rfl) (K9.congr rfl rfl) 
        · skip
          have c_181 := pi_le' c_181
          obtain ⟨v6, ev6⟩ : ∃ y : Int32, y = x159_6 + 1 := ⟨_, rfl⟩
          refine lv_iinc (v := v6) (lv' := [(6, .int v6), (0, .ref (zB Z + 137)), (1, .int label), (2, .int width), (3, .int low), (4, .int top), (5, .int x159_5)]) hx hb dX12_slider_184 hl (k := 6) rfl (by rw [ev6]; rfl) (by decide) rfl (fun ls hl => ?_)
          exact J_187 x159_5 v6 _ _ _ _ V I (A.wk (by decide)) (lv_sub hl [1, 2, 3, 4, 5, 6, 0] rfl) (show (h 137 56).toInt + (0) ≤ (hJ 137 56).toInt ∧ (hJ 137 56).toInt ≤ (h 137 56).toInt + (0) by omega) (show (h 137 70).toInt + (0) ≤ (hJ 137 70).toInt ∧ (hJ 137 70).toInt ≤ (h 137 70).toInt + (0) by omega) (show (h 137 58).toInt + (0) ≤ (hJ 137 58).toInt ∧ (hJ 137 58).toInt ≤ (h 137 58).toInt + (0) by omega) (show (h 137 25).toInt + (1) ≤ (hJ 137 25).toInt ∧ (hJ 137 25).toInt ≤ (h 137 25).toInt + (1) by omega) (show (h 137 27).toInt + (1) ≤ (hJ 137 27).toInt ∧ (hJ 137 27).toInt ≤ (h 137 27).toInt + (1) by omega) (show (h 137 82).toInt + (0) ≤ (hJ 137 82).toInt ∧ (hJ 137 82).toInt ≤ (h 137 82).toInt + (0) by omega) (show (h 137 83).toInt + (0) ≤ (hJ 137 83).toInt ∧ (hJ 137 83).toInt ≤ (h 137 83).toInt + (0) by omega) (show (h 137 2).toInt + (0) ≤ (hJ 137 2).toInt ∧ (hJ 137 2).toInt ≤ (h 137 2).toInt + (0) by omega) (by omega) (E9.congr rfl rfl) (S9.congr rfl rfl rfl rfl rfl rfl rfl) (K9.congr rfl rfl) 
  have J_132 : ∀ (x132_5 : Int32) (x132_6 : Int32) (hJ : pH) (H : Heap) (locs : List Loc) (ls : Array Slot), pV Z hJ s.heap H locs → Iv Z hJ → agr [(137, 0), (137, 19), (137, 20), (137, 21), (137, 22), (137, 25), (137, 27), (137, 28), (143, 1000), (144, 1000), (171, 1000), (172, 1000), (173, 1000), (174, 1000), (175, 1000), (176, 1000), (177, 1000), (180, 1000)] h hJ → lv_has ls 7 [(0, .ref (zB Z + 137)), (1, .int label), (2, .int width), (3, .int low), (4, .int top), (5, .int x132_5), (6, .int x132_6)] → ((h 137 56).toInt + (0) ≤ (hJ 137 56).toInt ∧ (hJ 137 56).toInt ≤ (h 137 56).toInt + (0)) → ((h 137 70).toInt + (0) ≤ (hJ 137 70).toInt ∧ (hJ 137 70).toInt ≤ (h 137 70).toInt + (0)) → ((h 137 58).toInt + (0) ≤ (hJ 137 58).toInt ∧ (hJ 137 58).toInt ≤ (h 137 58).toInt + (0)) → ((h 137 25).toInt + (1) ≤ (hJ 137 25).toInt ∧ (hJ 137 25).toInt ≤ (h 137 25).toInt + (1)) → ((h 137 27).toInt + (1) ≤ (hJ 137 27).toInt ∧ (hJ 137 27).toInt ≤ (h 137 27).toInt + (1)) → ((h 137 82).toInt + (0) ≤ (hJ 137 82).toInt ∧ (hJ 137 82).toInt ≤ (h 137 82).toInt + (0)) → ((h 137 83).toInt + (0) ≤ (hJ 137 83).toInt ∧ (hJ 137 83).toInt ≤ (h 137 83).toInt + (0)) → ((h 137 2).toInt + (0) ≤ (hJ 137 2).toInt ∧ (hJ 137 2).toInt ≤ (h 137 2).toInt + (0)) → (0 ≤ label.toInt ∧ label.toInt ≤ 999 ∧ 2 ≤ width.toInt ∧ width.toInt ≤ 200) → mE hJ → mS hJ → mK hJ → W p l e (pRm 4 0 0 101) s m ([.ref (zB Z + 137), .int label, .int width, .int low, .int top] : List Value).toArray below meth c H locs 0 0 (MQ below (pQi Z (fun r Z1 h1 => Z = Z1 ∧ Iv Z h1 ∧ agr [(137, 0), (137, 18), (137, 19), (137, 20), (137, 22), (137, 21), (137, 23), (137, 40), (137, 48), (137, 56), (137, 58), (137, 70), (137, 71), (153, 1000), (180, 1000), (172, 1000), (173, 1000), (171, 1000), (174, 1000), (175, 1000), (176, 1000), (177, 1000), (137, 25), (143, 1000), (137, 28), (137, 27), (144, 1000), (137, 82), (186, 1000), (137, 79), (181, 1000), (182, 1000), (184, 1000), (185, 1000)] h h1 ∧ (mE h1) ∧ (mS h1) ∧ (mK h1) ∧ ((h 137 25).toInt + (0) ≤ (h1 137 25).toInt ∧ (h1 137 25).toInt ≤ (h 137 25).toInt + (1)) ∧ ((h 137 27).toInt + (0) ≤ (h1 137 27).toInt ∧ (h1 137 27).toInt ≤ (h 137 27).toInt + (1)) ∧ ((h 137 82).toInt + (0) ≤ (h1 137 82).toInt ∧ (h1 137 82).toInt ≤ (h 137 82).toInt + (4)))) ([.ref (zB Z + 137), .int label, .int width, .int low, .int top] : List Value).toArray s 0 0 (pA (zB Z))) (F0 m 132 ls []) := by
    intro x132_5 x132_6 hJ H locs ls V I A hl gd_132_56 gd_132_70 gd_132_58 gd_132_25 gd_132_27 gd_132_82 gd_132_83 gd_132_2 eL E9 S9 K9
    refine lv_aload_n hx hb dX12_slider_132 rfl (lv_at hl 0 rfl) ?_
    refine pg_i M V 12 21 (sm_this S) pC12 fk12_21 lkF_X12_294 dX12_slider_133 ?_
    refine lv_topi (fun v7 ev7 => ?_)
    refine lv_iload hx hb dX12_slider_136 (lv_at hl 5 rfl) ?_
    refine lv_icmp_ne (tgt := 159) hx hb dX12_slider_138 (by decide) (fun c_138 => ?_) (fun c_138 => ?_)
    · skip
      have c_138 := pi_ne c_138
      exact J_159 x132_5 x132_6 _ _ _ _ V I (A.wk (by decide)) (lv_sub hl [0, 1, 2, 3, 4, 5, 6] rfl) (show (h 137 56).toInt + (0) ≤ (hJ 137 56).toInt ∧ (hJ 137 56).toInt ≤ (h 137 56).toInt + (0) by omega) (show (h 137 70).toInt + (0) ≤ (hJ 137 70).toInt ∧ (hJ 137 70).toInt ≤ (h 137 70).toInt + (0) by omega) (show (h 137 58).toInt + (0) ≤ (hJ 137 58).toInt ∧ (hJ 137 58).toInt ≤ (h 137 58).toInt + (0) by omega) (show (h 137 25).toInt + (1) ≤ (hJ 137 25).toInt ∧ (hJ 137 25).toInt ≤ (h 137 25).toInt + (1) by omega) (show (h 137 27).toInt + (1) ≤ (hJ 137 27).toInt ∧ (hJ 137 27).toInt ≤ (h 137 27).toInt + (1) by omega) (show (h 137 82).toInt + (0) ≤ (hJ 137 82).toInt ∧ (hJ 137 82).toInt ≤ (h 137 82).toInt + (0) by omega) (show (h 137 83).toInt + (0) ≤ (hJ 137 83).toInt ∧ (hJ 137 83).toInt ≤ (h 137 83).toInt + (0) by omega) (show (h 137 2).toInt + (0) ≤ (hJ 137 2).toInt ∧ (hJ 137 2).toInt ≤ (h 137 2).toInt + (0) by omega) (by omega) (E9.congr rfl rfl) (S9.congr rfl rfl rfl rfl rfl rfl rfl) (K9.congr rfl rfl) 
    · skip
      have c_138 := pi_eq.mp c_138
      refine lv_aload_n hx hb dX12_slider_141 rfl (lv_at hl 0 rfl) ?_
      refine pg_r M V 12 11 (sm_this S) pC12 fk12_11 (sm_downHere S).2.2 lkF_X12_17 dX12_slider_142 ?_
      refine lv_iconst (v := 2) hx hb dX12_slider_145 (by decide) ?_
      have k_2 : (2 : Int32).toInt = 2 := rfl
      refine pa_z M V (sm_downHere S).1 (by rw [(sm_downHere S).2.1]; exact pi_in (by omega)) dX12_slider_146 ?_
      refine lv_topi (fun v8 ev8 => ?_)
      have tv8 : 0 ≤ v8.toInt ∧ v8.toInt ≤ 1 := by rw [ev8]; exact I.get (sm_downHere S).1 _
      refine lv_if_eq (tgt := 159) hx hb dX12_slider_147 (by decide) (fun c_147 => ?_) (fun c_147 => ?_)
      · skip
        have k_0 : (0 : Int32).toInt = 0 := rfl
        have c_147 := pi_eq.mp c_147
        exact J_159 x132_5 x132_6 _ _ _ _ V I (A.wk (by decide)) (lv_sub hl [0, 1, 2, 3, 4, 5, 6] rfl) (show (h 137 56).toInt + (0) ≤ (hJ 137 56).toInt ∧ (hJ 137 56).toInt ≤ (h 137 56).toInt + (0) by omega) (show (h 137 70).toInt + (0) ≤ (hJ 137 70).toInt ∧ (hJ 137 70).toInt ≤ (h 137 70).toInt + (0) by omega) (show (h 137 58).toInt + (0) ≤ (hJ 137 58).toInt ∧ (hJ 137 58).toInt ≤ (h 137 58).toInt + (0) by omega) (show (h 137 25).toInt + (1) ≤ (hJ 137 25).toInt ∧ (hJ 137 25).toInt ≤ (h 137 25).toInt + (1) by omega) (show (h 137 27).toInt + (1) ≤ (hJ 137 27).toInt ∧ (hJ 137 27).toInt ≤ (h 137 27).toInt + (1) by omega) (show (h 137 82).toInt + (0) ≤ (hJ 137 82).toInt ∧ (hJ 137 82).toInt ≤ (h 137 82).toInt + (0) by omega) (show (h 137 83).toInt + (0) ≤ (hJ 137 83).toInt ∧ (hJ 137 83).toInt ≤ (h 137 83).toInt + (0) by omega) (show (h 137 2).toInt + (0) ≤ (hJ 137 2).toInt ∧ (hJ 137 2).toInt ≤ (h 137 2).toInt + (0) by omega) (by omega) (E9.congr rfl rfl) (S9.congr rfl rfl rfl rfl rfl rfl rfl) (K9.congr rfl rfl) 
      · skip
        have k_0 : (0 : Int32).toInt = 0 := rfl
        have c_147 := pi_ne c_147
        refine lv_iload hx hb dX12_slider_150 (lv_at hl 6 rfl) ?_
        refine lv_iload_n hx hb dX12_slider_152 rfl (lv_at hl 3 rfl) ?_
        refine lv_icmp_le (tgt := 159) hx hb dX12_slider_153 (by decide) (fun c_153 => ?_) (fun c_153 => ?_)
        · skip
          have c_153 := pi_le.mp c_153
          exact J_159 x132_5 x132_6 _ _ _ _ V I (A.wk (by decide)) (lv_sub hl [0, 1, 2, 3, 4, 5, 6] rfl) (show (h 137 56).toInt + (0) ≤ (hJ 137 56).toInt ∧ (hJ 137 56).toInt ≤ (h 137 56).toInt + (0) by omega) (show (h 137 70).toInt + (0) ≤ (hJ 137 70).toInt ∧ (hJ 137 70).toInt ≤ (h 137 70).toInt + (0) by omega) (show (h 137 58).toInt + (0) ≤ (hJ 137 58).toInt ∧ (hJ 137 58).toInt ≤ (h 137 58).toInt + (0) by omega) (show (h 137 25).toInt + (1) ≤ (hJ 137 25).toInt ∧ (hJ 137 25).toInt ≤ (h 137 25).toInt + (1) by omega) (show (h 137 27).toInt + (1) ≤ (hJ 137 27).toInt ∧ (hJ 137 27).toInt ≤ (h 137 27).toInt + (1) by omega) (show (h 137 82).toInt + (0) ≤ (hJ 137 82).toInt ∧ (hJ 137 82).toInt ≤ (h 137 82).toInt + (0) by omega) (show (h 137 83).toInt + (0) ≤ (hJ 137 83).toInt ∧ (hJ 137 83).toInt ≤ (h 137 83).toInt + (0) by omega) (show (h 137 2).toInt + (0) ≤ (hJ 137 2).toInt ∧ (hJ 137 2).toInt ≤ (h 137 2).toInt + (0) by omega) (by omega) (E9.congr rfl rfl) (S9.congr rfl rfl rfl rfl rfl rfl rfl) (K9.congr rfl rfl) 
        · skip
          have c_153 := pi_le' c_153
          obtain ⟨v9, ev9⟩ : ∃ y : Int32, y = x132_6 + (-1) := ⟨_, rfl⟩
          refine lv_iinc (v := v9) (lv' := [(6, .int v9), (0, .ref (zB Z + 137)), (1, .int label), (2, .int width), (3, .int low), (4, .int top), (5, .int x132_5)]) hx hb dX12_slider_156 hl (k := 6) rfl (by rw [ev9]; rfl) (by decide) rfl (fun ls hl => ?_)
          exact J_159 x132_5 v9 _ _ _ _ V I (A.wk (by decide)) (lv_sub hl [1, 2, 3, 4, 5, 6, 0] rfl) (show (h 137 56).toInt + (0) ≤ (hJ 137 56).toInt ∧ (hJ 137 56).toInt ≤ (h 137 56).toInt + (0) by omega) (show (h 137 70).toInt + (0) ≤ (hJ 137 70).toInt ∧ (hJ 137 70).toInt ≤ (h 137 70).toInt + (0) by omega) (show (h 137 58).toInt + (0) ≤ (hJ 137 58).toInt ∧ (hJ 137 58).toInt ≤ (h 137 58).toInt + (0) by omega) (show (h 137 25).toInt + (1) ≤ (hJ 137 25).toInt ∧ (hJ 137 25).toInt ≤ (h 137 25).toInt + (1) by omega) (show (h 137 27).toInt + (1) ≤ (hJ 137 27).toInt ∧ (hJ 137 27).toInt ≤ (h 137 27).toInt + (1) by omega) (show (h 137 82).toInt + (0) ≤ (hJ 137 82).toInt ∧ (hJ 137 82).toInt ≤ (h 137 82).toInt + (0) by omega) (show (h 137 83).toInt + (0) ≤ (hJ 137 83).toInt ∧ (hJ 137 83).toInt ≤ (h 137 83).toInt + (0) by omega) (show (h 137 2).toInt + (0) ≤ (hJ 137 2).toInt ∧ (hJ 137 2).toInt ≤ (h 137 2).toInt + (0) by omega) (by omega) (E9.congr rfl rfl) (S9.congr rfl rfl rfl rfl rfl rfl rfl) (K9.congr rfl rfl) 
  have J_47 : ∀ (y47_0 : Int32) (hJ : pH) (H : Heap) (locs : List Loc) (ls : Array Slot), pV Z hJ s.heap H locs → Iv Z hJ → agr [] h hJ → lv_has ls 7 [(0, .ref (zB Z + 137)), (1, .int label), (2, .int width), (3, .int low), (4, .int top)] → (0 ≤ y47_0.toInt ∧ y47_0.toInt ≤ 1) → ((h 137 56).toInt + (0) ≤ (hJ 137 56).toInt ∧ (hJ 137 56).toInt ≤ (h 137 56).toInt + (0)) → ((h 137 70).toInt + (0) ≤ (hJ 137 70).toInt ∧ (hJ 137 70).toInt ≤ (h 137 70).toInt + (0)) → ((h 137 58).toInt + (0) ≤ (hJ 137 58).toInt ∧ (hJ 137 58).toInt ≤ (h 137 58).toInt + (0)) → ((h 137 25).toInt + (0) ≤ (hJ 137 25).toInt ∧ (hJ 137 25).toInt ≤ (h 137 25).toInt + (0)) → ((h 137 27).toInt + (0) ≤ (hJ 137 27).toInt ∧ (hJ 137 27).toInt ≤ (h 137 27).toInt + (0)) → ((h 137 82).toInt + (0) ≤ (hJ 137 82).toInt ∧ (hJ 137 82).toInt ≤ (h 137 82).toInt + (0)) → ((h 137 83).toInt + (0) ≤ (hJ 137 83).toInt ∧ (hJ 137 83).toInt ≤ (h 137 83).toInt + (0)) → ((h 137 2).toInt + (0) ≤ (hJ 137 2).toInt ∧ (hJ 137 2).toInt ≤ (h 137 2).toInt + (0)) → (y47_0.toInt = 1 → 0 ≤ label.toInt ∧ label.toInt ≤ 999 ∧ 2 ≤ width.toInt ∧ width.toInt ≤ 200) → mE hJ → mS hJ → mK hJ → W p l e (pRm 4 0 0 101) s m ([.ref (zB Z + 137), .int label, .int width, .int low, .int top] : List Value).toArray below meth c H locs 0 0 (MQ below (pQi Z (fun r Z1 h1 => Z = Z1 ∧ Iv Z h1 ∧ agr [(137, 0), (137, 18), (137, 19), (137, 20), (137, 22), (137, 21), (137, 23), (137, 40), (137, 48), (137, 56), (137, 58), (137, 70), (137, 71), (153, 1000), (180, 1000), (172, 1000), (173, 1000), (171, 1000), (174, 1000), (175, 1000), (176, 1000), (177, 1000), (137, 25), (143, 1000), (137, 28), (137, 27), (144, 1000), (137, 82), (186, 1000), (137, 79), (181, 1000), (182, 1000), (184, 1000), (185, 1000)] h h1 ∧ (mE h1) ∧ (mS h1) ∧ (mK h1) ∧ ((h 137 25).toInt + (0) ≤ (h1 137 25).toInt ∧ (h1 137 25).toInt ≤ (h 137 25).toInt + (1)) ∧ ((h 137 27).toInt + (0) ≤ (h1 137 27).toInt ∧ (h1 137 27).toInt ≤ (h 137 27).toInt + (1)) ∧ ((h 137 82).toInt + (0) ≤ (h1 137 82).toInt ∧ (h1 137 82).toInt ≤ (h 137 82).toInt + (4)))) ([.ref (zB Z + 137), .int label, .int width, .int low, .int top] : List Value).toArray s 0 0 (pA (zB Z))) (F0 m 47 ls [.int y47_0, .ref (zB Z + 137)]) := by
    intro y47_0 hJ H locs ls V I A hl gs_47_0 gd_47_56 gd_47_70 gd_47_58 gd_47_25 gd_47_27 gd_47_82 gd_47_83 gd_47_2 eb E9 S9 K9
    refine pk_i (pr_V M V (m_X12_bars l S I y47_0 (by omega)) km_X12_bars (sm_this S) pC12 lkM_X12_371 rfl hl.1 rfl (Nat.le_of_ble_eq_true rfl) ⟨Nat.le_of_ble_eq_true rfl, Nat.le_of_ble_eq_true rfl⟩ ⟨Nat.le_of_ble_eq_true rfl, Nat.le_of_ble_eq_true rfl⟩ dX12_slider_47) V (fun r10 Zr10 hr10 H locs pr10 _ _ V => ?_)
    obtain ⟨rfl, I, pA_r10, fr10_0, fr10_1, fr10_2⟩ := pr10
    refine lv_if_eq (tgt := 55) hx hb dX12_slider_50 (by decide) (fun c_50 => ?_) (fun c_50 => ?_)
    · skip
      have k_0 : (0 : Int32).toInt = 0 := rfl
      have c_50 := pi_eq.mp c_50
      have b_r10 := fr10_1 (by omega)
      have pB_r10 := b_r10.2.2
      have g_r10 := b_r10.1
      have a_r10 : 1 ≤ (hJ 137 70).toInt := b_r10.2.1
      have A := A.wk (l3 := [(137, 0)]) (by decide)
      have A := A.tr pB_r10 (by decide)
      have E9 : mE hr10 := E9.congr (pB_r10.get 137 2 (by decide)) (pB_r10.row 138 (by decide))
      have S9 : mS hr10 := S9.congr (pB_r10.get 137 56 (by decide)) (pB_r10.get 137 70 (by decide)) (pB_r10.get 137 58 (by decide)) (pB_r10.row 162 (by decide)) (pB_r10.row 163 (by decide)) (pB_r10.row 165 (by decide)) (pB_r10.row 166 (by decide))
      have K9 : mK hr10 := K9.congr (pB_r10.row 185 (by decide)) (pB_r10.row 184 (by decide))
      have w_r10_56 : (hr10 137 56).toInt = (hJ 137 56).toInt := congrArg Int32.toInt (pB_r10.get 137 56 (by decide))
      have w_r10_70 : (hr10 137 70).toInt = (hJ 137 70).toInt := congrArg Int32.toInt (pB_r10.get 137 70 (by decide))
      have w_r10_58 : (hr10 137 58).toInt = (hJ 137 58).toInt := congrArg Int32.toInt (pB_r10.get 137 58 (by decide))
      have w_r10_25 : (hr10 137 25).toInt = (hJ 137 25).toInt := congrArg Int32.toInt (pB_r10.get 137 25 (by decide))
      have w_r10_27 : (hr10 137 27).toInt = (hJ 137 27).toInt := congrArg Int32.toInt (pB_r10.get 137 27 (by decide))
      have w_r10_82 : (hr10 137 82).toInt = (hJ 137 82).toInt := congrArg Int32.toInt (pB_r10.get 137 82 (by decide))
      have w_r10_83 : (hr10 137 83).toInt = (hJ 137 83).toInt := congrArg Int32.toInt (pB_r10.get 137 83 (by decide))
      have w_r10_2 : (hr10 137 2).toInt = (hJ 137 2).toInt := congrArg Int32.toInt (pB_r10.get 137 2 (by decide))
      refine lv_aload_n hx hb dX12_slider_55 rfl (lv_at hl 0 rfl) ?_
      refine lv_iload_n hx hb dX12_slider_56 rfl (lv_at hl 1 rfl) ?_
      refine lv_iload_n hx hb dX12_slider_57 rfl (lv_at hl 2 rfl) ?_
      refine lv_bipush (v := 12) hx hb dX12_slider_58 (by decide) ?_
      refine pk_i (pr_V M V (m_X12_lay l S I label width (12 : Int32) (show 1 ≤ (hr10 137 58).toInt by omega) (show 1 ≤ (hr10 137 70).toInt by omega) (show (hr10 137 25).toInt ≤ 599 by omega)) km_X12_lay (sm_this S) pC12 lkM_X12_375 rfl hl.1 rfl (Nat.le_of_ble_eq_true rfl) ⟨Nat.le_of_ble_eq_true rfl, Nat.le_of_ble_eq_true rfl⟩ ⟨Nat.le_of_ble_eq_true rfl, Nat.le_of_ble_eq_true rfl⟩ dX12_slider_60) V (fun r11 Zr11 hr11 H locs pr11 _ _ V => ?_)
      obtain ⟨rfl, I, pA_r11, fr11_0⟩ := pr11
      have fr11_0 : (hr10 137 25).toInt + (1) ≤ (hr11 137 25).toInt ∧ (hr11 137 25).toInt ≤ (hr10 137 25).toInt + (1) := fr11_0
      have A := A.wk (l3 := [(137, 0), (180, 1000), (172, 1000), (173, 1000), (171, 1000), (174, 1000), (175, 1000), (176, 1000), (177, 1000), (137, 25), (143, 1000)]) (by decide)
      have A := A.tr pA_r11 (by decide)
      have E9 : mE hr11 := E9.congr (pA_r11.get 137 2 (by decide)) (pA_r11.row 138 (by decide))
      have S9 : mS hr11 := S9.congr (pA_r11.get 137 56 (by decide)) (pA_r11.get 137 70 (by decide)) (pA_r11.get 137 58 (by decide)) (pA_r11.row 162 (by decide)) (pA_r11.row 163 (by decide)) (pA_r11.row 165 (by decide)) (pA_r11.row 166 (by decide))
      have K9 : mK hr11 := K9.congr (pA_r11.row 185 (by decide)) (pA_r11.row 184 (by decide))
      have w_r11_56 : (hr11 137 56).toInt = (hr10 137 56).toInt := congrArg Int32.toInt (pA_r11.get 137 56 (by decide))
      have w_r11_70 : (hr11 137 70).toInt = (hr10 137 70).toInt := congrArg Int32.toInt (pA_r11.get 137 70 (by decide))
      have w_r11_58 : (hr11 137 58).toInt = (hr10 137 58).toInt := congrArg Int32.toInt (pA_r11.get 137 58 (by decide))
      have w_r11_27 : (hr11 137 27).toInt = (hr10 137 27).toInt := congrArg Int32.toInt (pA_r11.get 137 27 (by decide))
      have w_r11_82 : (hr11 137 82).toInt = (hr10 137 82).toInt := congrArg Int32.toInt (pA_r11.get 137 82 (by decide))
      have w_r11_83 : (hr11 137 83).toInt = (hr10 137 83).toInt := congrArg Int32.toInt (pA_r11.get 137 83 (by decide))
      have w_r11_2 : (hr11 137 2).toInt = (hr10 137 2).toInt := congrArg Int32.toInt (pA_r11.get 137 2 (by decide))
      refine lv_istore (lv' := [(5, .int r11), (0, .ref (zB Z + 137)), (1, .int label), (2, .int width), (3, .int low), (4, .int top)]) hx hb dX12_slider_63 hl (by decide) rfl (fun ls hl => ?_)
      refine lv_aload_n hx hb dX12_slider_65 rfl (lv_at hl 1 rfl) ?_
      refine lv_iload hx hb dX12_slider_66 (lv_at hl 0 rfl) ?_
      refine pk_i (pr_V M V (m_X12_behaves l S I r11 (show (hr11 137 27).toInt ≤ 599 by omega)) km_X12_behaves (sm_this S) pC12 lkM_X12_378 rfl hl.1 rfl (Nat.le_of_ble_eq_true rfl) ⟨Nat.le_of_ble_eq_true rfl, Nat.le_of_ble_eq_true rfl⟩ ⟨Nat.le_of_ble_eq_true rfl, Nat.le_of_ble_eq_true rfl⟩ dX12_slider_68) V (fun r12 Zr12 hr12 H locs pr12 _ _ V => ?_)
      obtain ⟨rfl, I, pA_r12, fr12_0, fr12_1⟩ := pr12
      have fr12_1 : (hr11 137 27).toInt + (1) ≤ (hr12 137 27).toInt ∧ (hr12 137 27).toInt ≤ (hr11 137 27).toInt + (1) := fr12_1
      have A := A.wk (l3 := [(137, 0), (180, 1000), (172, 1000), (173, 1000), (171, 1000), (174, 1000), (175, 1000), (176, 1000), (177, 1000), (137, 25), (143, 1000), (137, 20), (137, 21), (137, 22), (137, 28), (137, 27), (144, 1000), (137, 19)]) (by decide)
      have A := A.tr pA_r12 (by decide)
      have E9 : mE hr12 := E9.congr (pA_r12.get 137 2 (by decide)) (pA_r12.row 138 (by decide))
      have S9 : mS hr12 := S9.congr (pA_r12.get 137 56 (by decide)) (pA_r12.get 137 70 (by decide)) (pA_r12.get 137 58 (by decide)) (pA_r12.row 162 (by decide)) (pA_r12.row 163 (by decide)) (pA_r12.row 165 (by decide)) (pA_r12.row 166 (by decide))
      have K9 : mK hr12 := K9.congr (pA_r12.row 185 (by decide)) (pA_r12.row 184 (by decide))
      have w_r12_56 : (hr12 137 56).toInt = (hr11 137 56).toInt := congrArg Int32.toInt (pA_r12.get 137 56 (by decide))
      have w_r12_70 : (hr12 137 70).toInt = (hr11 137 70).toInt := congrArg Int32.toInt (pA_r12.get 137 70 (by decide))
      have w_r12_58 : (hr12 137 58).toInt = (hr11 137 58).toInt := congrArg Int32.toInt (pA_r12.get 137 58 (by decide))
      have w_r12_25 : (hr12 137 25).toInt = (hr11 137 25).toInt := congrArg Int32.toInt (pA_r12.get 137 25 (by decide))
      have w_r12_82 : (hr12 137 82).toInt = (hr11 137 82).toInt := congrArg Int32.toInt (pA_r12.get 137 82 (by decide))
      have w_r12_83 : (hr12 137 83).toInt = (hr11 137 83).toInt := congrArg Int32.toInt (pA_r12.get 137 83 (by decide))
      have w_r12_2 : (hr12 137 2).toInt = (hr11 137 2).toInt := congrArg Int32.toInt (pA_r12.get 137 2 (by decide))
      refine lv_pop hx hb dX12_slider_71 rfl ?_
      refine lv_aload_n hx hb dX12_slider_72 rfl (lv_at hl 1 rfl) ?_
      refine lv_iload hx hb dX12_slider_73 (lv_at hl 0 rfl) ?_
      refine pk_i (pr_V M V (m_X12_numberOf l S I r11 ) km_X12_numberOf (sm_this S) pC12 lkM_X12_387 rfl hl.1 rfl (Nat.le_of_ble_eq_true rfl) ⟨Nat.le_of_ble_eq_true rfl, Nat.le_of_ble_eq_true rfl⟩ ⟨Nat.le_of_ble_eq_true rfl, Nat.le_of_ble_eq_true rfl⟩ dX12_slider_75) V (fun r13 Zr13 hr13 H locs pr13 _ _ V => ?_)
      obtain ⟨rfl, I, pA_r13⟩ := pr13
      have A := A.tr pA_r13 (by decide)
      have E9 : mE hr13 := E9.congr (pA_r13.get 137 2 (by decide)) (pA_r13.row 138 (by decide))
      have S9 : mS hr13 := S9.congr (pA_r13.get 137 56 (by decide)) (pA_r13.get 137 70 (by decide)) (pA_r13.get 137 58 (by decide)) (pA_r13.row 162 (by decide)) (pA_r13.row 163 (by decide)) (pA_r13.row 165 (by decide)) (pA_r13.row 166 (by decide))
      have K9 : mK hr13 := K9.congr (pA_r13.row 185 (by decide)) (pA_r13.row 184 (by decide))
      have w_r13_56 : (hr13 137 56).toInt = (hr12 137 56).toInt := congrArg Int32.toInt (pA_r13.get 137 56 (by decide))
      have w_r13_70 : (hr13 137 70).toInt = (hr12 137 70).toInt := congrArg Int32.toInt (pA_r13.get 137 70 (by decide))
      have w_r13_58 : (hr13 137 58).toInt = (hr12 137 58).toInt := congrArg Int32.toInt (pA_r13.get 137 58 (by decide))
      have w_r13_25 : (hr13 137 25).toInt = (hr12 137 25).toInt := congrArg Int32.toInt (pA_r13.get 137 25 (by decide))
      have w_r13_27 : (hr13 137 27).toInt = (hr12 137 27).toInt := congrArg Int32.toInt (pA_r13.get 137 27 (by decide))
      have w_r13_82 : (hr13 137 82).toInt = (hr12 137 82).toInt := congrArg Int32.toInt (pA_r13.get 137 82 (by decide))
      have w_r13_83 : (hr13 137 83).toInt = (hr12 137 83).toInt := congrArg Int32.toInt (pA_r13.get 137 83 (by decide))
      have w_r13_2 : (hr13 137 2).toInt = (hr12 137 2).toInt := congrArg Int32.toInt (pA_r13.get 137 2 (by decide))
      refine lv_iload_n hx hb dX12_slider_78 rfl (lv_at hl 4 rfl) ?_
      refine lv_iload hx hb dX12_slider_79 (lv_at hl 5 rfl) ?_
      refine pk_i (pr_S M V (m_X12_between l (Z := Z) (h := _) r13 low top) km_X12_between lkM_X12_327 rfl hl.1 rfl (Nat.le_of_ble_eq_true rfl) ⟨Nat.le_of_ble_eq_true rfl, Nat.le_of_ble_eq_true rfl⟩ ⟨Nat.le_of_ble_eq_true rfl, Nat.le_of_ble_eq_true rfl⟩ dX12_slider_81) V (fun r14 Zr14 hr14 H locs pr14 _ _ V => ?_)
      obtain ⟨rfl, rfl, fr14_0, fr14_1⟩ := pr14
      refine lv_istore (lv' := [(6, .int r14), (5, .int r11), (0, .ref (zB Z + 137)), (1, .int label), (2, .int width), (3, .int low), (4, .int top)]) hx hb dX12_slider_84 hl (by decide) rfl (fun ls hl => ?_)
      refine lv_aload_n hx hb dX12_slider_86 rfl (lv_at hl 2 rfl) ?_
      refine pg_i M V 12 19 (sm_this S) pC12 fk12_19 lkF_X12_255 dX12_slider_87 ?_
      refine lv_topi (fun v15 ev15 => ?_)
      refine lv_iload hx hb dX12_slider_90 (lv_at hl 1 rfl) ?_
      refine lv_icmp_ne (tgt := 132) hx hb dX12_slider_92 (by decide) (fun c_92 => ?_) (fun c_92 => ?_)
      · skip
        have c_92 := pi_ne c_92
        exact J_132 r11 r14 _ _ _ _ V I (A.wk (by decide)) (lv_sub hl [2, 3, 4, 5, 6, 1, 0] rfl) (show (h 137 56).toInt + (0) ≤ (hr13 137 56).toInt ∧ (hr13 137 56).toInt ≤ (h 137 56).toInt + (0) by omega) (show (h 137 70).toInt + (0) ≤ (hr13 137 70).toInt ∧ (hr13 137 70).toInt ≤ (h 137 70).toInt + (0) by omega) (show (h 137 58).toInt + (0) ≤ (hr13 137 58).toInt ∧ (hr13 137 58).toInt ≤ (h 137 58).toInt + (0) by omega) (show (h 137 25).toInt + (1) ≤ (hr13 137 25).toInt ∧ (hr13 137 25).toInt ≤ (h 137 25).toInt + (1) by omega) (show (h 137 27).toInt + (1) ≤ (hr13 137 27).toInt ∧ (hr13 137 27).toInt ≤ (h 137 27).toInt + (1) by omega) (show (h 137 82).toInt + (0) ≤ (hr13 137 82).toInt ∧ (hr13 137 82).toInt ≤ (h 137 82).toInt + (0) by omega) (show (h 137 83).toInt + (0) ≤ (hr13 137 83).toInt ∧ (hr13 137 83).toInt ≤ (h 137 83).toInt + (0) by omega) (show (h 137 2).toInt + (0) ≤ (hr13 137 2).toInt ∧ (hr13 137 2).toInt ≤ (h 137 2).toInt + (0) by omega) (by omega) (E9.congr rfl rfl) (S9.congr rfl rfl rfl rfl rfl rfl rfl) (K9.congr rfl rfl) 
      · skip
        have c_92 := pi_eq.mp c_92
        refine lv_aload_n hx hb dX12_slider_95 rfl (lv_at hl 2 rfl) ?_
        refine pg_i M V 12 9 (sm_this S) pC12 fk12_9 lkF_X12_198 dX12_slider_96 ?_
        refine lv_topi (fun v16 ev16 => ?_)
        have tv16 : 0 ≤ v16.toInt ∧ v16.toInt ≤ 1 := by rw [ev16]; exact I.get (sm_this S) 9
        refine lv_if_eq (tgt := 132) hx hb dX12_slider_99 (by decide) (fun c_99 => ?_) (fun c_99 => ?_)
        · skip
          have c_99 := pi_eq.mp c_99
          exact J_132 r11 r14 _ _ _ _ V I (A.wk (by decide)) (lv_sub hl [2, 3, 4, 5, 6, 1, 0] rfl) (show (h 137 56).toInt + (0) ≤ (hr13 137 56).toInt ∧ (hr13 137 56).toInt ≤ (h 137 56).toInt + (0) by omega) (show (h 137 70).toInt + (0) ≤ (hr13 137 70).toInt ∧ (hr13 137 70).toInt ≤ (h 137 70).toInt + (0) by omega) (show (h 137 58).toInt + (0) ≤ (hr13 137 58).toInt ∧ (hr13 137 58).toInt ≤ (h 137 58).toInt + (0) by omega) (show (h 137 25).toInt + (1) ≤ (hr13 137 25).toInt ∧ (hr13 137 25).toInt ≤ (h 137 25).toInt + (1) by omega) (show (h 137 27).toInt + (1) ≤ (hr13 137 27).toInt ∧ (hr13 137 27).toInt ≤ (h 137 27).toInt + (1) by omega) (show (h 137 82).toInt + (0) ≤ (hr13 137 82).toInt ∧ (hr13 137 82).toInt ≤ (h 137 82).toInt + (0) by omega) (show (h 137 83).toInt + (0) ≤ (hr13 137 83).toInt ∧ (hr13 137 83).toInt ≤ (h 137 83).toInt + (0) by omega) (show (h 137 2).toInt + (0) ≤ (hr13 137 2).toInt ∧ (hr13 137 2).toInt ≤ (h 137 2).toInt + (0) by omega) (by omega) (E9.congr rfl rfl) (S9.congr rfl rfl rfl rfl rfl rfl rfl) (K9.congr rfl rfl) 
        · skip
          have c_99 := pi_ne c_99
          refine lv_iload_n hx hb dX12_slider_102 rfl (lv_at hl 5 rfl) ?_
          refine lv_aload_n hx hb dX12_slider_103 rfl (lv_at hl 2 rfl) ?_
          refine pg_i M V 12 3 (sm_this S) pC12 fk12_3 lkF_X12_192 dX12_slider_104 ?_
          refine lv_topi (fun v17 ev17 => ?_)
          refine lv_aload_n hx hb dX12_slider_107 rfl (lv_at hl 2 rfl) ?_
          refine pg_r M V 12 73 (sm_this S) pC12 fk12_73 (sm_item S).2.2 lkF_X12_150 dX12_slider_108 ?_
          refine lv_iconst (v := 0) hx hb dX12_slider_111 (by decide) ?_
          refine pa_i M V (sm_item S).1 (by rw [(sm_item S).2.1]; exact pi_in (by omega)) dX12_slider_112 ?_
          refine lv_topi (fun v18 ev18 => ?_)
          refine lv_isub hx hb dX12_slider_113 ?_
          refine lv_topi (fun v19 ev19 => ?_)
          refine lv_iload hx hb dX12_slider_114 (lv_at hl 6 rfl) ?_
          refine lv_iload_n hx hb dX12_slider_116 rfl (lv_at hl 5 rfl) ?_
          refine lv_isub hx hb dX12_slider_117 ?_
          refine lv_topi (fun v20 ev20 => ?_)
          refine lv_imul hx hb dX12_slider_118 ?_
          refine lv_topi (fun v21 ev21 => ?_)
          refine lv_iload_n hx hb dX12_slider_119 rfl (lv_at hl 4 rfl) ?_
          refine lv_iconst (v := 1) hx hb dX12_slider_120 (by decide) ?_
          refine lv_isub hx hb dX12_slider_121 ?_
          refine lv_topi (fun v22 ev22 => ?_)
          have k_1 : (1 : Int32).toInt = 1 := rfl
          have tv22 : v22.toInt = width.toInt - 1 := by rw [ev22]; have z9 := pi_sub (x := width) (y := (1 : Int32)); rw [k_1] at z9; exact z9 (by omega)
          refine lv_idiv hx hb dX12_slider_122 (fun z9 => by have z9 := pi_eq.mp z9; omega) ?_
          refine lv_topi (fun v23 ev23 => ?_)
          refine lv_iadd hx hb dX12_slider_123 ?_
          refine lv_topi (fun v24 ev24 => ?_)
          refine lv_iload_n hx hb dX12_slider_124 rfl (lv_at hl 5 rfl) ?_
          refine lv_iload hx hb dX12_slider_125 (lv_at hl 6 rfl) ?_
          refine pk_i (pr_S M V (m_X12_between l (Z := Z) (h := _) v24 low top) km_X12_between lkM_X12_327 rfl hl.1 rfl (Nat.le_of_ble_eq_true rfl) ⟨Nat.le_of_ble_eq_true rfl, Nat.le_of_ble_eq_true rfl⟩ ⟨Nat.le_of_ble_eq_true rfl, Nat.le_of_ble_eq_true rfl⟩ dX12_slider_127) V (fun r25 Zr25 hr25 H locs pr25 _ _ V => ?_)
          obtain ⟨rfl, rfl, fr25_0, fr25_1⟩ := pr25
          refine lv_istore (lv' := [(6, .int r25), (5, .int r11), (0, .ref (zB Z + 137)), (1, .int label), (2, .int width), (3, .int low), (4, .int top)]) hx hb dX12_slider_130 hl (by decide) rfl (fun ls hl => ?_)
          exact J_132 r11 r25 _ _ _ _ V I (A.wk (by decide)) (lv_sub hl [2, 3, 4, 5, 6, 1, 0] rfl) (show (h 137 56).toInt + (0) ≤ (hr13 137 56).toInt ∧ (hr13 137 56).toInt ≤ (h 137 56).toInt + (0) by omega) (show (h 137 70).toInt + (0) ≤ (hr13 137 70).toInt ∧ (hr13 137 70).toInt ≤ (h 137 70).toInt + (0) by omega) (show (h 137 58).toInt + (0) ≤ (hr13 137 58).toInt ∧ (hr13 137 58).toInt ≤ (h 137 58).toInt + (0) by omega) (show (h 137 25).toInt + (1) ≤ (hr13 137 25).toInt ∧ (hr13 137 25).toInt ≤ (h 137 25).toInt + (1) by omega) (show (h 137 27).toInt + (1) ≤ (hr13 137 27).toInt ∧ (hr13 137 27).toInt ≤ (h 137 27).toInt + (1) by omega) (show (h 137 82).toInt + (0) ≤ (hr13 137 82).toInt ∧ (hr13 137 82).toInt ≤ (h 137 82).toInt + (0) by omega) (show (h 137 83).toInt + (0) ≤ (hr13 137 83).toInt ∧ (hr13 137 83).toInt ≤ (h 137 83).toInt + (0) by omega) (show (h 137 2).toInt + (0) ≤ (hr13 137 2).toInt ∧ (hr13 137 2).toInt ≤ (h 137 2).toInt + (0) by omega) (by omega) (E9.congr rfl rfl) (S9.congr rfl rfl rfl rfl rfl rfl rfl) (K9.congr rfl rfl) 
    · skip
      have k_0 : (0 : Int32).toInt = 0 := rfl
      have c_50 := pi_ne c_50
      have A := A.wk (l3 := [(137, 0), (137, 18), (137, 19), (137, 20), (137, 22), (137, 21), (137, 23), (137, 40), (137, 48), (137, 56), (137, 58), (137, 70), (137, 71), (153, 1000)]) (by decide)
      have A := A.tr pA_r10 (by decide)
      have E9 : mE hr10 := E9.congr (pA_r10.get 137 2 (by decide)) (pA_r10.row 138 (by decide))
      have S9 : mS hr10 := fr10_2 (S9.congr rfl rfl rfl rfl rfl rfl rfl)
      have K9 : mK hr10 := K9.congr (pA_r10.row 185 (by decide)) (pA_r10.row 184 (by decide))
      have w_r10_25 : (hr10 137 25).toInt = (hJ 137 25).toInt := congrArg Int32.toInt (pA_r10.get 137 25 (by decide))
      have w_r10_27 : (hr10 137 27).toInt = (hJ 137 27).toInt := congrArg Int32.toInt (pA_r10.get 137 27 (by decide))
      have w_r10_82 : (hr10 137 82).toInt = (hJ 137 82).toInt := congrArg Int32.toInt (pA_r10.get 137 82 (by decide))
      have w_r10_83 : (hr10 137 83).toInt = (hJ 137 83).toInt := congrArg Int32.toInt (pA_r10.get 137 83 (by decide))
      have w_r10_2 : (hr10 137 2).toInt = (hJ 137 2).toInt := congrArg Int32.toInt (pA_r10.get 137 2 (by decide))
      refine lv_iconst (v := 0) hx hb dX12_slider_53 (by decide) ?_
      exact pe_i M V rfl rfl hr hlk rfl ⟨rfl, I, A.wk (by decide), (E9.congr rfl rfl), (S9.congr rfl rfl rfl rfl rfl rfl rfl), (K9.congr rfl rfl), (show (h 137 25).toInt + (0) ≤ (hr10 137 25).toInt ∧ (hr10 137 25).toInt ≤ (h 137 25).toInt + (1) by omega), (show (h 137 27).toInt + (0) ≤ (hr10 137 27).toInt ∧ (hr10 137 27).toInt ≤ (h 137 27).toInt + (1) by omega), (show (h 137 82).toInt + (0) ≤ (hr10 137 82).toInt ∧ (hr10 137 82).toInt ≤ (h 137 82).toInt + (4) by omega)⟩ ⟨Nat.le_refl _, Nat.le_refl _⟩ dX12_slider_54
  have J_46 : ∀ (hJ : pH) (H : Heap) (locs : List Loc) (ls : Array Slot), pV Z hJ s.heap H locs → Iv Z hJ → agr [] h hJ → lv_has ls 7 [(0, .ref (zB Z + 137)), (1, .int label), (2, .int width), (3, .int low), (4, .int top)] → ((h 137 56).toInt + (0) ≤ (hJ 137 56).toInt ∧ (hJ 137 56).toInt ≤ (h 137 56).toInt + (0)) → ((h 137 70).toInt + (0) ≤ (hJ 137 70).toInt ∧ (hJ 137 70).toInt ≤ (h 137 70).toInt + (0)) → ((h 137 58).toInt + (0) ≤ (hJ 137 58).toInt ∧ (hJ 137 58).toInt ≤ (h 137 58).toInt + (0)) → ((h 137 25).toInt + (0) ≤ (hJ 137 25).toInt ∧ (hJ 137 25).toInt ≤ (h 137 25).toInt + (0)) → ((h 137 27).toInt + (0) ≤ (hJ 137 27).toInt ∧ (hJ 137 27).toInt ≤ (h 137 27).toInt + (0)) → ((h 137 82).toInt + (0) ≤ (hJ 137 82).toInt ∧ (hJ 137 82).toInt ≤ (h 137 82).toInt + (0)) → ((h 137 83).toInt + (0) ≤ (hJ 137 83).toInt ∧ (hJ 137 83).toInt ≤ (h 137 83).toInt + (0)) → ((h 137 2).toInt + (0) ≤ (hJ 137 2).toInt ∧ (hJ 137 2).toInt ≤ (h 137 2).toInt + (0)) → mE hJ → mS hJ → mK hJ → W p l e (pRm 4 0 0 101) s m ([.ref (zB Z + 137), .int label, .int width, .int low, .int top] : List Value).toArray below meth c H locs 0 0 (MQ below (pQi Z (fun r Z1 h1 => Z = Z1 ∧ Iv Z h1 ∧ agr [(137, 0), (137, 18), (137, 19), (137, 20), (137, 22), (137, 21), (137, 23), (137, 40), (137, 48), (137, 56), (137, 58), (137, 70), (137, 71), (153, 1000), (180, 1000), (172, 1000), (173, 1000), (171, 1000), (174, 1000), (175, 1000), (176, 1000), (177, 1000), (137, 25), (143, 1000), (137, 28), (137, 27), (144, 1000), (137, 82), (186, 1000), (137, 79), (181, 1000), (182, 1000), (184, 1000), (185, 1000)] h h1 ∧ (mE h1) ∧ (mS h1) ∧ (mK h1) ∧ ((h 137 25).toInt + (0) ≤ (h1 137 25).toInt ∧ (h1 137 25).toInt ≤ (h 137 25).toInt + (1)) ∧ ((h 137 27).toInt + (0) ≤ (h1 137 27).toInt ∧ (h1 137 27).toInt ≤ (h 137 27).toInt + (1)) ∧ ((h 137 82).toInt + (0) ≤ (h1 137 82).toInt ∧ (h1 137 82).toInt ≤ (h 137 82).toInt + (4)))) ([.ref (zB Z + 137), .int label, .int width, .int low, .int top] : List Value).toArray s 0 0 (pA (zB Z))) (F0 m 46 ls [.ref (zB Z + 137)]) := by
    intro hJ H locs ls V I A hl gd_46_56 gd_46_70 gd_46_58 gd_46_25 gd_46_27 gd_46_82 gd_46_83 gd_46_2 E9 S9 K9
    refine lv_iconst (v := 0) hx hb dX12_slider_46 (by decide) ?_
    have k_0 : (0 : Int32).toInt = 0 := rfl
    exact J_47 (0 : Int32) _ _ _ _ V I (A.wk (by decide)) (lv_sub hl [0, 1, 2, 3, 4] rfl) (by omega) (show (h 137 56).toInt + (0) ≤ (hJ 137 56).toInt ∧ (hJ 137 56).toInt ≤ (h 137 56).toInt + (0) by omega) (show (h 137 70).toInt + (0) ≤ (hJ 137 70).toInt ∧ (hJ 137 70).toInt ≤ (h 137 70).toInt + (0) by omega) (show (h 137 58).toInt + (0) ≤ (hJ 137 58).toInt ∧ (hJ 137 58).toInt ≤ (h 137 58).toInt + (0) by omega) (show (h 137 25).toInt + (0) ≤ (hJ 137 25).toInt ∧ (hJ 137 25).toInt ≤ (h 137 25).toInt + (0) by omega) (show (h 137 27).toInt + (0) ≤ (hJ 137 27).toInt ∧ (hJ 137 27).toInt ≤ (h 137 27).toInt + (0) by omega) (show (h 137 82).toInt + (0) ≤ (hJ 137 82).toInt ∧ (hJ 137 82).toInt ≤ (h 137 82).toInt + (0) by omega) (show (h 137 83).toInt + (0) ≤ (hJ 137 83).toInt ∧ (hJ 137 83).toInt ≤ (h 137 83).toInt + (0) by omega) (show (h 137 2).toInt + (0) ≤ (hJ 137 2).toInt ∧ (hJ 137 2).toInt ≤ (h 137 2).toInt + (0) by omega) (by omega) (E9.congr rfl rfl) (S9.congr rfl rfl rfl rfl rfl rfl rfl) (K9.congr rfl rfl) 
  refine lv_aload_n hx hb dX12_slider_0 rfl (lv_at hl 0 rfl) ?_
  refine lv_aload_n hx hb dX12_slider_1 rfl (lv_at hl 0 rfl) ?_
  refine lv_iload_n hx hb dX12_slider_2 rfl (lv_at hl 1 rfl) ?_
  refine pk_i (pr_V M V (m_X12_isLabel l S I label) km_X12_isLabel (sm_this S) pC12 lkM_X12_343 rfl hl.1 rfl (Nat.le_of_ble_eq_true rfl) ⟨Nat.le_of_ble_eq_true rfl, Nat.le_of_ble_eq_true rfl⟩ ⟨Nat.le_of_ble_eq_true rfl, Nat.le_of_ble_eq_true rfl⟩ dX12_slider_3) V (fun r26 Zr26 hr26 H locs pr26 _ _ V => ?_)
  obtain ⟨rfl, rfl, fr26_0⟩ := pr26
  refine lv_if_eq (tgt := 46) hx hb dX12_slider_6 (by decide) (fun c_6 => ?_) (fun c_6 => ?_)
  · skip
    have k_0 : (0 : Int32).toInt = 0 := rfl
    have c_6 := pi_eq.mp c_6
    exact J_46 _ _ _ _ V I (A.wk (by decide)) (lv_sub hl [0, 1, 2, 3, 4] rfl) (show (h 137 56).toInt + (0) ≤ (h 137 56).toInt ∧ (h 137 56).toInt ≤ (h 137 56).toInt + (0) by omega) (show (h 137 70).toInt + (0) ≤ (h 137 70).toInt ∧ (h 137 70).toInt ≤ (h 137 70).toInt + (0) by omega) (show (h 137 58).toInt + (0) ≤ (h 137 58).toInt ∧ (h 137 58).toInt ≤ (h 137 58).toInt + (0) by omega) (show (h 137 25).toInt + (0) ≤ (h 137 25).toInt ∧ (h 137 25).toInt ≤ (h 137 25).toInt + (0) by omega) (show (h 137 27).toInt + (0) ≤ (h 137 27).toInt ∧ (h 137 27).toInt ≤ (h 137 27).toInt + (0) by omega) (show (h 137 82).toInt + (0) ≤ (h 137 82).toInt ∧ (h 137 82).toInt ≤ (h 137 82).toInt + (0) by omega) (show (h 137 83).toInt + (0) ≤ (h 137 83).toInt ∧ (h 137 83).toInt ≤ (h 137 83).toInt + (0) by omega) (show (h 137 2).toInt + (0) ≤ (h 137 2).toInt ∧ (h 137 2).toInt ≤ (h 137 2).toInt + (0) by omega) (E9.congr rfl rfl) (S9.congr rfl rfl rfl rfl rfl rfl rfl) (K9.congr rfl rfl) 
  · skip
    have k_0 : (0 : Int32).toInt = 0 := rfl
    have c_6 := pi_ne c_6
    refine lv_iload_n hx hb dX12_slider_9 rfl (lv_at hl 2 rfl) ?_
    refine lv_iconst (v := 2) hx hb dX12_slider_10 (by decide) ?_
    refine lv_icmp_lt (tgt := 46) hx hb dX12_slider_11 (by decide) (fun c_11 => ?_) (fun c_11 => ?_)
    · skip
      have k_2 : (2 : Int32).toInt = 2 := rfl
      have c_11 := pi_lt.mp c_11
      exact J_46 _ _ _ _ V I (A.wk (by decide)) (lv_sub hl [0, 1, 2, 3, 4] rfl) (show (h 137 56).toInt + (0) ≤ (h 137 56).toInt ∧ (h 137 56).toInt ≤ (h 137 56).toInt + (0) by omega) (show (h 137 70).toInt + (0) ≤ (h 137 70).toInt ∧ (h 137 70).toInt ≤ (h 137 70).toInt + (0) by omega) (show (h 137 58).toInt + (0) ≤ (h 137 58).toInt ∧ (h 137 58).toInt ≤ (h 137 58).toInt + (0) by omega) (show (h 137 25).toInt + (0) ≤ (h 137 25).toInt ∧ (h 137 25).toInt ≤ (h 137 25).toInt + (0) by omega) (show (h 137 27).toInt + (0) ≤ (h 137 27).toInt ∧ (h 137 27).toInt ≤ (h 137 27).toInt + (0) by omega) (show (h 137 82).toInt + (0) ≤ (h 137 82).toInt ∧ (h 137 82).toInt ≤ (h 137 82).toInt + (0) by omega) (show (h 137 83).toInt + (0) ≤ (h 137 83).toInt ∧ (h 137 83).toInt ≤ (h 137 83).toInt + (0) by omega) (show (h 137 2).toInt + (0) ≤ (h 137 2).toInt ∧ (h 137 2).toInt ≤ (h 137 2).toInt + (0) by omega) (E9.congr rfl rfl) (S9.congr rfl rfl rfl rfl rfl rfl rfl) (K9.congr rfl rfl) 
    · skip
      have k_2 : (2 : Int32).toInt = 2 := rfl
      have c_11 := pi_lt' c_11
      refine lv_iload_n hx hb dX12_slider_14 rfl (lv_at hl 2 rfl) ?_
      refine lv_sipush (v := 200) hx hb dX12_slider_15 (by decide) ?_
      refine lv_icmp_gt (tgt := 46) hx hb dX12_slider_18 (by decide) (fun c_18 => ?_) (fun c_18 => ?_)
      · skip
        have k_200 : (200 : Int32).toInt = 200 := rfl
        have c_18 := pi_lt.mp c_18
        exact J_46 _ _ _ _ V I (A.wk (by decide)) (lv_sub hl [0, 1, 2, 3, 4] rfl) (show (h 137 56).toInt + (0) ≤ (h 137 56).toInt ∧ (h 137 56).toInt ≤ (h 137 56).toInt + (0) by omega) (show (h 137 70).toInt + (0) ≤ (h 137 70).toInt ∧ (h 137 70).toInt ≤ (h 137 70).toInt + (0) by omega) (show (h 137 58).toInt + (0) ≤ (h 137 58).toInt ∧ (h 137 58).toInt ≤ (h 137 58).toInt + (0) by omega) (show (h 137 25).toInt + (0) ≤ (h 137 25).toInt ∧ (h 137 25).toInt ≤ (h 137 25).toInt + (0) by omega) (show (h 137 27).toInt + (0) ≤ (h 137 27).toInt ∧ (h 137 27).toInt ≤ (h 137 27).toInt + (0) by omega) (show (h 137 82).toInt + (0) ≤ (h 137 82).toInt ∧ (h 137 82).toInt ≤ (h 137 82).toInt + (0) by omega) (show (h 137 83).toInt + (0) ≤ (h 137 83).toInt ∧ (h 137 83).toInt ≤ (h 137 83).toInt + (0) by omega) (show (h 137 2).toInt + (0) ≤ (h 137 2).toInt ∧ (h 137 2).toInt ≤ (h 137 2).toInt + (0) by omega) (E9.congr rfl rfl) (S9.congr rfl rfl rfl rfl rfl rfl rfl) (K9.congr rfl rfl) 
      · skip
        have k_200 : (200 : Int32).toInt = 200 := rfl
        have c_18 := pi_lt' c_18
        refine lv_iload_n hx hb dX12_slider_21 rfl (lv_at hl 3 rfl) ?_
        refine lv_iload hx hb dX12_slider_22 (lv_at hl 4 rfl) ?_
        refine lv_icmp_ge (tgt := 46) hx hb dX12_slider_24 (by decide) (fun c_24 => ?_) (fun c_24 => ?_)
        · skip
          have c_24 := pi_le.mp c_24
          exact J_46 _ _ _ _ V I (A.wk (by decide)) (lv_sub hl [0, 1, 2, 3, 4] rfl) (show (h 137 56).toInt + (0) ≤ (h 137 56).toInt ∧ (h 137 56).toInt ≤ (h 137 56).toInt + (0) by omega) (show (h 137 70).toInt + (0) ≤ (h 137 70).toInt ∧ (h 137 70).toInt ≤ (h 137 70).toInt + (0) by omega) (show (h 137 58).toInt + (0) ≤ (h 137 58).toInt ∧ (h 137 58).toInt ≤ (h 137 58).toInt + (0) by omega) (show (h 137 25).toInt + (0) ≤ (h 137 25).toInt ∧ (h 137 25).toInt ≤ (h 137 25).toInt + (0) by omega) (show (h 137 27).toInt + (0) ≤ (h 137 27).toInt ∧ (h 137 27).toInt ≤ (h 137 27).toInt + (0) by omega) (show (h 137 82).toInt + (0) ≤ (h 137 82).toInt ∧ (h 137 82).toInt ≤ (h 137 82).toInt + (0) by omega) (show (h 137 83).toInt + (0) ≤ (h 137 83).toInt ∧ (h 137 83).toInt ≤ (h 137 83).toInt + (0) by omega) (show (h 137 2).toInt + (0) ≤ (h 137 2).toInt ∧ (h 137 2).toInt ≤ (h 137 2).toInt + (0) by omega) (E9.congr rfl rfl) (S9.congr rfl rfl rfl rfl rfl rfl rfl) (K9.congr rfl rfl) 
        · skip
          have c_24 := pi_le' c_24
          refine lv_iload_n hx hb dX12_slider_27 rfl (lv_at hl 3 rfl) ?_
          refine lv_sipush (v := (-1000)) hx hb dX12_slider_28 (by decide) ?_
          refine lv_icmp_lt (tgt := 46) hx hb dX12_slider_31 (by decide) (fun c_31 => ?_) (fun c_31 => ?_)
          · skip
            have k_m1000 : (-1000 : Int32).toInt = -1000 := rfl
            have c_31 := pi_lt.mp c_31
            exact J_46 _ _ _ _ V I (A.wk (by decide)) (lv_sub hl [0, 1, 2, 3, 4] rfl) (show (h 137 56).toInt + (0) ≤ (h 137 56).toInt ∧ (h 137 56).toInt ≤ (h 137 56).toInt + (0) by omega) (show (h 137 70).toInt + (0) ≤ (h 137 70).toInt ∧ (h 137 70).toInt ≤ (h 137 70).toInt + (0) by omega) (show (h 137 58).toInt + (0) ≤ (h 137 58).toInt ∧ (h 137 58).toInt ≤ (h 137 58).toInt + (0) by omega) (show (h 137 25).toInt + (0) ≤ (h 137 25).toInt ∧ (h 137 25).toInt ≤ (h 137 25).toInt + (0) by omega) (show (h 137 27).toInt + (0) ≤ (h 137 27).toInt ∧ (h 137 27).toInt ≤ (h 137 27).toInt + (0) by omega) (show (h 137 82).toInt + (0) ≤ (h 137 82).toInt ∧ (h 137 82).toInt ≤ (h 137 82).toInt + (0) by omega) (show (h 137 83).toInt + (0) ≤ (h 137 83).toInt ∧ (h 137 83).toInt ≤ (h 137 83).toInt + (0) by omega) (show (h 137 2).toInt + (0) ≤ (h 137 2).toInt ∧ (h 137 2).toInt ≤ (h 137 2).toInt + (0) by omega) (E9.congr rfl rfl) (S9.congr rfl rfl rfl rfl rfl rfl rfl) (K9.congr rfl rfl) 
          · skip
            have k_m1000 : (-1000 : Int32).toInt = -1000 := rfl
            have c_31 := pi_lt' c_31
            refine lv_iload hx hb dX12_slider_34 (lv_at hl 4 rfl) ?_
            refine lv_sipush (v := 1000) hx hb dX12_slider_36 (by decide) ?_
            refine lv_icmp_gt (tgt := 46) hx hb dX12_slider_39 (by decide) (fun c_39 => ?_) (fun c_39 => ?_)
            · skip
              have k_1000 : (1000 : Int32).toInt = 1000 := rfl
              have c_39 := pi_lt.mp c_39
              exact J_46 _ _ _ _ V I (A.wk (by decide)) (lv_sub hl [0, 1, 2, 3, 4] rfl) (show (h 137 56).toInt + (0) ≤ (h 137 56).toInt ∧ (h 137 56).toInt ≤ (h 137 56).toInt + (0) by omega) (show (h 137 70).toInt + (0) ≤ (h 137 70).toInt ∧ (h 137 70).toInt ≤ (h 137 70).toInt + (0) by omega) (show (h 137 58).toInt + (0) ≤ (h 137 58).toInt ∧ (h 137 58).toInt ≤ (h 137 58).toInt + (0) by omega) (show (h 137 25).toInt + (0) ≤ (h 137 25).toInt ∧ (h 137 25).toInt ≤ (h 137 25).toInt + (0) by omega) (show (h 137 27).toInt + (0) ≤ (h 137 27).toInt ∧ (h 137 27).toInt ≤ (h 137 27).toInt + (0) by omega) (show (h 137 82).toInt + (0) ≤ (h 137 82).toInt ∧ (h 137 82).toInt ≤ (h 137 82).toInt + (0) by omega) (show (h 137 83).toInt + (0) ≤ (h 137 83).toInt ∧ (h 137 83).toInt ≤ (h 137 83).toInt + (0) by omega) (show (h 137 2).toInt + (0) ≤ (h 137 2).toInt ∧ (h 137 2).toInt ≤ (h 137 2).toInt + (0) by omega) (E9.congr rfl rfl) (S9.congr rfl rfl rfl rfl rfl rfl rfl) (K9.congr rfl rfl) 
            · skip
              have k_1000 : (1000 : Int32).toInt = 1000 := rfl
              have c_39 := pi_lt' c_39
              refine lv_iconst (v := 1) hx hb dX12_slider_42 (by decide) ?_
              refine lv_goto (tgt := 47) hx hb dX12_slider_43 (by decide) ?_
              have k_1 : (1 : Int32).toInt = 1 := rfl
              exact J_47 (1 : Int32) _ _ _ _ V I (A.wk (by decide)) (lv_sub hl [0, 1, 2, 3, 4] rfl) (by omega) (show (h 137 56).toInt + (0) ≤ (h 137 56).toInt ∧ (h 137 56).toInt ≤ (h 137 56).toInt + (0) by omega) (show (h 137 70).toInt + (0) ≤ (h 137 70).toInt ∧ (h 137 70).toInt ≤ (h 137 70).toInt + (0) by omega) (show (h 137 58).toInt + (0) ≤ (h 137 58).toInt ∧ (h 137 58).toInt ≤ (h 137 58).toInt + (0) by omega) (show (h 137 25).toInt + (0) ≤ (h 137 25).toInt ∧ (h 137 25).toInt ≤ (h 137 25).toInt + (0) by omega) (show (h 137 27).toInt + (0) ≤ (h 137 27).toInt ∧ (h 137 27).toInt ≤ (h 137 27).toInt + (0) by omega) (show (h 137 82).toInt + (0) ≤ (h 137 82).toInt ∧ (h 137 82).toInt ≤ (h 137 82).toInt + (0) by omega) (show (h 137 83).toInt + (0) ≤ (h 137 83).toInt ∧ (h 137 83).toInt ≤ (h 137 83).toInt + (0) by omega) (show (h 137 2).toInt + (0) ≤ (h 137 2).toInt ∧ (h 137 2).toInt ≤ (h 137 2).toInt + (0) by omega) (by omega) (E9.congr rfl rfl) (S9.congr rfl rfl rfl rfl rfl rfl rfl) (K9.congr rfl rfl) 
