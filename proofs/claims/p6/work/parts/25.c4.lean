theorem dX3_paneOf_0 : decode cX3_paneOf 0 = .ok (.iload_n 1, 1) := by decide +kernel
theorem dX3_paneOf_1 : decode cX3_paneOf 1 = .ok (.iconst 0, 1) := by decide +kernel
theorem dX3_paneOf_2 : decode cX3_paneOf 2 = .ok (.bipush 7, 2) := by decide +kernel
theorem dX3_paneOf_4 : decode cX3_paneOf 4 = .ok (.invokestatic 38, 3) := by decide +kernel
theorem dX3_paneOf_7 : decode cX3_paneOf 7 = .ok (.ifCond .eq 12, 3) := by decide +kernel
theorem dX3_paneOf_10 : decode cX3_paneOf 10 = .ok (.aload_n 0, 1) := by decide +kernel
theorem dX3_paneOf_11 : decode cX3_paneOf 11 = .ok (.getfield 11, 3) := by decide +kernel
theorem dX3_paneOf_14 : decode cX3_paneOf 14 = .ok (.iload_n 1, 1) := by decide +kernel
theorem dX3_paneOf_15 : decode cX3_paneOf 15 = .ok (.aaload, 1) := by decide +kernel
theorem dX3_paneOf_16 : decode cX3_paneOf 16 = .ok (.goto 7, 3) := by decide +kernel
theorem dX3_paneOf_19 : decode cX3_paneOf 19 = .ok (.aload_n 0, 1) := by decide +kernel
theorem dX3_paneOf_20 : decode cX3_paneOf 20 = .ok (.getfield 20, 3) := by decide +kernel
theorem dX3_paneOf_23 : decode cX3_paneOf 23 = .ok (.astore_n 2, 1) := by decide +kernel
theorem dX3_paneOf_24 : decode cX3_paneOf 24 = .ok (.aload_n 2, 1) := by decide +kernel
theorem dX3_paneOf_25 : decode cX3_paneOf 25 = .ok (.ifnonnull 10, 3) := by decide +kernel
theorem dX3_paneOf_28 : decode cX3_paneOf 28 = .ok (.aload_n 0, 1) := by decide +kernel
theorem dX3_paneOf_29 : decode cX3_paneOf 29 = .ok (.getfield 20, 3) := by decide +kernel
theorem dX3_paneOf_32 : decode cX3_paneOf 32 = .ok (.goto 4, 3) := by decide +kernel
theorem dX3_paneOf_35 : decode cX3_paneOf 35 = .ok (.aload_n 2, 1) := by decide +kernel
theorem dX3_paneOf_36 : decode cX3_paneOf 36 = .ok (.areturn, 1) := by decide +kernel
set_option maxHeartbeats 4000000 in
set_option maxRecDepth 100000 in
theorem m_X3_paneOf (l : Launch) {Z : pZ} (S : pSh Z) {h : pH} (I : Iv Z h) (number : Int32)  : pMet l yX3_paneOf cX3_paneOf 3 (some (.object "PanelFrames$Pane")) 1 0 0 22 Z h [.ref (zB Z + 10), .int number] (pQr Z (fun o1 Z1 h1 => Z = Z1 ∧ h = h1 ∧ pIs Z o1 7)) := by
  refine pOfW (lv := [(0, .ref (zB Z + 10)), (1, .int number)]) (by decide) (Nat.le_of_ble_eq_true rfl) rfl ?_
  intro p e s m below meth c ls M hr hlk hnm V hl
  have hx := M.1.1
  have hb := M.1.2.1
  refine lv_iload_n hx hb dX3_paneOf_0 rfl (lv_at hl 1 rfl) ?_
  refine lv_iconst (v := 0) hx hb dX3_paneOf_1 (by decide) ?_
  refine lv_bipush (v := 7) hx hb dX3_paneOf_2 (by decide) ?_
  have k_0 : (0 : Int32).toInt = 0 := rfl
  have k_7 : (7 : Int32).toInt = 7 := rfl
  refine pk_i (pr_SN M V (m_X11_isWithin l (Z := Z) (h := _) number (0 : Int32) (7 : Int32)) km_X11_isWithin lkN_X3_38 rfl hl.1 rfl (Nat.le_of_ble_eq_true rfl) ⟨Nat.le_of_ble_eq_true rfl, Nat.le_of_ble_eq_true rfl⟩ ⟨Nat.le_of_ble_eq_true rfl, Nat.le_of_ble_eq_true rfl⟩ dX3_paneOf_4) V (fun r1 Zr1 hr1 H locs pr1 _ _ V => ?_)
  obtain ⟨rfl, rfl, fr1_0⟩ := pr1
  refine lv_if_eq (tgt := 19) hx hb dX3_paneOf_7 (by decide) (fun c_7 => ?_) (fun c_7 => ?_)
  · skip
    have c_7 := pi_eq.mp c_7
    refine lv_aload_n hx hb dX3_paneOf_19 rfl (lv_at hl 0 rfl) ?_
    refine pg_r M V 3 1 (c_is_10 S) pC3 fk3_1 (c_r_10_1 S) lkF_X3_20 dX3_paneOf_20 ?_
    refine lv_astore_n (lv' := [(2, .ref (zB Z + 12)), (0, .ref (zB Z + 10)), (1, .int number)]) hx hb dX3_paneOf_23 rfl hl (by decide) rfl (fun ls hl => ?_)
    refine lv_aload_n hx hb dX3_paneOf_24 rfl (lv_at hl 0 rfl) ?_
    refine lv_ifnonnull (tgt := 35) hx hb dX3_paneOf_25 (by decide) ?_
    refine lv_aload_n hx hb dX3_paneOf_35 rfl (lv_at hl 0 rfl) ?_
    exact pe_r M V rfl rfl hr (Or.inl ⟨_, rfl⟩) hlk ⟨rfl, rfl, (c_is_12 S)⟩ ⟨Nat.le_refl _, Nat.le_refl _⟩ dX3_paneOf_36
  · skip
    have c_7 := pi_ne c_7
    refine lv_aload_n hx hb dX3_paneOf_10 rfl (lv_at hl 0 rfl) ?_
    refine pg_r M V 3 0 (c_is_10 S) pC3 fk3_0 (c_r_10_0 S) lkF_X3_11 dX3_paneOf_11 ?_
    refine lv_iload_n hx hb dX3_paneOf_14 rfl (lv_at hl 1 rfl) ?_
    refine pa_r M V (ca := 17) (CN := RX7) (c_is_11 S) (by decide) rfl (by rw [c_n_11 S]; exact pi_in (by omega)) (pane_ri S (i := number) (by omega)) dX3_paneOf_15 ?_
    have q_15 := pane_ii S (i := number) (by omega)
    refine lv_goto (tgt := 23) hx hb dX3_paneOf_16 (by decide) ?_
    refine lv_astore_n (lv' := [(2, .ref (zB Z + (14 + number.toNatClampNeg))), (0, .ref (zB Z + 10)), (1, .int number)]) hx hb dX3_paneOf_23 rfl hl (by decide) rfl (fun ls hl => ?_)
    refine lv_aload_n hx hb dX3_paneOf_24 rfl (lv_at hl 0 rfl) ?_
    refine lv_ifnonnull (tgt := 35) hx hb dX3_paneOf_25 (by decide) ?_
    refine lv_aload_n hx hb dX3_paneOf_35 rfl (lv_at hl 0 rfl) ?_
    exact pe_r M V rfl rfl hr (Or.inl ⟨_, rfl⟩) hlk ⟨rfl, rfl, q_15⟩ ⟨Nat.le_refl _, Nat.le_refl _⟩ dX3_paneOf_36
theorem dX6_clipOf_0 : decode cX6_clipOf 0 = .ok (.iload_n 1, 1) := by decide +kernel
theorem dX6_clipOf_1 : decode cX6_clipOf 1 = .ok (.iconst 0, 1) := by decide +kernel
theorem dX6_clipOf_2 : decode cX6_clipOf 2 = .ok (.bipush 7, 2) := by decide +kernel
theorem dX6_clipOf_4 : decode cX6_clipOf 4 = .ok (.invokestatic 65, 3) := by decide +kernel
theorem dX6_clipOf_7 : decode cX6_clipOf 7 = .ok (.ifCond .eq 12, 3) := by decide +kernel
theorem dX6_clipOf_10 : decode cX6_clipOf 10 = .ok (.aload_n 0, 1) := by decide +kernel
theorem dX6_clipOf_11 : decode cX6_clipOf 11 = .ok (.getfield 23, 3) := by decide +kernel
theorem dX6_clipOf_14 : decode cX6_clipOf 14 = .ok (.iload_n 1, 1) := by decide +kernel
theorem dX6_clipOf_15 : decode cX6_clipOf 15 = .ok (.aaload, 1) := by decide +kernel
theorem dX6_clipOf_16 : decode cX6_clipOf 16 = .ok (.goto 7, 3) := by decide +kernel
theorem dX6_clipOf_19 : decode cX6_clipOf 19 = .ok (.aload_n 0, 1) := by decide +kernel
theorem dX6_clipOf_20 : decode cX6_clipOf 20 = .ok (.getfield 28, 3) := by decide +kernel
theorem dX6_clipOf_23 : decode cX6_clipOf 23 = .ok (.astore_n 2, 1) := by decide +kernel
theorem dX6_clipOf_24 : decode cX6_clipOf 24 = .ok (.aload_n 2, 1) := by decide +kernel
theorem dX6_clipOf_25 : decode cX6_clipOf 25 = .ok (.ifnonnull 10, 3) := by decide +kernel
theorem dX6_clipOf_28 : decode cX6_clipOf 28 = .ok (.aload_n 0, 1) := by decide +kernel
theorem dX6_clipOf_29 : decode cX6_clipOf 29 = .ok (.getfield 28, 3) := by decide +kernel
theorem dX6_clipOf_32 : decode cX6_clipOf 32 = .ok (.goto 4, 3) := by decide +kernel
theorem dX6_clipOf_35 : decode cX6_clipOf 35 = .ok (.aload_n 2, 1) := by decide +kernel
theorem dX6_clipOf_36 : decode cX6_clipOf 36 = .ok (.areturn, 1) := by decide +kernel
set_option maxHeartbeats 4000000 in
set_option maxRecDepth 100000 in
theorem m_X6_clipOf (l : Launch) {Z : pZ} (S : pSh Z) {h : pH} (I : Iv Z h) (number : Int32)  : pMet l yX6_clipOf cX6_clipOf 3 (some (.object "PanelFrames$Box")) 1 0 0 22 Z h [.ref (zB Z + 22), .int number] (pQr Z (fun o1 Z1 h1 => Z = Z1 ∧ h = h1 ∧ pIs Z o1 2)) := by
  refine pOfW (lv := [(0, .ref (zB Z + 22)), (1, .int number)]) (by decide) (Nat.le_of_ble_eq_true rfl) rfl ?_
  intro p e s m below meth c ls M hr hlk hnm V hl
  have hx := M.1.1
  have hb := M.1.2.1
  refine lv_iload_n hx hb dX6_clipOf_0 rfl (lv_at hl 1 rfl) ?_
  refine lv_iconst (v := 0) hx hb dX6_clipOf_1 (by decide) ?_
  refine lv_bipush (v := 7) hx hb dX6_clipOf_2 (by decide) ?_
  have k_0 : (0 : Int32).toInt = 0 := rfl
  have k_7 : (7 : Int32).toInt = 7 := rfl
  refine pk_i (pr_SN M V (m_X11_isWithin l (Z := Z) (h := _) number (0 : Int32) (7 : Int32)) km_X11_isWithin lkN_X6_65 rfl hl.1 rfl (Nat.le_of_ble_eq_true rfl) ⟨Nat.le_of_ble_eq_true rfl, Nat.le_of_ble_eq_true rfl⟩ ⟨Nat.le_of_ble_eq_true rfl, Nat.le_of_ble_eq_true rfl⟩ dX6_clipOf_4) V (fun r1 Zr1 hr1 H locs pr1 _ _ V => ?_)
  obtain ⟨rfl, rfl, fr1_0⟩ := pr1
  refine lv_if_eq (tgt := 19) hx hb dX6_clipOf_7 (by decide) (fun c_7 => ?_) (fun c_7 => ?_)
  · skip
    have c_7 := pi_eq.mp c_7
    refine lv_aload_n hx hb dX6_clipOf_19 rfl (lv_at hl 0 rfl) ?_
    refine pg_r M V 6 4 (c_is_22 S) pC6 fk6_4 (c_r_22_4 S) lkF_X6_28 dX6_clipOf_20 ?_
    refine lv_astore_n (lv' := [(2, .ref (zB Z + 27)), (0, .ref (zB Z + 22)), (1, .int number)]) hx hb dX6_clipOf_23 rfl hl (by decide) rfl (fun ls hl => ?_)
    refine lv_aload_n hx hb dX6_clipOf_24 rfl (lv_at hl 0 rfl) ?_
    refine lv_ifnonnull (tgt := 35) hx hb dX6_clipOf_25 (by decide) ?_
    refine lv_aload_n hx hb dX6_clipOf_35 rfl (lv_at hl 0 rfl) ?_
    exact pe_r M V rfl rfl hr (Or.inl ⟨_, rfl⟩) hlk ⟨rfl, rfl, (c_is_27 S)⟩ ⟨Nat.le_refl _, Nat.le_refl _⟩ dX6_clipOf_36
  · skip
    have c_7 := pi_ne c_7
    refine lv_aload_n hx hb dX6_clipOf_10 rfl (lv_at hl 0 rfl) ?_
    refine pg_r M V 6 3 (c_is_22 S) pC6 fk6_3 (c_r_22_3 S) lkF_X6_23 dX6_clipOf_11 ?_
    refine lv_iload_n hx hb dX6_clipOf_14 rfl (lv_at hl 1 rfl) ?_
    refine pa_r M V (ca := 16) (CN := RX2) (c_is_26 S) (by decide) rfl (by rw [c_n_26 S]; exact pi_in (by omega)) (box_ri S (i := number) (by omega)) dX6_clipOf_15 ?_
    have q_15 := box_ii S (i := number) (by omega)
    refine lv_goto (tgt := 23) hx hb dX6_clipOf_16 (by decide) ?_
    refine lv_astore_n (lv' := [(2, .ref (zB Z + (28 + number.toNatClampNeg))), (0, .ref (zB Z + 22)), (1, .int number)]) hx hb dX6_clipOf_23 rfl hl (by decide) rfl (fun ls hl => ?_)
    refine lv_aload_n hx hb dX6_clipOf_24 rfl (lv_at hl 0 rfl) ?_
    refine lv_ifnonnull (tgt := 35) hx hb dX6_clipOf_25 (by decide) ?_
    refine lv_aload_n hx hb dX6_clipOf_35 rfl (lv_at hl 0 rfl) ?_
    exact pe_r M V rfl rfl hr (Or.inl ⟨_, rfl⟩) hlk ⟨rfl, rfl, q_15⟩ ⟨Nat.le_refl _, Nat.le_refl _⟩ dX6_clipOf_36
theorem dX8_area_0 : decode cX8_area 0 = .ok (.aload_n 0, 1) := by decide +kernel
theorem dX8_area_1 : decode cX8_area 1 = .ok (.getfield 33, 3) := by decide +kernel
theorem dX8_area_4 : decode cX8_area 4 = .ok (.iconst 1, 1) := by decide +kernel
theorem dX8_area_5 : decode cX8_area 5 = .ok (.bipush 40, 2) := by decide +kernel
theorem dX8_area_7 : decode cX8_area 7 = .ok (.invokestatic 40, 3) := by decide +kernel
theorem dX8_area_10 : decode cX8_area 10 = .ok (.ifCond .eq 17, 3) := by decide +kernel
theorem dX8_area_13 : decode cX8_area 13 = .ok (.aload_n 0, 1) := by decide +kernel
theorem dX8_area_14 : decode cX8_area 14 = .ok (.getfield 20, 3) := by decide +kernel
theorem dX8_area_17 : decode cX8_area 17 = .ok (.aload_n 0, 1) := by decide +kernel
theorem dX8_area_18 : decode cX8_area 18 = .ok (.getfield 33, 3) := by decide +kernel
theorem dX8_area_21 : decode cX8_area 21 = .ok (.iconst 1, 1) := by decide +kernel
theorem dX8_area_22 : decode cX8_area 22 = .ok (.isub, 1) := by decide +kernel
theorem dX8_area_23 : decode cX8_area 23 = .ok (.aaload, 1) := by decide +kernel
theorem dX8_area_24 : decode cX8_area 24 = .ok (.goto 7, 3) := by decide +kernel
theorem dX8_area_27 : decode cX8_area 27 = .ok (.aload_n 0, 1) := by decide +kernel
theorem dX8_area_28 : decode cX8_area 28 = .ok (.getfield 25, 3) := by decide +kernel
theorem dX8_area_31 : decode cX8_area 31 = .ok (.astore_n 1, 1) := by decide +kernel
theorem dX8_area_32 : decode cX8_area 32 = .ok (.aload_n 1, 1) := by decide +kernel
theorem dX8_area_33 : decode cX8_area 33 = .ok (.ifnonnull 10, 3) := by decide +kernel
theorem dX8_area_36 : decode cX8_area 36 = .ok (.aload_n 0, 1) := by decide +kernel
theorem dX8_area_37 : decode cX8_area 37 = .ok (.getfield 25, 3) := by decide +kernel
theorem dX8_area_40 : decode cX8_area 40 = .ok (.goto 4, 3) := by decide +kernel
theorem dX8_area_43 : decode cX8_area 43 = .ok (.aload_n 1, 1) := by decide +kernel
theorem dX8_area_44 : decode cX8_area 44 = .ok (.areturn, 1) := by decide +kernel
set_option maxHeartbeats 4000000 in
set_option maxRecDepth 100000 in
theorem m_X8_area (l : Launch) {Z : pZ} (S : pSh Z) {h : pH} (I : Iv Z h)  : pMet l yX8_area cX8_area 2 (some (.object "PanelFrames$Area")) 1 0 0 22 Z h [.ref (zB Z + 36)] (pQr Z (fun o1 Z1 h1 => Z = Z1 ∧ h = h1 ∧ (pIs Z o1 0 ∧ zR Z o1 0 = some (zB Z + (o1 + 1)) ∧ pIs Z (o1 + 1) 2))) := by
  refine pOfW (lv := [(0, .ref (zB Z + 36))]) (by decide) (Nat.le_of_ble_eq_true rfl) rfl ?_
  intro p e s m below meth c ls M hr hlk hnm V hl
  have hx := M.1.1
  have hb := M.1.2.1
  refine lv_aload_n hx hb dX8_area_0 rfl (lv_at hl 0 rfl) ?_
  refine pg_i M V 8 5 (c_is_36 S) pC8 fk8_5 lkF_X8_33 dX8_area_1 ?_
  refine lv_topi (fun v1 ev1 => ?_)
  refine lv_iconst (v := 1) hx hb dX8_area_4 (by decide) ?_
  refine lv_bipush (v := 40) hx hb dX8_area_5 (by decide) ?_
  have k_1 : (1 : Int32).toInt = 1 := rfl
  have k_40 : (40 : Int32).toInt = 40 := rfl
  refine pk_i (pr_SN M V (m_X11_isWithin l (Z := Z) (h := _) v1 (1 : Int32) (40 : Int32)) km_X11_isWithin lkN_X8_40 rfl hl.1 rfl (Nat.le_of_ble_eq_true rfl) ⟨Nat.le_of_ble_eq_true rfl, Nat.le_of_ble_eq_true rfl⟩ ⟨Nat.le_of_ble_eq_true rfl, Nat.le_of_ble_eq_true rfl⟩ dX8_area_7) V (fun r2 Zr2 hr2 H locs pr2 _ _ V => ?_)
  obtain ⟨rfl, rfl, fr2_0⟩ := pr2
  refine lv_if_eq (tgt := 27) hx hb dX8_area_10 (by decide) (fun c_10 => ?_) (fun c_10 => ?_)
  · skip
    have k_0 : (0 : Int32).toInt = 0 := rfl
    have c_10 := pi_eq.mp c_10
    refine lv_aload_n hx hb dX8_area_27 rfl (lv_at hl 0 rfl) ?_
    refine pg_r M V 8 3 (c_is_36 S) pC8 fk8_3 (c_r_36_3 S) lkF_X8_25 dX8_area_28 ?_
    refine lv_astore_n (lv' := [(1, .ref (zB Z + 40)), (0, .ref (zB Z + 36))]) hx hb dX8_area_31 rfl hl (by decide) rfl (fun ls hl => ?_)
    refine lv_aload_n hx hb dX8_area_32 rfl (lv_at hl 0 rfl) ?_
    refine lv_ifnonnull (tgt := 43) hx hb dX8_area_33 (by decide) ?_
    refine lv_aload_n hx hb dX8_area_43 rfl (lv_at hl 0 rfl) ?_
    exact pe_r M V rfl rfl hr (Or.inl ⟨_, rfl⟩) hlk ⟨rfl, rfl, (area_40 S)⟩ ⟨Nat.le_refl _, Nat.le_refl _⟩ dX8_area_44
  · skip
    have k_0 : (0 : Int32).toInt = 0 := rfl
    have c_10 := pi_ne c_10
    refine lv_aload_n hx hb dX8_area_13 rfl (lv_at hl 0 rfl) ?_
    refine pg_r M V 8 2 (c_is_36 S) pC8 fk8_2 (c_r_36_2 S) lkF_X8_20 dX8_area_14 ?_
    refine lv_aload_n hx hb dX8_area_17 rfl (lv_at hl 0 rfl) ?_
    refine pg_iv M V 8 5 (v := v1) (c_is_36 S) pC8 fk8_5 ev1.symm lkF_X8_33 dX8_area_18 ?_
    refine lv_iconst (v := 1) hx hb dX8_area_21 (by decide) ?_
    refine lv_isub hx hb dX8_area_22 ?_
    refine lv_topi (fun v3 ev3 => ?_)
    have tv3 : v3.toInt = v1.toInt - 1 := by rw [ev3]; have z9 := pi_sub (x := v1) (y := (1 : Int32)); rw [k_1] at z9; exact z9 (by omega)
    refine pa_r M V (ca := 15) (CN := RX0) (c_is_39 S) (by decide) rfl (by rw [c_n_39 S]; exact pi_in (by omega)) (area_ri S (i := v3) (by omega)) dX8_area_23 ?_
    have q_23 := area_ii S (i := v3) (by omega)
    refine lv_goto (tgt := 31) hx hb dX8_area_24 (by decide) ?_
    refine lv_astore_n (lv' := [(1, .ref (zB Z + (42 + 2 * v3.toNatClampNeg))), (0, .ref (zB Z + 36))]) hx hb dX8_area_31 rfl hl (by decide) rfl (fun ls hl => ?_)
    refine lv_aload_n hx hb dX8_area_32 rfl (lv_at hl 0 rfl) ?_
    refine lv_ifnonnull (tgt := 43) hx hb dX8_area_33 (by decide) ?_
    refine lv_aload_n hx hb dX8_area_43 rfl (lv_at hl 0 rfl) ?_
    exact pe_r M V rfl rfl hr (Or.inl ⟨_, rfl⟩) hlk ⟨rfl, rfl, q_23⟩ ⟨Nat.le_refl _, Nat.le_refl _⟩ dX8_area_44
theorem dX5_takeKey_0 : decode cX5_takeKey 0 = .ok (.iload_n 1, 1) := by decide +kernel
theorem dX5_takeKey_1 : decode cX5_takeKey 1 = .ok (.iconst 0, 1) := by decide +kernel
theorem dX5_takeKey_2 : decode cX5_takeKey 2 = .ok (.iconst 5, 1) := by decide +kernel
theorem dX5_takeKey_3 : decode cX5_takeKey 3 = .ok (.invokestatic 101, 3) := by decide +kernel
theorem dX5_takeKey_6 : decode cX5_takeKey 6 = .ok (.ifCond .eq 24, 3) := by decide +kernel
theorem dX5_takeKey_9 : decode cX5_takeKey 9 = .ok (.aload_n 0, 1) := by decide +kernel
theorem dX5_takeKey_10 : decode cX5_takeKey 10 = .ok (.getfield 18, 3) := by decide +kernel
theorem dX5_takeKey_13 : decode cX5_takeKey 13 = .ok (.iload_n 1, 1) := by decide +kernel
theorem dX5_takeKey_14 : decode cX5_takeKey 14 = .ok (.baload, 1) := by decide +kernel
theorem dX5_takeKey_15 : decode cX5_takeKey 15 = .ok (.iload_n 2, 1) := by decide +kernel
theorem dX5_takeKey_16 : decode cX5_takeKey 16 = .ok (.if_icmp .eq 14, 3) := by decide +kernel
theorem dX5_takeKey_19 : decode cX5_takeKey 19 = .ok (.aload_n 0, 1) := by decide +kernel
theorem dX5_takeKey_20 : decode cX5_takeKey 20 = .ok (.getfield 18, 3) := by decide +kernel
theorem dX5_takeKey_23 : decode cX5_takeKey 23 = .ok (.iload_n 1, 1) := by decide +kernel
theorem dX5_takeKey_24 : decode cX5_takeKey 24 = .ok (.iload_n 2, 1) := by decide +kernel
theorem dX5_takeKey_25 : decode cX5_takeKey 25 = .ok (.bastore, 1) := by decide +kernel
theorem dX5_takeKey_26 : decode cX5_takeKey 26 = .ok (.aload_n 3, 1) := by decide +kernel
theorem dX5_takeKey_27 : decode cX5_takeKey 27 = .ok (.iload_n 1, 1) := by decide +kernel
theorem dX5_takeKey_28 : decode cX5_takeKey 28 = .ok (.iconst 1, 1) := by decide +kernel
theorem dX5_takeKey_29 : decode cX5_takeKey 29 = .ok (.bastore, 1) := by decide +kernel
theorem dX5_takeKey_30 : decode cX5_takeKey 30 = .ok (.return_, 1) := by decide +kernel
set_option maxHeartbeats 4000000 in
set_option maxRecDepth 100000 in
theorem m_X5_takeKey_7 (l : Launch) {Z : pZ} (S : pSh Z) {h : pH} (I : Iv Z h) (key : Int32) (down : Int32) (hdn : 0 ≤ down.toInt ∧ down.toInt ≤ 1) : pMet l yX5_takeKey cX5_takeKey 4 none 1 0 0 22 Z h [.ref (zB Z + 1), .int key, .int down, .ref (zB Z + 7)] (pQv Z (fun Z1 h1 => Z = Z1 ∧ Iv Z h1 ∧ agrD [(6, 1000), (7, 1000)] h h1)) := by
  refine pOfW (lv := [(0, .ref (zB Z + 1)), (1, .int key), (2, .int down), (3, .ref (zB Z + 7))]) (by decide) (Nat.le_of_ble_eq_true rfl) rfl ?_
  intro p e s m below meth c ls M hr hlk hnm V hl
  have hx := M.1.1
  have hb := M.1.2.1
  have A : agrD [] h h := agrD.rf
  have J_30 : ∀ (hJ : pH) (H : Heap) (locs : List Loc) (ls : Array Slot), pV Z hJ s.heap H locs → Iv Z hJ → agrD [(6, 1000), (7, 1000)] h hJ → lv_has ls 4 [(0, .ref (zB Z + 1)), (1, .int key), (2, .int down), (3, .ref (zB Z + 7))] → (0 ≤ down.toInt ∧ down.toInt ≤ 1) → W p l e (pRm 1 0 0 22) s m ([.ref (zB Z + 1), .int key, .int down, .ref (zB Z + 7)] : List Value).toArray below meth c H locs 0 0 (MQ below (pQv Z (fun Z1 h1 => Z = Z1 ∧ Iv Z h1 ∧ agrD [(6, 1000), (7, 1000)] h h1)) ([.ref (zB Z + 1), .int key, .int down, .ref (zB Z + 7)] : List Value).toArray s 0 0 (pA (zB Z))) (F0 m 30 ls []) := by
    intro hJ H locs ls V I A hl g_30_2
    exact pe_v M V rfl rfl hr hlk ⟨rfl, I, A.wk (by decide)⟩ ⟨Nat.le_refl _, Nat.le_refl _⟩ dX5_takeKey_30
  refine lv_iload_n hx hb dX5_takeKey_0 rfl (lv_at hl 1 rfl) ?_
  refine lv_iconst (v := 0) hx hb dX5_takeKey_1 (by decide) ?_
  refine lv_iconst (v := 5) hx hb dX5_takeKey_2 (by decide) ?_
  have k_0 : (0 : Int32).toInt = 0 := rfl
  have k_5 : (5 : Int32).toInt = 5 := rfl
  refine pk_i (pr_SN M V (m_X11_isWithin l (Z := Z) (h := _) key (0 : Int32) (5 : Int32)) km_X11_isWithin lkN_X5_101 rfl hl.1 rfl (Nat.le_of_ble_eq_true rfl) ⟨Nat.le_of_ble_eq_true rfl, Nat.le_of_ble_eq_true rfl⟩ ⟨Nat.le_of_ble_eq_true rfl, Nat.le_of_ble_eq_true rfl⟩ dX5_takeKey_3) V (fun r1 Zr1 hr1 H locs pr1 _ _ V => ?_)
  obtain ⟨rfl, rfl, fr1_0⟩ := pr1
  refine lv_if_eq (tgt := 30) hx hb dX5_takeKey_6 (by decide) (fun c_6 => ?_) (fun c_6 => ?_)
  · skip
    have c_6 := pi_eq.mp c_6
    exact J_30 _ _ _ _ V I (A.wk (by decide)) (lv_sub hl [0, 1, 2, 3] rfl) (by omega) 
  · skip
    have c_6 := pi_ne c_6
    refine lv_aload_n hx hb dX5_takeKey_9 rfl (lv_at hl 0 rfl) ?_
    refine pg_r M V 5 1 (c_is_1 S) pC5 fk5_1 (c_r_1_1 S) lkF_X5_18 dX5_takeKey_10 ?_
    refine lv_iload_n hx hb dX5_takeKey_13 rfl (lv_at hl 1 rfl) ?_
    refine pa_z M V (c_is_6 S) (by rw [c_n_6 S]; exact pi_in (by omega)) dX5_takeKey_14 ?_
    refine lv_topi (fun v2 ev2 => ?_)
    have tv2 : 0 ≤ v2.toInt ∧ v2.toInt ≤ 1 := by rw [ev2]; exact I.get (c_is_6 S) _
    refine lv_iload_n hx hb dX5_takeKey_15 rfl (lv_at hl 2 rfl) ?_
    refine lv_icmp_eq (tgt := 30) hx hb dX5_takeKey_16 (by decide) (fun c_16 => ?_) (fun c_16 => ?_)
    · skip
      have c_16 := pi_eq.mp c_16
      exact J_30 _ _ _ _ V I (A.wk (by decide)) (lv_sub hl [0, 1, 2, 3] rfl) (by omega) 
    · skip
      have c_16 := pi_ne c_16
      refine lv_aload_n hx hb dX5_takeKey_19 rfl (lv_at hl 0 rfl) ?_
      refine pg_r M V 5 1 (c_is_1 S) pC5 fk5_1 (c_r_1_1 S) lkF_X5_18 dX5_takeKey_20 ?_
      refine lv_iload_n hx hb dX5_takeKey_23 rfl (lv_at hl 1 rfl) ?_
      refine lv_iload_n hx hb dX5_takeKey_24 rfl (lv_at hl 2 rfl) ?_
      refine ps_z M V (c_is_6 S) (by rw [c_n_6 S]; exact pi_in (by omega)) (pi_z (by omega)) dX5_takeKey_25 (fun H locs V => ?_)
      have A := A.wk (l3 := [(6, 1000)]) (by decide)
      have A := A.upA (o := 6) (k := key.toNatClampNeg) (v := down) (by decide)
      have I := I.up (k := key.toNatClampNeg) (v := down) (c_is_6 S) (show (0 : Int) ≤ down.toInt ∧ down.toInt ≤ (1 : Int) by omega)
      refine lv_aload_n hx hb dX5_takeKey_26 rfl (lv_at hl 3 rfl) ?_
      refine lv_iload_n hx hb dX5_takeKey_27 rfl (lv_at hl 1 rfl) ?_
      refine lv_iconst (v := 1) hx hb dX5_takeKey_28 (by decide) ?_
      have k_1 : (1 : Int32).toInt = 1 := rfl
      refine ps_z M V (c_is_7 S) (by rw [c_n_7 S]; exact pi_in (by omega)) (pi_z (by omega)) dX5_takeKey_29 (fun H locs V => ?_)
      have A := A.wk (l3 := [(6, 1000), (7, 1000)]) (by decide)
      have A := A.upA (o := 7) (k := key.toNatClampNeg) (v := (1 : Int32)) (by decide)
      have I := I.up (k := key.toNatClampNeg) (v := (1 : Int32)) (c_is_7 S) (show (0 : Int) ≤ (1 : Int32).toInt ∧ (1 : Int32).toInt ≤ (1 : Int) by omega)
      exact J_30 _ _ _ _ V I (A.wk (by decide)) (lv_sub hl [0, 1, 2, 3] rfl) (by omega) 
set_option maxHeartbeats 4000000 in
set_option maxRecDepth 100000 in
theorem m_X5_takeKey_8 (l : Launch) {Z : pZ} (S : pSh Z) {h : pH} (I : Iv Z h) (key : Int32) (down : Int32) (hdn : 0 ≤ down.toInt ∧ down.toInt ≤ 1) : pMet l yX5_takeKey cX5_takeKey 4 none 1 0 0 22 Z h [.ref (zB Z + 1), .int key, .int down, .ref (zB Z + 8)] (pQv Z (fun Z1 h1 => Z = Z1 ∧ Iv Z h1 ∧ agrD [(6, 1000), (8, 1000)] h h1)) := by
  refine pOfW (lv := [(0, .ref (zB Z + 1)), (1, .int key), (2, .int down), (3, .ref (zB Z + 8))]) (by decide) (Nat.le_of_ble_eq_true rfl) rfl ?_
  intro p e s m below meth c ls M hr hlk hnm V hl
  have hx := M.1.1
  have hb := M.1.2.1
  have A : agrD [] h h := agrD.rf
  have J_30 : ∀ (hJ : pH) (H : Heap) (locs : List Loc) (ls : Array Slot), pV Z hJ s.heap H locs → Iv Z hJ → agrD [(6, 1000), (8, 1000)] h hJ → lv_has ls 4 [(0, .ref (zB Z + 1)), (1, .int key), (2, .int down), (3, .ref (zB Z + 8))] → (0 ≤ down.toInt ∧ down.toInt ≤ 1) → W p l e (pRm 1 0 0 22) s m ([.ref (zB Z + 1), .int key, .int down, .ref (zB Z + 8)] : List Value).toArray below meth c H locs 0 0 (MQ below (pQv Z (fun Z1 h1 => Z = Z1 ∧ Iv Z h1 ∧ agrD [(6, 1000), (8, 1000)] h h1)) ([.ref (zB Z + 1), .int key, .int down, .ref (zB Z + 8)] : List Value).toArray s 0 0 (pA (zB Z))) (F0 m 30 ls []) := by
    intro hJ H locs ls V I A hl g_30_2
    exact pe_v M V rfl rfl hr hlk ⟨rfl, I, A.wk (by decide)⟩ ⟨Nat.le_refl _, Nat.le_refl _⟩ dX5_takeKey_30
  refine lv_iload_n hx hb dX5_takeKey_0 rfl (lv_at hl 1 rfl) ?_
  refine lv_iconst (v := 0) hx hb dX5_takeKey_1 (by decide) ?_
  refine lv_iconst (v := 5) hx hb dX5_takeKey_2 (by decide) ?_
  have k_0 : (0 : Int32).toInt = 0 := rfl
  have k_5 : (5 : Int32).toInt = 5 := rfl
  refine pk_i (pr_SN M V (m_X11_isWithin l (Z := Z) (h := _) key (0 : Int32) (5 : Int32)) km_X11_isWithin lkN_X5_101 rfl hl.1 rfl (Nat.le_of_ble_eq_true rfl) ⟨Nat.le_of_ble_eq_true rfl, Nat.le_of_ble_eq_true rfl⟩ ⟨Nat.le_of_ble_eq_true rfl, Nat.le_of_ble_eq_true rfl⟩ dX5_takeKey_3) V (fun r1 Zr1 hr1 H locs pr1 _ _ V => ?_)
  obtain ⟨rfl, rfl, fr1_0⟩ := pr1
  refine lv_if_eq (tgt := 30) hx hb dX5_takeKey_6 (by decide) (fun c_6 => ?_) (fun c_6 => ?_)
  · skip
    have c_6 := pi_eq.mp c_6
    exact J_30 _ _ _ _ V I (A.wk (by decide)) (lv_sub hl [0, 1, 2, 3] rfl) (by omega) 
  · skip
    have c_6 := pi_ne c_6
    refine lv_aload_n hx hb dX5_takeKey_9 rfl (lv_at hl 0 rfl) ?_
    refine pg_r M V 5 1 (c_is_1 S) pC5 fk5_1 (c_r_1_1 S) lkF_X5_18 dX5_takeKey_10 ?_
    refine lv_iload_n hx hb dX5_takeKey_13 rfl (lv_at hl 1 rfl) ?_
    refine pa_z M V (c_is_6 S) (by rw [c_n_6 S]; exact pi_in (by omega)) dX5_takeKey_14 ?_
    refine lv_topi (fun v2 ev2 => ?_)
    have tv2 : 0 ≤ v2.toInt ∧ v2.toInt ≤ 1 := by rw [ev2]; exact I.get (c_is_6 S) _
    refine lv_iload_n hx hb dX5_takeKey_15 rfl (lv_at hl 2 rfl) ?_
    refine lv_icmp_eq (tgt := 30) hx hb dX5_takeKey_16 (by decide) (fun c_16 => ?_) (fun c_16 => ?_)
    · skip
      have c_16 := pi_eq.mp c_16
      exact J_30 _ _ _ _ V I (A.wk (by decide)) (lv_sub hl [0, 1, 2, 3] rfl) (by omega) 
    · skip
      have c_16 := pi_ne c_16
      refine lv_aload_n hx hb dX5_takeKey_19 rfl (lv_at hl 0 rfl) ?_
      refine pg_r M V 5 1 (c_is_1 S) pC5 fk5_1 (c_r_1_1 S) lkF_X5_18 dX5_takeKey_20 ?_
      refine lv_iload_n hx hb dX5_takeKey_23 rfl (lv_at hl 1 rfl) ?_
      refine lv_iload_n hx hb dX5_takeKey_24 rfl (lv_at hl 2 rfl) ?_
      refine ps_z M V (c_is_6 S) (by rw [c_n_6 S]; exact pi_in (by omega)) (pi_z (by omega)) dX5_takeKey_25 (fun H locs V => ?_)
      have A := A.wk (l3 := [(6, 1000)]) (by decide)
      have A := A.upA (o := 6) (k := key.toNatClampNeg) (v := down) (by decide)
      have I := I.up (k := key.toNatClampNeg) (v := down) (c_is_6 S) (show (0 : Int) ≤ down.toInt ∧ down.toInt ≤ (1 : Int) by omega)
      refine lv_aload_n hx hb dX5_takeKey_26 rfl (lv_at hl 3 rfl) ?_
      refine lv_iload_n hx hb dX5_takeKey_27 rfl (lv_at hl 1 rfl) ?_
      refine lv_iconst (v := 1) hx hb dX5_takeKey_28 (by decide) ?_
      have k_1 : (1 : Int32).toInt = 1 := rfl
      refine ps_z M V (c_is_8 S) (by rw [c_n_8 S]; exact pi_in (by omega)) (pi_z (by omega)) dX5_takeKey_29 (fun H locs V => ?_)
      have A := A.wk (l3 := [(6, 1000), (8, 1000)]) (by decide)
      have A := A.upA (o := 8) (k := key.toNatClampNeg) (v := (1 : Int32)) (by decide)
      have I := I.up (k := key.toNatClampNeg) (v := (1 : Int32)) (c_is_8 S) (show (0 : Int) ≤ (1 : Int32).toInt ∧ (1 : Int32).toInt ≤ (1 : Int) by omega)
      exact J_30 _ _ _ _ V I (A.wk (by decide)) (lv_sub hl [0, 1, 2, 3] rfl) (by omega) 
theorem dX5_take_0 : decode cX5_take 0 = .ok (.iload_n 1, 1) := by decide +kernel
theorem dX5_take_1 : decode cX5_take 1 = .ok (.tableswitch 119 0 5 #[39, 52, 59, 80, 93, 106], 39) := by decide +kernel
theorem dX5_take_40 : decode cX5_take 40 = .ok (.aload_n 0, 1) := by decide +kernel
theorem dX5_take_41 : decode cX5_take 41 = .ok (.iload_n 2, 1) := by decide +kernel
theorem dX5_take_42 : decode cX5_take 42 = .ok (.putfield 32, 3) := by decide +kernel
theorem dX5_take_45 : decode cX5_take 45 = .ok (.aload_n 0, 1) := by decide +kernel
theorem dX5_take_46 : decode cX5_take 46 = .ok (.iload_n 3, 1) := by decide +kernel
theorem dX5_take_47 : decode cX5_take 47 = .ok (.putfield 36, 3) := by decide +kernel
theorem dX5_take_50 : decode cX5_take 50 = .ok (.goto 75, 3) := by decide +kernel
theorem dX5_take_53 : decode cX5_take 53 = .ok (.aload_n 0, 1) := by decide +kernel
theorem dX5_take_54 : decode cX5_take 54 = .ok (.invokevirtual 81, 3) := by decide +kernel
theorem dX5_take_57 : decode cX5_take 57 = .ok (.goto 68, 3) := by decide +kernel
theorem dX5_take_60 : decode cX5_take 60 = .ok (.aload_n 0, 1) := by decide +kernel
theorem dX5_take_61 : decode cX5_take 61 = .ok (.dup, 1) := by decide +kernel
theorem dX5_take_62 : decode cX5_take 62 = .ok (.getfield 78, 3) := by decide +kernel
theorem dX5_take_65 : decode cX5_take 65 = .ok (.aload_n 0, 1) := by decide +kernel
theorem dX5_take_66 : decode cX5_take 66 = .ok (.getfield 84, 3) := by decide +kernel
theorem dX5_take_69 : decode cX5_take 69 = .ok (.ior, 1) := by decide +kernel
theorem dX5_take_70 : decode cX5_take 70 = .ok (.putfield 78, 3) := by decide +kernel
theorem dX5_take_73 : decode cX5_take 73 = .ok (.aload_n 0, 1) := by decide +kernel
theorem dX5_take_74 : decode cX5_take 74 = .ok (.iconst 0, 1) := by decide +kernel
theorem dX5_take_75 : decode cX5_take 75 = .ok (.putfield 84, 3) := by decide +kernel
theorem dX5_take_78 : decode cX5_take 78 = .ok (.goto 47, 3) := by decide +kernel
theorem dX5_take_81 : decode cX5_take 81 = .ok (.aload_n 0, 1) := by decide +kernel
theorem dX5_take_82 : decode cX5_take 82 = .ok (.dup, 1) := by decide +kernel
theorem dX5_take_83 : decode cX5_take 83 = .ok (.getfield 71, 3) := by decide +kernel
theorem dX5_take_86 : decode cX5_take 86 = .ok (.iload_n 2, 1) := by decide +kernel
theorem dX5_take_87 : decode cX5_take 87 = .ok (.iadd, 1) := by decide +kernel
theorem dX5_take_88 : decode cX5_take 88 = .ok (.putfield 71, 3) := by decide +kernel
theorem dX5_take_91 : decode cX5_take 91 = .ok (.goto 34, 3) := by decide +kernel
theorem dX5_take_94 : decode cX5_take 94 = .ok (.aload_n 0, 1) := by decide +kernel
theorem dX5_take_95 : decode cX5_take 95 = .ok (.iload_n 2, 1) := by decide +kernel
theorem dX5_take_96 : decode cX5_take 96 = .ok (.iconst 1, 1) := by decide +kernel
theorem dX5_take_97 : decode cX5_take 97 = .ok (.aload_n 0, 1) := by decide +kernel
theorem dX5_take_98 : decode cX5_take 98 = .ok (.getfield 22, 3) := by decide +kernel
theorem dX5_take_101 : decode cX5_take 101 = .ok (.invokevirtual 87, 3) := by decide +kernel
theorem dX5_take_104 : decode cX5_take 104 = .ok (.goto 21, 3) := by decide +kernel
theorem dX5_take_107 : decode cX5_take 107 = .ok (.aload_n 0, 1) := by decide +kernel
theorem dX5_take_108 : decode cX5_take 108 = .ok (.iload_n 2, 1) := by decide +kernel
theorem dX5_take_109 : decode cX5_take 109 = .ok (.iconst 0, 1) := by decide +kernel
theorem dX5_take_110 : decode cX5_take 110 = .ok (.aload_n 0, 1) := by decide +kernel
theorem dX5_take_111 : decode cX5_take 111 = .ok (.getfield 25, 3) := by decide +kernel
theorem dX5_take_114 : decode cX5_take 114 = .ok (.invokevirtual 87, 3) := by decide +kernel
theorem dX5_take_117 : decode cX5_take 117 = .ok (.goto 8, 3) := by decide +kernel
theorem dX5_take_120 : decode cX5_take 120 = .ok (.aload_n 0, 1) := by decide +kernel
theorem dX5_take_121 : decode cX5_take 121 = .ok (.iload_n 2, 1) := by decide +kernel
theorem dX5_take_122 : decode cX5_take 122 = .ok (.invokevirtual 91, 3) := by decide +kernel
theorem dX5_take_125 : decode cX5_take 125 = .ok (.return_, 1) := by decide +kernel
set_option maxHeartbeats 4000000 in
set_option maxRecDepth 100000 in
theorem m_X5_take (l : Launch) {Z : pZ} (S : pSh Z) {h : pH} (I : Iv Z h) (kind : Int32) (first : Int32) (second : Int32)  : pMet l yX5_take cX5_take 4 none 2 0 0 45 Z h [.ref (zB Z + 1), .int kind, .int first, .int second] (pQv Z (fun Z1 h1 => Z = Z1 ∧ Iv Z h1 ∧ agrD [(1, 1000), (6, 1000), (7, 1000), (8, 1000), (9, 1000)] h h1)) := by
  refine pOfW (lv := [(0, .ref (zB Z + 1)), (1, .int kind), (2, .int first), (3, .int second)]) (by decide) (Nat.le_of_ble_eq_true rfl) rfl ?_
  intro p e s m below meth c ls M hr hlk hnm V hl
  have hx := M.1.1
  have hb := M.1.2.1
  have A : agrD [] h h := agrD.rf
  have J_125 : ∀ (hJ : pH) (H : Heap) (locs : List Loc) (ls : Array Slot), pV Z hJ s.heap H locs → Iv Z hJ → agrD [(1, 5), (1, 7), (1, 8), (1, 1000), (6, 1000), (7, 1000), (8, 1000), (9, 1000)] h hJ → lv_has ls 4 [(0, .ref (zB Z + 1)), (1, .int kind), (2, .int first), (3, .int second)] → W p l e (pRm 2 0 0 45) s m ([.ref (zB Z + 1), .int kind, .int first, .int second] : List Value).toArray below meth c H locs 0 0 (MQ below (pQv Z (fun Z1 h1 => Z = Z1 ∧ Iv Z h1 ∧ agrD [(1, 1000), (6, 1000), (7, 1000), (8, 1000), (9, 1000)] h h1)) ([.ref (zB Z + 1), .int kind, .int first, .int second] : List Value).toArray s 0 0 (pA (zB Z))) (F0 m 125 ls []) := by
    intro hJ H locs ls V I A hl
    exact pe_v M V rfl rfl hr hlk ⟨rfl, I, A.wk (by decide)⟩ ⟨Nat.le_refl _, Nat.le_refl _⟩ dX5_take_125
  refine lv_iload_n hx hb dX5_take_0 rfl (lv_at hl 1 rfl) ?_
  by_cases w_1 : kind.toInt < 0 ∨ 5 < kind.toInt
  · refine lv_tableOut (tgt := 120) hx hb dX5_take_1 w_1 (by decide) ?_
    refine lv_aload_n hx hb dX5_take_120 rfl (lv_at hl 0 rfl) ?_
    refine lv_iload_n hx hb dX5_take_121 rfl (lv_at hl 2 rfl) ?_
    refine pk_v (pr_V M V (m_X5_takeLetter l S I first ) km_X5_takeLetter (c_is_1 S) pC5 lkM_X5_91 rfl hl.1 rfl (Nat.le_of_ble_eq_true rfl) ⟨Nat.le_of_ble_eq_true rfl, Nat.le_of_ble_eq_true rfl⟩ ⟨Nat.le_of_ble_eq_true rfl, Nat.le_of_ble_eq_true rfl⟩ dX5_take_122) V (fun Zr1 hr1 H locs pr1 _ _ V => ?_)
    obtain ⟨rfl, I, pA_r1⟩ := pr1
    have A := A.wk (l3 := [(1, 5), (9, 1000)]) (by decide)
    have A := A.tr pA_r1 (by decide)
    exact J_125 _ _ _ _ V I (A.wk (by decide)) (lv_sub hl [0, 1, 2, 3] rfl) 
  · obtain w_1 | w_1 | w_1 | w_1 | w_1 | w_1 : kind.toInt = 0 ∨ kind.toInt = 1 ∨ kind.toInt = 2 ∨ kind.toInt = 3 ∨ kind.toInt = 4 ∨ kind.toInt = 5 := by omega
    · refine lv_tableIn (tgt := 40) (off := 39) hx hb dX5_take_1 (by omega) (by omega) (by rw [w_1]; rfl) (by decide) ?_
      refine lv_aload_n hx hb dX5_take_40 rfl (lv_at hl 0 rfl) ?_
      refine lv_iload_n hx hb dX5_take_41 rfl (lv_at hl 2 rfl) ?_
      refine pp_i M V 5 7 (c_is_1 S) pC5 fk5_7 rfl lkF_X5_32 ⟨rfl, rfl⟩ dX5_take_42 (fun H locs V => ?_)
      have A := A.wk (l3 := [(1, 7)]) (by decide)
      have A := A.up (o := 1) (k := 7) (v := first) (by decide)
      have I := I.up (k := 7) (v := first) (c_is_1 S) (pi_full _)
      refine lv_aload_n hx hb dX5_take_45 rfl (lv_at hl 0 rfl) ?_
      refine lv_iload_n hx hb dX5_take_46 rfl (lv_at hl 3 rfl) ?_
      refine pp_i M V 5 8 (c_is_1 S) pC5 fk5_8 rfl lkF_X5_36 ⟨rfl, rfl⟩ dX5_take_47 (fun H locs V => ?_)
      have A := A.wk (l3 := [(1, 7), (1, 8)]) (by decide)
      have A := A.up (o := 1) (k := 8) (v := second) (by decide)
      have I := I.up (k := 8) (v := second) (c_is_1 S) (pi_full _)
      refine lv_goto (tgt := 125) hx hb dX5_take_50 (by decide) ?_
      exact J_125 _ _ _ _ V I (A.wk (by decide)) (lv_sub hl [0, 1, 2, 3] rfl) 
    · refine lv_tableIn (tgt := 53) (off := 52) hx hb dX5_take_1 (by omega) (by omega) (by rw [w_1]; rfl) (by decide) ?_
      refine lv_aload_n hx hb dX5_take_53 rfl (lv_at hl 0 rfl) ?_
      refine pk_v (pr_V M V (m_X5_takePress l S I  ) km_X5_takePress (c_is_1 S) pC5 lkM_X5_81 rfl hl.1 rfl (Nat.le_of_ble_eq_true rfl) ⟨Nat.le_of_ble_eq_true rfl, Nat.le_of_ble_eq_true rfl⟩ ⟨Nat.le_of_ble_eq_true rfl, Nat.le_of_ble_eq_true rfl⟩ dX5_take_54) V (fun Zr2 hr2 H locs pr2 _ _ V => ?_)
      obtain ⟨rfl, I, pA_r2⟩ := pr2
      have A := A.wk (l3 := [(1, 1000)]) (by decide)
      have A := A.tr pA_r2 (by decide)
      refine lv_goto (tgt := 125) hx hb dX5_take_57 (by decide) ?_
      exact J_125 _ _ _ _ V I (A.wk (by decide)) (lv_sub hl [0, 1, 2, 3] rfl) 
    · refine lv_tableIn (tgt := 60) (off := 59) hx hb dX5_take_1 (by omega) (by omega) (by rw [w_1]; rfl) (by decide) ?_
      refine lv_aload_n hx hb dX5_take_60 rfl (lv_at hl 0 rfl) ?_
      refine lv_dup hx hb dX5_take_61 rfl ?_
      refine pg_i M V 5 15 (c_is_1 S) pC5 fk5_15 lkF_X5_78 dX5_take_62 ?_
      refine lv_topi (fun v3 ev3 => ?_)
      have tv3 : 0 ≤ v3.toInt ∧ v3.toInt ≤ 1 := by rw [ev3]; exact I.get (c_is_1 S) 15
      refine lv_aload_n hx hb dX5_take_65 rfl (lv_at hl 0 rfl) ?_
      refine pg_i M V 5 13 (c_is_1 S) pC5 fk5_13 lkF_X5_84 dX5_take_66 ?_
      refine lv_topi (fun v4 ev4 => ?_)
      have tv4 : 0 ≤ v4.toInt ∧ v4.toInt ≤ 1 := by rw [ev4]; exact I.get (c_is_1 S) 13
      refine lv_ior hx hb dX5_take_69 ?_
      refine lv_topi (fun v5 ev5 => ?_)
      have tv5 : 0 ≤ v5.toInt ∧ v5.toInt ≤ 1 := by rw [ev5]; exact pi_or01 (by omega) (by omega)
      have z_70 : v5 = 0 ∨ v5 = 1 := pi_z (by omega)
      refine pp_i M V 5 15 (c_is_1 S) pC5 fk5_15 rfl lkF_X5_78 ⟨(pn_z z_70).1, (pn_z z_70).2.1⟩ dX5_take_70 (fun H locs V => ?_)
      have A := A.wk (l3 := [(1, 15)]) (by decide)
      have A := A.up (o := 1) (k := 15) (v := v5) (by decide)
      have I := I.up (k := 15) (v := v5) (c_is_1 S) (show (0 : Int) ≤ v5.toInt ∧ v5.toInt ≤ (1 : Int) by omega)
      refine lv_aload_n hx hb dX5_take_73 rfl (lv_at hl 0 rfl) ?_
      refine lv_iconst (v := 0) hx hb dX5_take_74 (by decide) ?_
      have k_0 : (0 : Int32).toInt = 0 := rfl
      have z_75 : (0 : Int32) = 0 ∨ (0 : Int32) = 1 := pi_z (by omega)
      refine pp_i M V 5 13 (c_is_1 S) pC5 fk5_13 rfl lkF_X5_84 ⟨(pn_z z_75).1, (pn_z z_75).2.1⟩ dX5_take_75 (fun H locs V => ?_)
      have A := A.wk (l3 := [(1, 15), (1, 13)]) (by decide)
      have A := A.up (o := 1) (k := 13) (v := (0 : Int32)) (by decide)
      have I := I.up (k := 13) (v := (0 : Int32)) (c_is_1 S) (show (0 : Int) ≤ (0 : Int32).toInt ∧ (0 : Int32).toInt ≤ (1 : Int) by omega)
      refine lv_goto (tgt := 125) hx hb dX5_take_78 (by decide) ?_
      exact J_125 _ _ _ _ V I (A.wk (by decide)) (lv_sub hl [0, 1, 2, 3] rfl) 
    · refine lv_tableIn (tgt := 81) (off := 80) hx hb dX5_take_1 (by omega) (by omega) (by rw [w_1]; rfl) (by decide) ?_
      refine lv_aload_n hx hb dX5_take_81 rfl (lv_at hl 0 rfl) ?_
      refine lv_dup hx hb dX5_take_82 rfl ?_
      refine pg_i M V 5 6 (c_is_1 S) pC5 fk5_6 lkF_X5_71 dX5_take_83 ?_
      refine lv_topi (fun v6 ev6 => ?_)
      refine lv_iload_n hx hb dX5_take_86 rfl (lv_at hl 2 rfl) ?_
      refine lv_iadd hx hb dX5_take_87 ?_
      refine lv_topi (fun v7 ev7 => ?_)
      refine pp_i M V 5 6 (c_is_1 S) pC5 fk5_6 rfl lkF_X5_71 ⟨rfl, rfl⟩ dX5_take_88 (fun H locs V => ?_)
      have A := A.wk (l3 := [(1, 6)]) (by decide)
      have A := A.up (o := 1) (k := 6) (v := v7) (by decide)
      have I := I.up (k := 6) (v := v7) (c_is_1 S) (pi_full _)
      refine lv_goto (tgt := 125) hx hb dX5_take_91 (by decide) ?_
      exact J_125 _ _ _ _ V I (A.wk (by decide)) (lv_sub hl [0, 1, 2, 3] rfl) 
    · refine lv_tableIn (tgt := 94) (off := 93) hx hb dX5_take_1 (by omega) (by omega) (by rw [w_1]; rfl) (by decide) ?_
      refine lv_aload_n hx hb dX5_take_94 rfl (lv_at hl 0 rfl) ?_
      refine lv_iload_n hx hb dX5_take_95 rfl (lv_at hl 2 rfl) ?_
      refine lv_iconst (v := 1) hx hb dX5_take_96 (by decide) ?_
      refine lv_aload_n hx hb dX5_take_97 rfl (lv_at hl 0 rfl) ?_
      refine pg_r M V 5 2 (c_is_1 S) pC5 fk5_2 (c_r_1_2 S) lkF_X5_22 dX5_take_98 ?_
      have k_1 : (1 : Int32).toInt = 1 := rfl
      refine pk_v (pr_V M V (m_X5_takeKey_7 l S I first (1 : Int32)  (by omega)) km_X5_takeKey (c_is_1 S) pC5 lkM_X5_87 rfl hl.1 rfl (Nat.le_of_ble_eq_true rfl) ⟨Nat.le_of_ble_eq_true rfl, Nat.le_of_ble_eq_true rfl⟩ ⟨Nat.le_of_ble_eq_true rfl, Nat.le_of_ble_eq_true rfl⟩ dX5_take_101) V (fun Zr8 hr8 H locs pr8 _ _ V => ?_)
      obtain ⟨rfl, I, pA_r8⟩ := pr8
      have A := A.wk (l3 := [(6, 1000), (7, 1000)]) (by decide)
      have A := A.tr pA_r8 (by decide)
      refine lv_goto (tgt := 125) hx hb dX5_take_104 (by decide) ?_
      exact J_125 _ _ _ _ V I (A.wk (by decide)) (lv_sub hl [0, 1, 2, 3] rfl) 
    · refine lv_tableIn (tgt := 107) (off := 106) hx hb dX5_take_1 (by omega) (by omega) (by rw [w_1]; rfl) (by decide) ?_
      refine lv_aload_n hx hb dX5_take_107 rfl (lv_at hl 0 rfl) ?_
      refine lv_iload_n hx hb dX5_take_108 rfl (lv_at hl 2 rfl) ?_
      refine lv_iconst (v := 0) hx hb dX5_take_109 (by decide) ?_
      refine lv_aload_n hx hb dX5_take_110 rfl (lv_at hl 0 rfl) ?_
      refine pg_r M V 5 3 (c_is_1 S) pC5 fk5_3 (c_r_1_3 S) lkF_X5_25 dX5_take_111 ?_
      have k_0 : (0 : Int32).toInt = 0 := rfl
      refine pk_v (pr_V M V (m_X5_takeKey_8 l S I first (0 : Int32)  (by omega)) km_X5_takeKey (c_is_1 S) pC5 lkM_X5_87 rfl hl.1 rfl (Nat.le_of_ble_eq_true rfl) ⟨Nat.le_of_ble_eq_true rfl, Nat.le_of_ble_eq_true rfl⟩ ⟨Nat.le_of_ble_eq_true rfl, Nat.le_of_ble_eq_true rfl⟩ dX5_take_114) V (fun Zr9 hr9 H locs pr9 _ _ V => ?_)
      obtain ⟨rfl, I, pA_r9⟩ := pr9
      have A := A.wk (l3 := [(6, 1000), (8, 1000)]) (by decide)
      have A := A.tr pA_r9 (by decide)
      refine lv_goto (tgt := 125) hx hb dX5_take_117 (by decide) ?_
      exact J_125 _ _ _ _ V I (A.wk (by decide)) (lv_sub hl [0, 1, 2, 3] rfl) 
theorem dX5_takeEvents_0 : decode cX5_takeEvents 0 = .ok (.aload_n 0, 1) := by decide +kernel
theorem dX5_takeEvents_1 : decode cX5_takeEvents 1 = .ok (.getfield 32, 3) := by decide +kernel
theorem dX5_takeEvents_4 : decode cX5_takeEvents 4 = .ok (.istore_n 1, 1) := by decide +kernel
theorem dX5_takeEvents_5 : decode cX5_takeEvents 5 = .ok (.aload_n 0, 1) := by decide +kernel
theorem dX5_takeEvents_6 : decode cX5_takeEvents 6 = .ok (.getfield 36, 3) := by decide +kernel
theorem dX5_takeEvents_9 : decode cX5_takeEvents 9 = .ok (.istore_n 2, 1) := by decide +kernel
theorem dX5_takeEvents_10 : decode cX5_takeEvents 10 = .ok (.aload_n 0, 1) := by decide +kernel
theorem dX5_takeEvents_11 : decode cX5_takeEvents 11 = .ok (.getfield 12, 3) := by decide +kernel
theorem dX5_takeEvents_14 : decode cX5_takeEvents 14 = .ok (.getfield 39, 3) := by decide +kernel
theorem dX5_takeEvents_17 : decode cX5_takeEvents 17 = .ok (.istore_n 3, 1) := by decide +kernel
theorem dX5_takeEvents_18 : decode cX5_takeEvents 18 = .ok (.iconst 0, 1) := by decide +kernel
theorem dX5_takeEvents_19 : decode cX5_takeEvents 19 = .ok (.istore 4, 2) := by decide +kernel
theorem dX5_takeEvents_21 : decode cX5_takeEvents 21 = .ok (.iconst 0, 1) := by decide +kernel
theorem dX5_takeEvents_22 : decode cX5_takeEvents 22 = .ok (.istore 5, 2) := by decide +kernel
theorem dX5_takeEvents_24 : decode cX5_takeEvents 24 = .ok (.aload_n 0, 1) := by decide +kernel
theorem dX5_takeEvents_25 : decode cX5_takeEvents 25 = .ok (.invokevirtual 42, 3) := by decide +kernel
theorem dX5_takeEvents_28 : decode cX5_takeEvents 28 = .ok (.iload 4, 2) := by decide +kernel
theorem dX5_takeEvents_30 : decode cX5_takeEvents 30 = .ok (.iload_n 3, 1) := by decide +kernel
theorem dX5_takeEvents_31 : decode cX5_takeEvents 31 = .ok (.if_icmp .ge 81, 3) := by decide +kernel
theorem dX5_takeEvents_34 : decode cX5_takeEvents 34 = .ok (.aload_n 0, 1) := by decide +kernel
theorem dX5_takeEvents_35 : decode cX5_takeEvents 35 = .ok (.getfield 12, 3) := by decide +kernel
theorem dX5_takeEvents_38 : decode cX5_takeEvents 38 = .ok (.invokevirtual 45, 3) := by decide +kernel
theorem dX5_takeEvents_41 : decode cX5_takeEvents 41 = .ok (.istore 6, 2) := by decide +kernel
theorem dX5_takeEvents_43 : decode cX5_takeEvents 43 = .ok (.iload 5, 2) := by decide +kernel
theorem dX5_takeEvents_45 : decode cX5_takeEvents 45 = .ok (.ifCond .eq 12, 3) := by decide +kernel
theorem dX5_takeEvents_48 : decode cX5_takeEvents 48 = .ok (.iload 6, 2) := by decide +kernel
theorem dX5_takeEvents_50 : decode cX5_takeEvents 50 = .ok (.iconst 2, 1) := by decide +kernel
theorem dX5_takeEvents_51 : decode cX5_takeEvents 51 = .ok (.if_icmp .gt 6, 3) := by decide +kernel
theorem dX5_takeEvents_54 : decode cX5_takeEvents 54 = .ok (.goto 58, 3) := by decide +kernel
theorem dX5_takeEvents_57 : decode cX5_takeEvents 57 = .ok (.iload 5, 2) := by decide +kernel
theorem dX5_takeEvents_59 : decode cX5_takeEvents 59 = .ok (.iload 6, 2) := by decide +kernel
theorem dX5_takeEvents_61 : decode cX5_takeEvents 61 = .ok (.iconst 1, 1) := by decide +kernel
theorem dX5_takeEvents_62 : decode cX5_takeEvents 62 = .ok (.if_icmp .eq 9, 3) := by decide +kernel
theorem dX5_takeEvents_65 : decode cX5_takeEvents 65 = .ok (.iload 6, 2) := by decide +kernel
theorem dX5_takeEvents_67 : decode cX5_takeEvents 67 = .ok (.iconst 2, 1) := by decide +kernel
theorem dX5_takeEvents_68 : decode cX5_takeEvents 68 = .ok (.if_icmp .ne 7, 3) := by decide +kernel
theorem dX5_takeEvents_71 : decode cX5_takeEvents 71 = .ok (.iconst 1, 1) := by decide +kernel
theorem dX5_takeEvents_72 : decode cX5_takeEvents 72 = .ok (.goto 4, 3) := by decide +kernel
theorem dX5_takeEvents_75 : decode cX5_takeEvents 75 = .ok (.iconst 0, 1) := by decide +kernel
theorem dX5_takeEvents_76 : decode cX5_takeEvents 76 = .ok (.ior, 1) := by decide +kernel
theorem dX5_takeEvents_77 : decode cX5_takeEvents 77 = .ok (.istore 5, 2) := by decide +kernel
theorem dX5_takeEvents_79 : decode cX5_takeEvents 79 = .ok (.aload_n 0, 1) := by decide +kernel
theorem dX5_takeEvents_80 : decode cX5_takeEvents 80 = .ok (.iload 6, 2) := by decide +kernel
theorem dX5_takeEvents_82 : decode cX5_takeEvents 82 = .ok (.aload_n 0, 1) := by decide +kernel
theorem dX5_takeEvents_83 : decode cX5_takeEvents 83 = .ok (.getfield 12, 3) := by decide +kernel
theorem dX5_takeEvents_86 : decode cX5_takeEvents 86 = .ok (.invokevirtual 49, 3) := by decide +kernel
theorem dX5_takeEvents_89 : decode cX5_takeEvents 89 = .ok (.aload_n 0, 1) := by decide +kernel
theorem dX5_takeEvents_90 : decode cX5_takeEvents 90 = .ok (.getfield 12, 3) := by decide +kernel
theorem dX5_takeEvents_93 : decode cX5_takeEvents 93 = .ok (.invokevirtual 52, 3) := by decide +kernel
theorem dX5_takeEvents_96 : decode cX5_takeEvents 96 = .ok (.invokevirtual 55, 3) := by decide +kernel
theorem dX5_takeEvents_99 : decode cX5_takeEvents 99 = .ok (.aload_n 0, 1) := by decide +kernel
theorem dX5_takeEvents_100 : decode cX5_takeEvents 100 = .ok (.getfield 12, 3) := by decide +kernel
theorem dX5_takeEvents_103 : decode cX5_takeEvents 103 = .ok (.invokevirtual 59, 3) := by decide +kernel
theorem dX5_takeEvents_106 : decode cX5_takeEvents 106 = .ok (.iinc 4 1, 3) := by decide +kernel
theorem dX5_takeEvents_109 : decode cX5_takeEvents 109 = .ok (.goto (-81), 3) := by decide +kernel
theorem dX5_takeEvents_112 : decode cX5_takeEvents 112 = .ok (.aload_n 0, 1) := by decide +kernel
theorem dX5_takeEvents_113 : decode cX5_takeEvents 113 = .ok (.aload_n 0, 1) := by decide +kernel
theorem dX5_takeEvents_114 : decode cX5_takeEvents 114 = .ok (.getfield 32, 3) := by decide +kernel
theorem dX5_takeEvents_117 : decode cX5_takeEvents 117 = .ok (.iload_n 1, 1) := by decide +kernel
theorem dX5_takeEvents_118 : decode cX5_takeEvents 118 = .ok (.isub, 1) := by decide +kernel
theorem dX5_takeEvents_119 : decode cX5_takeEvents 119 = .ok (.putfield 62, 3) := by decide +kernel
theorem dX5_takeEvents_122 : decode cX5_takeEvents 122 = .ok (.aload_n 0, 1) := by decide +kernel
theorem dX5_takeEvents_123 : decode cX5_takeEvents 123 = .ok (.aload_n 0, 1) := by decide +kernel
theorem dX5_takeEvents_124 : decode cX5_takeEvents 124 = .ok (.getfield 36, 3) := by decide +kernel
theorem dX5_takeEvents_127 : decode cX5_takeEvents 127 = .ok (.iload_n 2, 1) := by decide +kernel
theorem dX5_takeEvents_128 : decode cX5_takeEvents 128 = .ok (.isub, 1) := by decide +kernel
theorem dX5_takeEvents_129 : decode cX5_takeEvents 129 = .ok (.putfield 65, 3) := by decide +kernel
theorem dX5_takeEvents_132 : decode cX5_takeEvents 132 = .ok (.iload 4, 2) := by decide +kernel
theorem dX5_takeEvents_134 : decode cX5_takeEvents 134 = .ok (.ireturn, 1) := by decide +kernel
set_option maxHeartbeats 4000000 in
set_option maxRecDepth 100000 in
theorem m_X5_takeEvents (l : Launch) {Z : pZ} (S : pSh Z) {h : pH} (I : Iv Z h)  : pMet l yX5_takeEvents cX5_takeEvents 7 (some .int) 3 0 0 68 Z h [.ref (zB Z + 1)] (pQi Z (fun r Z1 h1 => Z = Z1 ∧ Iv Z h1 ∧ agrD [(1, 1000), (2, 3), (2, 4), (6, 1000), (7, 1000), (8, 1000), (9, 1000)] h h1 ∧ ((h1 2 4).toInt ≤ (h 2 4).toInt))) := by
  refine pOfW (lv := [(0, .ref (zB Z + 1))]) (by decide) (Nat.le_of_ble_eq_true rfl) rfl ?_
  intro p e s m below meth c ls M hr hlk hnm V hl
  have hx := M.1.1
  have hb := M.1.2.1
  have A : agrD [] h h := agrD.rf
  have J_112 : ∀ (x112_1 : Int32) (x112_2 : Int32) (x112_3 : Int32) (x112_4 : Int32) (x112_5 : Int32) (hJ : pH) (H : Heap) (locs : List Loc) (ls : Array Slot), pV Z hJ s.heap H locs → Iv Z hJ → agrD [(1, 1000), (2, 3), (2, 4), (6, 1000), (7, 1000), (8, 1000), (9, 1000)] h hJ → lv_has ls 7 [(0, .ref (zB Z + 1)), (1, .int x112_1), (2, .int x112_2), (3, .int x112_3), (4, .int x112_4), (5, .int x112_5)] → (0 ≤ x112_3.toInt ∧ x112_3.toInt ≤ 64) → (0 ≤ x112_4.toInt ∧ x112_4.toInt ≤ 64) → (0 ≤ x112_5.toInt ∧ x112_5.toInt ≤ 1) → ((hJ 2 4).toInt ≤ (h 2 4).toInt) → W p l e (pRm 3 0 0 68) s m ([.ref (zB Z + 1)] : List Value).toArray below meth c H locs 0 0 (MQ below (pQi Z (fun r Z1 h1 => Z = Z1 ∧ Iv Z h1 ∧ agrD [(1, 1000), (2, 3), (2, 4), (6, 1000), (7, 1000), (8, 1000), (9, 1000)] h h1 ∧ ((h1 2 4).toInt ≤ (h 2 4).toInt))) ([.ref (zB Z + 1)] : List Value).toArray s 0 0 (pA (zB Z))) (F0 m 112 ls []) := by
    intro x112_1 x112_2 x112_3 x112_4 x112_5 hJ H locs ls V I A hl g_112_3 g_112_4 g_112_5 e2_112
    refine lv_aload_n hx hb dX5_takeEvents_112 rfl (lv_at hl 0 rfl) ?_
    refine lv_aload_n hx hb dX5_takeEvents_113 rfl (lv_at hl 0 rfl) ?_
    refine pg_i M V 5 7 (c_is_1 S) pC5 fk5_7 lkF_X5_32 dX5_takeEvents_114 ?_
    refine lv_topi (fun v1 ev1 => ?_)
    refine lv_iload_n hx hb dX5_takeEvents_117 rfl (lv_at hl 1 rfl) ?_
    refine lv_isub hx hb dX5_takeEvents_118 ?_
    refine lv_topi (fun v2 ev2 => ?_)
    refine pp_i M V 5 9 (c_is_1 S) pC5 fk5_9 rfl lkF_X5_62 ⟨rfl, rfl⟩ dX5_takeEvents_119 (fun H locs V => ?_)
    have A := A.up (o := 1) (k := 9) (v := v2) (by decide)
    have I := I.up (k := 9) (v := v2) (c_is_1 S) (pi_full _)
    refine lv_aload_n hx hb dX5_takeEvents_122 rfl (lv_at hl 0 rfl) ?_
    refine lv_aload_n hx hb dX5_takeEvents_123 rfl (lv_at hl 0 rfl) ?_
    refine pg_i M V 5 8 (c_is_1 S) pC5 fk5_8 lkF_X5_36 dX5_takeEvents_124 ?_
    refine lv_topi (fun v3 ev3 => ?_)
    refine lv_iload_n hx hb dX5_takeEvents_127 rfl (lv_at hl 2 rfl) ?_
    refine lv_isub hx hb dX5_takeEvents_128 ?_
    refine lv_topi (fun v4 ev4 => ?_)
    refine pp_i M V 5 10 (c_is_1 S) pC5 fk5_10 rfl lkF_X5_65 ⟨rfl, rfl⟩ dX5_takeEvents_129 (fun H locs V => ?_)
    have A := A.up (o := 1) (k := 10) (v := v4) (by decide)
    have I := I.up (k := 10) (v := v4) (c_is_1 S) (pi_full _)
    refine lv_iload hx hb dX5_takeEvents_132 (lv_at hl 4 rfl) ?_
    exact pe_i M V rfl rfl hr hlk rfl ⟨rfl, I, A.wk (by decide), (show (hJ 2 4).toInt ≤ (h 2 4).toInt by omega)⟩ ⟨Nat.le_refl _, Nat.le_refl _⟩ dX5_takeEvents_134
  have J_28 : ∀ (n9 : Nat) (x28_1 : Int32) (x28_2 : Int32) (x28_3 : Int32) (x28_4 : Int32) (x28_5 : Int32) (hJ : pH) (H : Heap) (locs : List Loc) (ls : Array Slot), pV Z hJ s.heap H locs → Iv Z hJ → agrD [(1, 1000), (2, 3), (2, 4), (6, 1000), (7, 1000), (8, 1000), (9, 1000)] h hJ → lv_has ls 7 [(0, .ref (zB Z + 1)), (1, .int x28_1), (2, .int x28_2), (3, .int x28_3), (4, .int x28_4), (5, .int x28_5)] → (0 ≤ x28_3.toInt ∧ x28_3.toInt ≤ 64) → (0 ≤ x28_4.toInt ∧ x28_4.toInt ≤ 64) → (0 ≤ x28_5.toInt ∧ x28_5.toInt ≤ 1) → ((hJ 2 4).toInt ≤ (h 2 4).toInt) → (64 - x28_4.toInt).toNat < n9 → W p l e (pRm 3 0 0 68) s m ([.ref (zB Z + 1)] : List Value).toArray below meth c H locs 0 0 (MQ below (pQi Z (fun r Z1 h1 => Z = Z1 ∧ Iv Z h1 ∧ agrD [(1, 1000), (2, 3), (2, 4), (6, 1000), (7, 1000), (8, 1000), (9, 1000)] h h1 ∧ ((h1 2 4).toInt ≤ (h 2 4).toInt))) ([.ref (zB Z + 1)] : List Value).toArray s 0 0 (pA (zB Z))) (F0 m 28 ls []) := by
    intro n9
    induction n9 with
    | zero => intro x28_1 x28_2 x28_3 x28_4 x28_5 hJ H locs ls V I A hl g_28_3 g_28_4 g_28_5 e2_28 hm9; exact absurd hm9 (Nat.not_lt_zero _)
    | succ n9 ih_28 =>
      intro x28_1 x28_2 x28_3 x28_4 x28_5 hJ H locs ls V I A hl g_28_3 g_28_4 g_28_5 e2_28 hm9
      have J_76 : ∀ (x76_6 : Int32) (y76_0 : Int32) (y76_1 : Int32) (hJ : pH) (H : Heap) (locs : List Loc) (ls : Array Slot), pV Z hJ s.heap H locs → Iv Z hJ → agrD [(1, 1000), (2, 3), (2, 4), (6, 1000), (7, 1000), (8, 1000), (9, 1000)] h hJ → lv_has ls 7 [(0, .ref (zB Z + 1)), (1, .int x28_1), (2, .int x28_2), (3, .int x28_3), (4, .int x28_4), (5, .int x28_5), (6, .int x76_6)] → (1 ≤ x28_3.toInt ∧ x28_3.toInt ≤ 64) → (0 ≤ x28_4.toInt ∧ x28_4.toInt ≤ 63) → (0 ≤ x28_5.toInt ∧ x28_5.toInt ≤ 1) → (0 ≤ y76_0.toInt ∧ y76_0.toInt ≤ 1) → (0 ≤ y76_1.toInt ∧ y76_1.toInt ≤ 1) → ((hJ 2 4).toInt ≤ (h 2 4).toInt) → W p l e (pRm 3 0 0 68) s m ([.ref (zB Z + 1)] : List Value).toArray below meth c H locs 0 0 (MQ below (pQi Z (fun r Z1 h1 => Z = Z1 ∧ Iv Z h1 ∧ agrD [(1, 1000), (2, 3), (2, 4), (6, 1000), (7, 1000), (8, 1000), (9, 1000)] h h1 ∧ ((h1 2 4).toInt ≤ (h 2 4).toInt))) ([.ref (zB Z + 1)] : List Value).toArray s 0 0 (pA (zB Z))) (F0 m 76 ls [.int y76_0, .int y76_1]) := by
        intro x76_6 y76_0 y76_1 hJ H locs ls V I A hl g_76_3 g_76_4 g_76_5 gs_76_0 gs_76_1 e2_76
        refine lv_ior hx hb dX5_takeEvents_76 ?_
        refine lv_topi (fun v5 ev5 => ?_)
        refine lv_istore (lv' := [(5, .int v5), (0, .ref (zB Z + 1)), (1, .int x28_1), (2, .int x28_2), (3, .int x28_3), (4, .int x28_4), (6, .int x76_6)]) hx hb dX5_takeEvents_77 hl (by decide) rfl (fun ls hl => ?_)
        refine lv_aload_n hx hb dX5_takeEvents_79 rfl (lv_at hl 1 rfl) ?_
        refine lv_iload hx hb dX5_takeEvents_80 (lv_at hl 6 rfl) ?_
        refine lv_aload_n hx hb dX5_takeEvents_82 rfl (lv_at hl 1 rfl) ?_
        refine pg_r M V 5 0 (c_is_1 S) pC5 fk5_0 (c_r_1_0 S) lkF_X5_12 dX5_takeEvents_83 ?_
        refine pk_i (pr_V M V (m_X4_nextFirst l S I  ) km_X4_nextFirst (c_is_2 S) pC4 lkM_X5_49 rfl hl.1 rfl (Nat.le_of_ble_eq_true rfl) ⟨Nat.le_of_ble_eq_true rfl, Nat.le_of_ble_eq_true rfl⟩ ⟨Nat.le_of_ble_eq_true rfl, Nat.le_of_ble_eq_true rfl⟩ dX5_takeEvents_86) V (fun r6 Zr6 hr6 H locs pr6 _ _ V => ?_)
        obtain ⟨rfl, I, pA_r6⟩ := pr6
        have A := A.tr pA_r6 (by decide)
        have w_r6_2_4 : (hr6 2 4).toInt = (hJ 2 4).toInt := congrArg Int32.toInt (pA_r6.get 2 4 (by decide))
        refine lv_aload_n hx hb dX5_takeEvents_89 rfl (lv_at hl 1 rfl) ?_
        refine pg_r M V 5 0 (c_is_1 S) pC5 fk5_0 (c_r_1_0 S) lkF_X5_12 dX5_takeEvents_90 ?_
        refine pk_i (pr_V M V (m_X4_nextSecond l S I  ) km_X4_nextSecond (c_is_2 S) pC4 lkM_X5_52 rfl hl.1 rfl (Nat.le_of_ble_eq_true rfl) ⟨Nat.le_of_ble_eq_true rfl, Nat.le_of_ble_eq_true rfl⟩ ⟨Nat.le_of_ble_eq_true rfl, Nat.le_of_ble_eq_true rfl⟩ dX5_takeEvents_93) V (fun r7 Zr7 hr7 H locs pr7 _ _ V => ?_)
        obtain ⟨rfl, I, pA_r7⟩ := pr7
        have A := A.tr pA_r7 (by decide)
        have w_r7_2_4 : (hr7 2 4).toInt = (hr6 2 4).toInt := congrArg Int32.toInt (pA_r7.get 2 4 (by decide))
        refine pk_v (pr_V M V (m_X5_take l S I x76_6 r6 r7 ) km_X5_take (c_is_1 S) pC5 lkM_X5_55 rfl hl.1 rfl (Nat.le_of_ble_eq_true rfl) ⟨Nat.le_of_ble_eq_true rfl, Nat.le_of_ble_eq_true rfl⟩ ⟨Nat.le_of_ble_eq_true rfl, Nat.le_of_ble_eq_true rfl⟩ dX5_takeEvents_96) V (fun Zr8 hr8 H locs pr8 _ _ V => ?_)
        obtain ⟨rfl, I, pA_r8⟩ := pr8
        have A := A.tr pA_r8 (by decide)
        have w_r8_2_4 : (hr8 2 4).toInt = (hr7 2 4).toInt := congrArg Int32.toInt (pA_r8.get 2 4 (by decide))
        refine lv_aload_n hx hb dX5_takeEvents_99 rfl (lv_at hl 1 rfl) ?_
        refine pg_r M V 5 0 (c_is_1 S) pC5 fk5_0 (c_r_1_0 S) lkF_X5_12 dX5_takeEvents_100 ?_
        refine pk_v (pr_V M V (m_X4_drop l S I  ) km_X4_drop (c_is_2 S) pC4 lkM_X5_59 rfl hl.1 rfl (Nat.le_of_ble_eq_true rfl) ⟨Nat.le_of_ble_eq_true rfl, Nat.le_of_ble_eq_true rfl⟩ ⟨Nat.le_of_ble_eq_true rfl, Nat.le_of_ble_eq_true rfl⟩ dX5_takeEvents_103) V (fun Zr9 hr9 H locs pr9 _ _ V => ?_)
        obtain ⟨rfl, I, pA_r9, fr9_0⟩ := pr9
        have A := A.tr pA_r9 (by decide)
        obtain ⟨v10, ev10⟩ : ∃ y : Int32, y = x28_4 + 1 := ⟨_, rfl⟩
        refine lv_iinc (v := v10) (lv' := [(4, .int v10), (5, .int v5), (0, .ref (zB Z + 1)), (1, .int x28_1), (2, .int x28_2), (3, .int x28_3), (6, .int x76_6)]) hx hb dX5_takeEvents_106 hl (k := 5) rfl (by rw [ev10]; rfl) (by decide) rfl (fun ls hl => ?_)
        refine lv_goto (tgt := 28) hx hb dX5_takeEvents_109 (by decide) ?_
        have k_1 : (1 : Int32).toInt = 1 := rfl
        have tv10 : v10.toInt = x28_4.toInt + 1 := by rw [ev10]; have z9 := pi_add (x := x28_4) (y := (1 : Int32)); rw [k_1] at z9; exact z9 (by omega)
        have tv5 : 0 ≤ v5.toInt ∧ v5.toInt ≤ 1 := by rw [ev5]; exact pi_or01 (by omega) (by omega)
        exact ih_28 x28_1 x28_2 x28_3 v10 v5 _ _ _ _ V I (A.wk (by decide)) (lv_sub hl [2, 3, 4, 5, 0, 1] rfl) (by omega) (by omega) (by omega) (show (hr9 2 4).toInt ≤ (h 2 4).toInt by omega) (by omega) 
      have J_71 : ∀ (x71_6 : Int32) (y71_0 : Int32) (hJ : pH) (H : Heap) (locs : List Loc) (ls : Array Slot), pV Z hJ s.heap H locs → Iv Z hJ → agrD [(1, 1000), (2, 3), (2, 4), (6, 1000), (7, 1000), (8, 1000), (9, 1000)] h hJ → lv_has ls 7 [(0, .ref (zB Z + 1)), (1, .int x28_1), (2, .int x28_2), (3, .int x28_3), (4, .int x28_4), (5, .int x28_5), (6, .int x71_6)] → (1 ≤ x28_3.toInt ∧ x28_3.toInt ≤ 64) → (0 ≤ x28_4.toInt ∧ x28_4.toInt ≤ 63) → (0 ≤ x28_5.toInt ∧ x28_5.toInt ≤ 1) → (1 ≤ x71_6.toInt ∧ x71_6.toInt ≤ 2) → (0 ≤ y71_0.toInt ∧ y71_0.toInt ≤ 1) → ((hJ 2 4).toInt ≤ (h 2 4).toInt) → W p l e (pRm 3 0 0 68) s m ([.ref (zB Z + 1)] : List Value).toArray below meth c H locs 0 0 (MQ below (pQi Z (fun r Z1 h1 => Z = Z1 ∧ Iv Z h1 ∧ agrD [(1, 1000), (2, 3), (2, 4), (6, 1000), (7, 1000), (8, 1000), (9, 1000)] h h1 ∧ ((h1 2 4).toInt ≤ (h 2 4).toInt))) ([.ref (zB Z + 1)] : List Value).toArray s 0 0 (pA (zB Z))) (F0 m 71 ls [.int y71_0]) := by
        intro x71_6 y71_0 hJ H locs ls V I A hl g_71_3 g_71_4 g_71_5 g_71_6 gs_71_0 e2_71
        refine lv_iconst (v := 1) hx hb dX5_takeEvents_71 (by decide) ?_
        refine lv_goto (tgt := 76) hx hb dX5_takeEvents_72 (by decide) ?_
        have k_1 : (1 : Int32).toInt = 1 := rfl
        exact J_76 x71_6 (1 : Int32) y71_0 _ _ _ _ V I (A.wk (by decide)) (lv_sub hl [0, 1, 2, 3, 4, 5, 6] rfl) (by omega) (by omega) (by omega) (by omega) (by omega) (show (hJ 2 4).toInt ≤ (h 2 4).toInt by omega) 
      have J_57 : ∀ (x57_6 : Int32) (hJ : pH) (H : Heap) (locs : List Loc) (ls : Array Slot), pV Z hJ s.heap H locs → Iv Z hJ → agrD [(1, 1000), (2, 3), (2, 4), (6, 1000), (7, 1000), (8, 1000), (9, 1000)] h hJ → lv_has ls 7 [(0, .ref (zB Z + 1)), (1, .int x28_1), (2, .int x28_2), (3, .int x28_3), (4, .int x28_4), (5, .int x28_5), (6, .int x57_6)] → (1 ≤ x28_3.toInt ∧ x28_3.toInt ≤ 64) → (0 ≤ x28_4.toInt ∧ x28_4.toInt ≤ 63) → (0 ≤ x28_5.toInt ∧ x28_5.toInt ≤ 1) → ((hJ 2 4).toInt ≤ (h 2 4).toInt) → W p l e (pRm 3 0 0 68) s m ([.ref (zB Z + 1)] : List Value).toArray below meth c H locs 0 0 (MQ below (pQi Z (fun r Z1 h1 => Z = Z1 ∧ Iv Z h1 ∧ agrD [(1, 1000), (2, 3), (2, 4), (6, 1000), (7, 1000), (8, 1000), (9, 1000)] h h1 ∧ ((h1 2 4).toInt ≤ (h 2 4).toInt))) ([.ref (zB Z + 1)] : List Value).toArray s 0 0 (pA (zB Z))) (F0 m 57 ls []) := by
        intro x57_6 hJ H locs ls V I A hl g_57_3 g_57_4 g_57_5 e2_57
        refine lv_iload hx hb dX5_takeEvents_57 (lv_at hl 5 rfl) ?_
        refine lv_iload hx hb dX5_takeEvents_59 (lv_at hl 6 rfl) ?_
        refine lv_iconst (v := 1) hx hb dX5_takeEvents_61 (by decide) ?_
        refine lv_icmp_eq (tgt := 71) hx hb dX5_takeEvents_62 (by decide) (fun c_62 => ?_) (fun c_62 => ?_)
        · skip
          have k_1 : (1 : Int32).toInt = 1 := rfl
          have c_62 := pi_eq.mp c_62
          exact J_71 x57_6 x28_5 _ _ _ _ V I (A.wk (by decide)) (lv_sub hl [0, 1, 2, 3, 4, 5, 6] rfl) (by omega) (by omega) (by omega) (by omega) (by omega) (show (hJ 2 4).toInt ≤ (h 2 4).toInt by omega) 
        · skip
          have k_1 : (1 : Int32).toInt = 1 := rfl
          have c_62 := pi_ne c_62
          refine lv_iload hx hb dX5_takeEvents_65 (lv_at hl 6 rfl) ?_
          refine lv_iconst (v := 2) hx hb dX5_takeEvents_67 (by decide) ?_
          refine lv_icmp_ne (tgt := 75) hx hb dX5_takeEvents_68 (by decide) (fun c_68 => ?_) (fun c_68 => ?_)
          · skip
            have k_2 : (2 : Int32).toInt = 2 := rfl
            have c_68 := pi_ne c_68
            refine lv_iconst (v := 0) hx hb dX5_takeEvents_75 (by decide) ?_
            have k_0 : (0 : Int32).toInt = 0 := rfl
            exact J_76 x57_6 (0 : Int32) x28_5 _ _ _ _ V I (A.wk (by decide)) (lv_sub hl [0, 1, 2, 3, 4, 5, 6] rfl) (by omega) (by omega) (by omega) (by omega) (by omega) (show (hJ 2 4).toInt ≤ (h 2 4).toInt by omega) 
          · skip
            have k_2 : (2 : Int32).toInt = 2 := rfl
            have c_68 := pi_eq.mp c_68
            exact J_71 x57_6 x28_5 _ _ _ _ V I (A.wk (by decide)) (lv_sub hl [0, 1, 2, 3, 4, 5, 6] rfl) (by omega) (by omega) (by omega) (by omega) (by omega) (show (hJ 2 4).toInt ≤ (h 2 4).toInt by omega) 
      refine lv_iload hx hb dX5_takeEvents_28 (lv_at hl 4 rfl) ?_
      refine lv_iload_n hx hb dX5_takeEvents_30 rfl (lv_at hl 3 rfl) ?_
      refine lv_icmp_ge (tgt := 112) hx hb dX5_takeEvents_31 (by decide) (fun c_31 => ?_) (fun c_31 => ?_)
      · skip
        have c_31 := pi_le.mp c_31
        exact J_112 x28_1 x28_2 x28_3 x28_4 x28_5 _ _ _ _ V I (A.wk (by decide)) (lv_sub hl [0, 1, 2, 3, 4, 5] rfl) (by omega) (by omega) (by omega) (show (hJ 2 4).toInt ≤ (h 2 4).toInt by omega) 
      · skip
        have c_31 := pi_le' c_31
        refine lv_aload_n hx hb dX5_takeEvents_34 rfl (lv_at hl 0 rfl) ?_
        refine pg_r M V 5 0 (c_is_1 S) pC5 fk5_0 (c_r_1_0 S) lkF_X5_12 dX5_takeEvents_35 ?_
        refine pk_i (pr_V M V (m_X4_nextKind l S I  ) km_X4_nextKind (c_is_2 S) pC4 lkM_X5_45 rfl hl.1 rfl (Nat.le_of_ble_eq_true rfl) ⟨Nat.le_of_ble_eq_true rfl, Nat.le_of_ble_eq_true rfl⟩ ⟨Nat.le_of_ble_eq_true rfl, Nat.le_of_ble_eq_true rfl⟩ dX5_takeEvents_38) V (fun r11 Zr11 hr11 H locs pr11 _ _ V => ?_)
        obtain ⟨rfl, I, pA_r11⟩ := pr11
        have A := A.tr pA_r11 (by decide)
        have w_r11_2_4 : (hr11 2 4).toInt = (hJ 2 4).toInt := congrArg Int32.toInt (pA_r11.get 2 4 (by decide))
        refine lv_istore (lv' := [(6, .int r11), (0, .ref (zB Z + 1)), (1, .int x28_1), (2, .int x28_2), (3, .int x28_3), (4, .int x28_4), (5, .int x28_5)]) hx hb dX5_takeEvents_41 hl (by decide) rfl (fun ls hl => ?_)
        refine lv_iload hx hb dX5_takeEvents_43 (lv_at hl 6 rfl) ?_
        refine lv_if_eq (tgt := 57) hx hb dX5_takeEvents_45 (by decide) (fun c_45 => ?_) (fun c_45 => ?_)
        · skip
          have k_0 : (0 : Int32).toInt = 0 := rfl
          have c_45 := pi_eq.mp c_45
          exact J_57 r11 _ _ _ _ V I (A.wk (by decide)) (lv_sub hl [1, 2, 3, 4, 5, 6, 0] rfl) (by omega) (by omega) (by omega) (show (hr11 2 4).toInt ≤ (h 2 4).toInt by omega) 
        · skip
          have k_0 : (0 : Int32).toInt = 0 := rfl
          have c_45 := pi_ne c_45
          refine lv_iload hx hb dX5_takeEvents_48 (lv_at hl 0 rfl) ?_
          refine lv_iconst (v := 2) hx hb dX5_takeEvents_50 (by decide) ?_
          refine lv_icmp_gt (tgt := 57) hx hb dX5_takeEvents_51 (by decide) (fun c_51 => ?_) (fun c_51 => ?_)
          · skip
            have k_2 : (2 : Int32).toInt = 2 := rfl
            have c_51 := pi_lt.mp c_51
            exact J_57 r11 _ _ _ _ V I (A.wk (by decide)) (lv_sub hl [1, 2, 3, 4, 5, 6, 0] rfl) (by omega) (by omega) (by omega) (show (hr11 2 4).toInt ≤ (h 2 4).toInt by omega) 
          · skip
            have k_2 : (2 : Int32).toInt = 2 := rfl
            have c_51 := pi_lt' c_51
            refine lv_goto (tgt := 112) hx hb dX5_takeEvents_54 (by decide) ?_
            exact J_112 x28_1 x28_2 x28_3 x28_4 x28_5 _ _ _ _ V I (A.wk (by decide)) (lv_sub hl [1, 2, 3, 4, 5, 6] rfl) (by omega) (by omega) (by omega) (show (hr11 2 4).toInt ≤ (h 2 4).toInt by omega) 
  refine lv_aload_n hx hb dX5_takeEvents_0 rfl (lv_at hl 0 rfl) ?_
  refine pg_i M V 5 7 (c_is_1 S) pC5 fk5_7 lkF_X5_32 dX5_takeEvents_1 ?_
  refine lv_topi (fun v12 ev12 => ?_)
  refine lv_istore_n (lv' := [(1, .int v12), (0, .ref (zB Z + 1))]) hx hb dX5_takeEvents_4 rfl hl (by decide) rfl (fun ls hl => ?_)
  refine lv_aload_n hx hb dX5_takeEvents_5 rfl (lv_at hl 1 rfl) ?_
  refine pg_i M V 5 8 (c_is_1 S) pC5 fk5_8 lkF_X5_36 dX5_takeEvents_6 ?_
  refine lv_topi (fun v13 ev13 => ?_)
  refine lv_istore_n (lv' := [(2, .int v13), (1, .int v12), (0, .ref (zB Z + 1))]) hx hb dX5_takeEvents_9 rfl hl (by decide) rfl (fun ls hl => ?_)
  refine lv_aload_n hx hb dX5_takeEvents_10 rfl (lv_at hl 2 rfl) ?_
  refine pg_r M V 5 0 (c_is_1 S) pC5 fk5_0 (c_r_1_0 S) lkF_X5_12 dX5_takeEvents_11 ?_
  refine pg_i M V 4 4 (c_is_2 S) pC4 fk4_4 lkF_X5_39 dX5_takeEvents_14 ?_
  refine lv_topi (fun v14 ev14 => ?_)
  have tv14 : 0 ≤ v14.toInt ∧ v14.toInt ≤ 64 := by rw [ev14]; exact I.get (c_is_2 S) 4
  refine lv_istore_n (lv' := [(3, .int v14), (2, .int v13), (1, .int v12), (0, .ref (zB Z + 1))]) hx hb dX5_takeEvents_17 rfl hl (by decide) rfl (fun ls hl => ?_)
  refine lv_iconst (v := 0) hx hb dX5_takeEvents_18 (by decide) ?_
  refine lv_istore (lv' := [(4, .int (0 : Int32)), (3, .int v14), (2, .int v13), (1, .int v12), (0, .ref (zB Z + 1))]) hx hb dX5_takeEvents_19 hl (by decide) rfl (fun ls hl => ?_)
  refine lv_iconst (v := 0) hx hb dX5_takeEvents_21 (by decide) ?_
  refine lv_istore (lv' := [(5, .int (0 : Int32)), (4, .int (0 : Int32)), (3, .int v14), (2, .int v13), (1, .int v12), (0, .ref (zB Z + 1))]) hx hb dX5_takeEvents_22 hl (by decide) rfl (fun ls hl => ?_)
  refine lv_aload_n hx hb dX5_takeEvents_24 rfl (lv_at hl 5 rfl) ?_
  refine pk_v (pr_V M V (m_X5_forgetFrame l S I  ) km_X5_forgetFrame (c_is_1 S) pC5 lkM_X5_42 rfl hl.1 rfl (Nat.le_of_ble_eq_true rfl) ⟨Nat.le_of_ble_eq_true rfl, Nat.le_of_ble_eq_true rfl⟩ ⟨Nat.le_of_ble_eq_true rfl, Nat.le_of_ble_eq_true rfl⟩ dX5_takeEvents_25) V (fun Zr15 hr15 H locs pr15 _ _ V => ?_)
  obtain ⟨rfl, I, pA_r15⟩ := pr15
  have A := A.wk (l3 := [(1, 1000), (7, 1000), (8, 1000)]) (by decide)
  have A := A.tr pA_r15 (by decide)
  have w_r15_2_4 : (hr15 2 4).toInt = (h 2 4).toInt := congrArg Int32.toInt (pA_r15.get 2 4 (by decide))
  have k_0 : (0 : Int32).toInt = 0 := rfl
  exact J_28 _ v12 v13 v14 (0 : Int32) (0 : Int32) _ _ _ _ V I (A.wk (by decide)) (lv_sub hl [5, 4, 3, 2, 1, 0] rfl) (by omega) (by omega) (by omega) (show (hr15 2 4).toInt ≤ (h 2 4).toInt by omega) (Nat.lt_succ_self _) 
theorem dX6_findWheelKid_0 : decode cX6_findWheelKid 0 = .ok (.aload_n 0, 1) := by decide +kernel
theorem dX6_findWheelKid_1 : decode cX6_findWheelKid 1 = .ok (.iconst (-1), 1) := by decide +kernel
theorem dX6_findWheelKid_2 : decode cX6_findWheelKid 2 = .ok (.putfield 32, 3) := by decide +kernel
theorem dX6_findWheelKid_5 : decode cX6_findWheelKid 5 = .ok (.iconst 0, 1) := by decide +kernel
theorem dX6_findWheelKid_6 : decode cX6_findWheelKid 6 = .ok (.istore_n 3, 1) := by decide +kernel
theorem dX6_findWheelKid_7 : decode cX6_findWheelKid 7 = .ok (.iload_n 3, 1) := by decide +kernel
theorem dX6_findWheelKid_8 : decode cX6_findWheelKid 8 = .ok (.aload_n 0, 1) := by decide +kernel
theorem dX6_findWheelKid_9 : decode cX6_findWheelKid 9 = .ok (.getfield 36, 3) := by decide +kernel
theorem dX6_findWheelKid_12 : decode cX6_findWheelKid 12 = .ok (.if_icmp .ge 49, 3) := by decide +kernel
theorem dX6_findWheelKid_15 : decode cX6_findWheelKid 15 = .ok (.iload_n 3, 1) := by decide +kernel
theorem dX6_findWheelKid_16 : decode cX6_findWheelKid 16 = .ok (.bipush 8, 2) := by decide +kernel
theorem dX6_findWheelKid_18 : decode cX6_findWheelKid 18 = .ok (.if_icmp .ge 43, 3) := by decide +kernel
theorem dX6_findWheelKid_21 : decode cX6_findWheelKid 21 = .ok (.aload_n 0, 1) := by decide +kernel
theorem dX6_findWheelKid_22 : decode cX6_findWheelKid 22 = .ok (.getfield 18, 3) := by decide +kernel
theorem dX6_findWheelKid_25 : decode cX6_findWheelKid 25 = .ok (.iload_n 3, 1) := by decide +kernel
theorem dX6_findWheelKid_26 : decode cX6_findWheelKid 26 = .ok (.iaload, 1) := by decide +kernel
theorem dX6_findWheelKid_27 : decode cX6_findWheelKid 27 = .ok (.iload_n 1, 1) := by decide +kernel
theorem dX6_findWheelKid_28 : decode cX6_findWheelKid 28 = .ok (.if_icmp .ne 27, 3) := by decide +kernel
theorem dX6_findWheelKid_31 : decode cX6_findWheelKid 31 = .ok (.aload_n 0, 1) := by decide +kernel
theorem dX6_findWheelKid_32 : decode cX6_findWheelKid 32 = .ok (.iload_n 3, 1) := by decide +kernel
theorem dX6_findWheelKid_33 : decode cX6_findWheelKid 33 = .ok (.invokevirtual 39, 3) := by decide +kernel
theorem dX6_findWheelKid_36 : decode cX6_findWheelKid 36 = .ok (.aload_n 2, 1) := by decide +kernel
theorem dX6_findWheelKid_37 : decode cX6_findWheelKid 37 = .ok (.getfield 43, 3) := by decide +kernel
theorem dX6_findWheelKid_40 : decode cX6_findWheelKid 40 = .ok (.aload_n 2, 1) := by decide +kernel
theorem dX6_findWheelKid_41 : decode cX6_findWheelKid 41 = .ok (.getfield 48, 3) := by decide +kernel
theorem dX6_findWheelKid_44 : decode cX6_findWheelKid 44 = .ok (.invokevirtual 51, 3) := by decide +kernel
theorem dX6_findWheelKid_47 : decode cX6_findWheelKid 47 = .ok (.ifCond .eq 8, 3) := by decide +kernel
theorem dX6_findWheelKid_50 : decode cX6_findWheelKid 50 = .ok (.aload_n 0, 1) := by decide +kernel
theorem dX6_findWheelKid_51 : decode cX6_findWheelKid 51 = .ok (.iload_n 3, 1) := by decide +kernel
theorem dX6_findWheelKid_52 : decode cX6_findWheelKid 52 = .ok (.putfield 32, 3) := by decide +kernel
theorem dX6_findWheelKid_55 : decode cX6_findWheelKid 55 = .ok (.iinc 3 1, 3) := by decide +kernel
theorem dX6_findWheelKid_58 : decode cX6_findWheelKid 58 = .ok (.goto (-51), 3) := by decide +kernel
theorem dX6_findWheelKid_61 : decode cX6_findWheelKid 61 = .ok (.return_, 1) := by decide +kernel
set_option maxHeartbeats 4000000 in
set_option maxRecDepth 100000 in
theorem m_X6_findWheelKid (l : Launch) {Z : pZ} (S : pSh Z) {h : pH} (I : Iv Z h) (window : Int32)  : pMet l yX6_findWheelKid cX6_findWheelKid 4 none 2 0 0 44 Z h [.ref (zB Z + 22), .int window, .ref (zB Z + 1)] (pQv Z (fun Z1 h1 => Z = Z1 ∧ Iv Z h1 ∧ agrD [(22, 6)] h h1)) := by
  refine pOfW (lv := [(0, .ref (zB Z + 22)), (1, .int window), (2, .ref (zB Z + 1))]) (by decide) (Nat.le_of_ble_eq_true rfl) rfl ?_
  intro p e s m below meth c ls M hr hlk hnm V hl
  have hx := M.1.1
  have hb := M.1.2.1
  have A : agrD [] h h := agrD.rf
  have J_61 : ∀ (x61_3 : Int32) (hJ : pH) (H : Heap) (locs : List Loc) (ls : Array Slot), pV Z hJ s.heap H locs → Iv Z hJ → agrD [(22, 6)] h hJ → lv_has ls 4 [(0, .ref (zB Z + 22)), (1, .int window), (2, .ref (zB Z + 1)), (3, .int x61_3)] → (0 ≤ x61_3.toInt ∧ x61_3.toInt ≤ 8) → W p l e (pRm 2 0 0 44) s m ([.ref (zB Z + 22), .int window, .ref (zB Z + 1)] : List Value).toArray below meth c H locs 0 0 (MQ below (pQv Z (fun Z1 h1 => Z = Z1 ∧ Iv Z h1 ∧ agrD [(22, 6)] h h1)) ([.ref (zB Z + 22), .int window, .ref (zB Z + 1)] : List Value).toArray s 0 0 (pA (zB Z))) (F0 m 61 ls []) := by
    intro x61_3 hJ H locs ls V I A hl g_61_3
    exact pe_v M V rfl rfl hr hlk ⟨rfl, I, A.wk (by decide)⟩ ⟨Nat.le_refl _, Nat.le_refl _⟩ dX6_findWheelKid_61
  have J_7 : ∀ (n9 : Nat) (x7_3 : Int32) (hJ : pH) (H : Heap) (locs : List Loc) (ls : Array Slot), pV Z hJ s.heap H locs → Iv Z hJ → agrD [(22, 6)] h hJ → lv_has ls 4 [(0, .ref (zB Z + 22)), (1, .int window), (2, .ref (zB Z + 1)), (3, .int x7_3)] → (0 ≤ x7_3.toInt ∧ x7_3.toInt ≤ 8) → (8 - x7_3.toInt).toNat < n9 → W p l e (pRm 2 0 0 44) s m ([.ref (zB Z + 22), .int window, .ref (zB Z + 1)] : List Value).toArray below meth c H locs 0 0 (MQ below (pQv Z (fun Z1 h1 => Z = Z1 ∧ Iv Z h1 ∧ agrD [(22, 6)] h h1)) ([.ref (zB Z + 22), .int window, .ref (zB Z + 1)] : List Value).toArray s 0 0 (pA (zB Z))) (F0 m 7 ls []) := by
    intro n9
    induction n9 with
    | zero => intro x7_3 hJ H locs ls V I A hl g_7_3 hm9; exact absurd hm9 (Nat.not_lt_zero _)
    | succ n9 ih_7 =>
      intro x7_3 hJ H locs ls V I A hl g_7_3 hm9
      have J_55 : ∀ (hJ : pH) (H : Heap) (locs : List Loc) (ls : Array Slot), pV Z hJ s.heap H locs → Iv Z hJ → agrD [(22, 6)] h hJ → lv_has ls 4 [(0, .ref (zB Z + 22)), (1, .int window), (2, .ref (zB Z + 1)), (3, .int x7_3)] → (0 ≤ x7_3.toInt ∧ x7_3.toInt ≤ 7) → W p l e (pRm 2 0 0 44) s m ([.ref (zB Z + 22), .int window, .ref (zB Z + 1)] : List Value).toArray below meth c H locs 0 0 (MQ below (pQv Z (fun Z1 h1 => Z = Z1 ∧ Iv Z h1 ∧ agrD [(22, 6)] h h1)) ([.ref (zB Z + 22), .int window, .ref (zB Z + 1)] : List Value).toArray s 0 0 (pA (zB Z))) (F0 m 55 ls []) := by
        intro hJ H locs ls V I A hl g_55_3
        obtain ⟨v1, ev1⟩ : ∃ y : Int32, y = x7_3 + 1 := ⟨_, rfl⟩
        refine lv_iinc (v := v1) (lv' := [(3, .int v1), (0, .ref (zB Z + 22)), (1, .int window), (2, .ref (zB Z + 1))]) hx hb dX6_findWheelKid_55 hl (k := 3) rfl (by rw [ev1]; rfl) (by decide) rfl (fun ls hl => ?_)
        refine lv_goto (tgt := 7) hx hb dX6_findWheelKid_58 (by decide) ?_
        have k_1 : (1 : Int32).toInt = 1 := rfl
        have tv1 : v1.toInt = x7_3.toInt + 1 := by rw [ev1]; have z9 := pi_add (x := x7_3) (y := (1 : Int32)); rw [k_1] at z9; exact z9 (by omega)
        exact ih_7 v1 _ _ _ _ V I (A.wk (by decide)) (lv_sub hl [1, 2, 3, 0] rfl) (by omega) (by omega) 
      refine lv_iload_n hx hb dX6_findWheelKid_7 rfl (lv_at hl 3 rfl) ?_
      refine lv_aload_n hx hb dX6_findWheelKid_8 rfl (lv_at hl 0 rfl) ?_
      refine pg_i M V 6 5 (c_is_22 S) pC6 fk6_5 lkF_X6_36 dX6_findWheelKid_9 ?_
      refine lv_topi (fun v2 ev2 => ?_)
      refine lv_icmp_ge (tgt := 61) hx hb dX6_findWheelKid_12 (by decide) (fun c_12 => ?_) (fun c_12 => ?_)
      · skip
        have c_12 := pi_le.mp c_12
        exact J_61 x7_3 _ _ _ _ V I (A.wk (by decide)) (lv_sub hl [0, 1, 2, 3] rfl) (by omega) 
      · skip
        have c_12 := pi_le' c_12
        refine lv_iload_n hx hb dX6_findWheelKid_15 rfl (lv_at hl 3 rfl) ?_
        refine lv_bipush (v := 8) hx hb dX6_findWheelKid_16 (by decide) ?_
        refine lv_icmp_ge (tgt := 61) hx hb dX6_findWheelKid_18 (by decide) (fun c_18 => ?_) (fun c_18 => ?_)
        · skip
          have k_8 : (8 : Int32).toInt = 8 := rfl
          have c_18 := pi_le.mp c_18
          exact J_61 x7_3 _ _ _ _ V I (A.wk (by decide)) (lv_sub hl [0, 1, 2, 3] rfl) (by omega) 
        · skip
          have k_8 : (8 : Int32).toInt = 8 := rfl
          have c_18 := pi_le' c_18
          refine lv_aload_n hx hb dX6_findWheelKid_21 rfl (lv_at hl 0 rfl) ?_
          refine pg_r M V 6 2 (c_is_22 S) pC6 fk6_2 (c_r_22_2 S) lkF_X6_18 dX6_findWheelKid_22 ?_
          refine lv_iload_n hx hb dX6_findWheelKid_25 rfl (lv_at hl 3 rfl) ?_
          refine pa_i M V (c_is_25 S) (by rw [c_n_25 S]; exact pi_in (by omega)) dX6_findWheelKid_26 ?_
          refine lv_topi (fun v3 ev3 => ?_)
          refine lv_iload_n hx hb dX6_findWheelKid_27 rfl (lv_at hl 1 rfl) ?_
          refine lv_icmp_ne (tgt := 55) hx hb dX6_findWheelKid_28 (by decide) (fun c_28 => ?_) (fun c_28 => ?_)
          · skip
            have c_28 := pi_ne c_28
            exact J_55 _ _ _ _ V I (A.wk (by decide)) (lv_sub hl [0, 1, 2, 3] rfl) (by omega) 
          · skip
            have c_28 := pi_eq.mp c_28
            refine lv_aload_n hx hb dX6_findWheelKid_31 rfl (lv_at hl 0 rfl) ?_
            refine lv_iload_n hx hb dX6_findWheelKid_32 rfl (lv_at hl 3 rfl) ?_
            refine pk_r (pr_V M V (m_X6_clipOf l S I x7_3) km_X6_clipOf (c_is_22 S) pC6 lkM_X6_39 rfl hl.1 rfl (Nat.le_of_ble_eq_true rfl) ⟨Nat.le_of_ble_eq_true rfl, Nat.le_of_ble_eq_true rfl⟩ ⟨Nat.le_of_ble_eq_true rfl, Nat.le_of_ble_eq_true rfl⟩ dX6_findWheelKid_33) V (fun r4 Zr4 hr4 H locs pr4 _ _ V => ?_)
            obtain ⟨rfl, rfl, fr4_0⟩ := pr4
            refine lv_aload_n hx hb dX6_findWheelKid_36 rfl (lv_at hl 2 rfl) ?_
            refine pg_i M V 5 7 (c_is_1 S) pC5 fk5_7 lkF_X6_43 dX6_findWheelKid_37 ?_
            refine lv_topi (fun v5 ev5 => ?_)
            refine lv_aload_n hx hb dX6_findWheelKid_40 rfl (lv_at hl 2 rfl) ?_
            refine pg_i M V 5 8 (c_is_1 S) pC5 fk5_8 lkF_X6_48 dX6_findWheelKid_41 ?_
            refine lv_topi (fun v6 ev6 => ?_)
            refine pk_i (pr_V M V (m_X2_has l S I r4 fr4_0 v5 v6 ) km_X2_has fr4_0 pC2 lkM_X6_51 rfl hl.1 rfl (Nat.le_of_ble_eq_true rfl) ⟨Nat.le_of_ble_eq_true rfl, Nat.le_of_ble_eq_true rfl⟩ ⟨Nat.le_of_ble_eq_true rfl, Nat.le_of_ble_eq_true rfl⟩ dX6_findWheelKid_44) V (fun r7 Zr7 hr7 H locs pr7 _ _ V => ?_)
            obtain ⟨rfl, I, pA_r7, fr7_0⟩ := pr7
            have A := A.tr pA_r7 (by decide)
            refine lv_if_eq (tgt := 55) hx hb dX6_findWheelKid_47 (by decide) (fun c_47 => ?_) (fun c_47 => ?_)
            · skip
              have k_0 : (0 : Int32).toInt = 0 := rfl
              have c_47 := pi_eq.mp c_47
              exact J_55 _ _ _ _ V I (A.wk (by decide)) (lv_sub hl [0, 1, 2, 3] rfl) (by omega) 
            · skip
              have k_0 : (0 : Int32).toInt = 0 := rfl
              have c_47 := pi_ne c_47
              refine lv_aload_n hx hb dX6_findWheelKid_50 rfl (lv_at hl 0 rfl) ?_
              refine lv_iload_n hx hb dX6_findWheelKid_51 rfl (lv_at hl 3 rfl) ?_
              refine pp_i M V 6 6 (c_is_22 S) pC6 fk6_6 rfl lkF_X6_32 ⟨rfl, rfl⟩ dX6_findWheelKid_52 (fun H locs V => ?_)
              have A := A.up (o := 22) (k := 6) (v := x7_3) (by decide)
              have I := I.up (k := 6) (v := x7_3) (c_is_22 S) (pi_full _)
              exact J_55 _ _ _ _ V I (A.wk (by decide)) (lv_sub hl [0, 1, 2, 3] rfl) (by omega) 
  refine lv_aload_n hx hb dX6_findWheelKid_0 rfl (lv_at hl 0 rfl) ?_
  refine lv_iconst (v := (-1)) hx hb dX6_findWheelKid_1 (by decide) ?_
  refine pp_i M V 6 6 (c_is_22 S) pC6 fk6_6 rfl lkF_X6_32 ⟨rfl, rfl⟩ dX6_findWheelKid_2 (fun H locs V => ?_)
  have A := A.wk (l3 := [(22, 6)]) (by decide)
  have A := A.up (o := 22) (k := 6) (v := (-1 : Int32)) (by decide)
  have I := I.up (k := 6) (v := (-1 : Int32)) (c_is_22 S) (pi_full _)
  refine lv_iconst (v := 0) hx hb dX6_findWheelKid_5 (by decide) ?_
  refine lv_istore_n (lv' := [(3, .int (0 : Int32)), (0, .ref (zB Z + 22)), (1, .int window), (2, .ref (zB Z + 1))]) hx hb dX6_findWheelKid_6 rfl hl (by decide) rfl (fun ls hl => ?_)
  have k_0 : (0 : Int32).toInt = 0 := rfl
  exact J_7 _ (0 : Int32) _ _ _ _ V I (A.wk (by decide)) (lv_sub hl [1, 2, 3, 0] rfl) (by omega) (Nat.lt_succ_self _) 
theorem dX10_takeLetterBack_0 : decode cX10_takeLetterBack 0 = .ok (.aload_n 0, 1) := by decide +kernel
theorem dX10_takeLetterBack_1 : decode cX10_takeLetterBack 1 = .ok (.getfield 21, 3) := by decide +kernel
theorem dX10_takeLetterBack_4 : decode cX10_takeLetterBack 4 = .ok (.iload_n 1, 1) := by decide +kernel
theorem dX10_takeLetterBack_5 : decode cX10_takeLetterBack 5 = .ok (.iaload, 1) := by decide +kernel
theorem dX10_takeLetterBack_6 : decode cX10_takeLetterBack 6 = .ok (.istore_n 2, 1) := by decide +kernel
theorem dX10_takeLetterBack_7 : decode cX10_takeLetterBack 7 = .ok (.aload_n 0, 1) := by decide +kernel
theorem dX10_takeLetterBack_8 : decode cX10_takeLetterBack 8 = .ok (.getfield 18, 3) := by decide +kernel
theorem dX10_takeLetterBack_11 : decode cX10_takeLetterBack 11 = .ok (.iload_n 1, 1) := by decide +kernel
theorem dX10_takeLetterBack_12 : decode cX10_takeLetterBack 12 = .ok (.iaload, 1) := by decide +kernel
theorem dX10_takeLetterBack_13 : decode cX10_takeLetterBack 13 = .ok (.istore_n 3, 1) := by decide +kernel
theorem dX10_takeLetterBack_14 : decode cX10_takeLetterBack 14 = .ok (.iload_n 3, 1) := by decide +kernel
theorem dX10_takeLetterBack_15 : decode cX10_takeLetterBack 15 = .ok (.iconst 1, 1) := by decide +kernel
theorem dX10_takeLetterBack_16 : decode cX10_takeLetterBack 16 = .ok (.bipush 12, 2) := by decide +kernel
theorem dX10_takeLetterBack_18 : decode cX10_takeLetterBack 18 = .ok (.invokestatic 35, 3) := by decide +kernel
theorem dX10_takeLetterBack_21 : decode cX10_takeLetterBack 21 = .ok (.ifCond .eq 12, 3) := by decide +kernel
theorem dX10_takeLetterBack_24 : decode cX10_takeLetterBack 24 = .ok (.iload_n 2, 1) := by decide +kernel
theorem dX10_takeLetterBack_25 : decode cX10_takeLetterBack 25 = .ok (.iconst 1, 1) := by decide +kernel
theorem dX10_takeLetterBack_26 : decode cX10_takeLetterBack 26 = .ok (.iload_n 3, 1) := by decide +kernel
theorem dX10_takeLetterBack_27 : decode cX10_takeLetterBack 27 = .ok (.invokestatic 35, 3) := by decide +kernel
theorem dX10_takeLetterBack_30 : decode cX10_takeLetterBack 30 = .ok (.ifCond .ne 4, 3) := by decide +kernel
theorem dX10_takeLetterBack_33 : decode cX10_takeLetterBack 33 = .ok (.return_, 1) := by decide +kernel
theorem dX10_takeLetterBack_34 : decode cX10_takeLetterBack 34 = .ok (.iload_n 1, 1) := by decide +kernel
theorem dX10_takeLetterBack_35 : decode cX10_takeLetterBack 35 = .ok (.bipush 12, 2) := by decide +kernel
theorem dX10_takeLetterBack_37 : decode cX10_takeLetterBack 37 = .ok (.imul, 1) := by decide +kernel
theorem dX10_takeLetterBack_38 : decode cX10_takeLetterBack 38 = .ok (.iload_n 2, 1) := by decide +kernel
theorem dX10_takeLetterBack_39 : decode cX10_takeLetterBack 39 = .ok (.iadd, 1) := by decide +kernel
theorem dX10_takeLetterBack_40 : decode cX10_takeLetterBack 40 = .ok (.istore 4, 2) := by decide +kernel
theorem dX10_takeLetterBack_42 : decode cX10_takeLetterBack 42 = .ok (.aload_n 0, 1) := by decide +kernel
theorem dX10_takeLetterBack_43 : decode cX10_takeLetterBack 43 = .ok (.getfield 24, 3) := by decide +kernel
theorem dX10_takeLetterBack_46 : decode cX10_takeLetterBack 46 = .ok (.iload 4, 2) := by decide +kernel
theorem dX10_takeLetterBack_48 : decode cX10_takeLetterBack 48 = .ok (.aload_n 0, 1) := by decide +kernel
theorem dX10_takeLetterBack_49 : decode cX10_takeLetterBack 49 = .ok (.getfield 24, 3) := by decide +kernel
theorem dX10_takeLetterBack_52 : decode cX10_takeLetterBack 52 = .ok (.iload 4, 2) := by decide +kernel
theorem dX10_takeLetterBack_54 : decode cX10_takeLetterBack 54 = .ok (.iconst 1, 1) := by decide +kernel
theorem dX10_takeLetterBack_55 : decode cX10_takeLetterBack 55 = .ok (.isub, 1) := by decide +kernel
theorem dX10_takeLetterBack_56 : decode cX10_takeLetterBack 56 = .ok (.iload_n 3, 1) := by decide +kernel
theorem dX10_takeLetterBack_57 : decode cX10_takeLetterBack 57 = .ok (.iload_n 2, 1) := by decide +kernel
theorem dX10_takeLetterBack_58 : decode cX10_takeLetterBack 58 = .ok (.isub, 1) := by decide +kernel
theorem dX10_takeLetterBack_59 : decode cX10_takeLetterBack 59 = .ok (.invokestatic 79, 3) := by decide +kernel
theorem dX10_takeLetterBack_62 : decode cX10_takeLetterBack 62 = .ok (.aload_n 0, 1) := by decide +kernel
theorem dX10_takeLetterBack_63 : decode cX10_takeLetterBack 63 = .ok (.getfield 18, 3) := by decide +kernel
theorem dX10_takeLetterBack_66 : decode cX10_takeLetterBack 66 = .ok (.iload_n 1, 1) := by decide +kernel
theorem dX10_takeLetterBack_67 : decode cX10_takeLetterBack 67 = .ok (.dup2, 1) := by decide +kernel
theorem dX10_takeLetterBack_68 : decode cX10_takeLetterBack 68 = .ok (.iaload, 1) := by decide +kernel
theorem dX10_takeLetterBack_69 : decode cX10_takeLetterBack 69 = .ok (.iconst 1, 1) := by decide +kernel
theorem dX10_takeLetterBack_70 : decode cX10_takeLetterBack 70 = .ok (.isub, 1) := by decide +kernel
theorem dX10_takeLetterBack_71 : decode cX10_takeLetterBack 71 = .ok (.iastore, 1) := by decide +kernel
theorem dX10_takeLetterBack_72 : decode cX10_takeLetterBack 72 = .ok (.aload_n 0, 1) := by decide +kernel
theorem dX10_takeLetterBack_73 : decode cX10_takeLetterBack 73 = .ok (.getfield 21, 3) := by decide +kernel
theorem dX10_takeLetterBack_76 : decode cX10_takeLetterBack 76 = .ok (.iload_n 1, 1) := by decide +kernel
theorem dX10_takeLetterBack_77 : decode cX10_takeLetterBack 77 = .ok (.dup2, 1) := by decide +kernel
theorem dX10_takeLetterBack_78 : decode cX10_takeLetterBack 78 = .ok (.iaload, 1) := by decide +kernel
theorem dX10_takeLetterBack_79 : decode cX10_takeLetterBack 79 = .ok (.iconst 1, 1) := by decide +kernel
theorem dX10_takeLetterBack_80 : decode cX10_takeLetterBack 80 = .ok (.isub, 1) := by decide +kernel
theorem dX10_takeLetterBack_81 : decode cX10_takeLetterBack 81 = .ok (.iastore, 1) := by decide +kernel
theorem dX10_takeLetterBack_82 : decode cX10_takeLetterBack 82 = .ok (.return_, 1) := by decide +kernel
set_option maxHeartbeats 4000000 in
set_option maxRecDepth 100000 in
theorem m_X10_takeLetterBack (l : Launch) {Z : pZ} (S : pSh Z) {h : pH} (I : Iv Z h) (slot : Int32) (hsl : 0 ≤ slot.toInt ∧ slot.toInt ≤ 39) : pMet l yX10_takeLetterBack cX10_takeLetterBack 5 none 1 0 0 26 Z h [.ref (zB Z + 123), .int slot] (pQv Z (fun Z1 h1 => Z = Z1 ∧ Iv Z h1 ∧ agrD [(126, 1000), (127, 1000), (128, 1000)] h h1)) := by
  refine pOfW (lv := [(0, .ref (zB Z + 123)), (1, .int slot)]) (by decide) (Nat.le_of_ble_eq_true rfl) rfl ?_
  intro p e s m below meth c ls M hr hlk hnm V hl
  have hx := M.1.1
  have hb := M.1.2.1
  have A : agrD [] h h := agrD.rf
  have J_33 : ∀ (x33_2 : Int32) (x33_3 : Int32) (hJ : pH) (H : Heap) (locs : List Loc) (ls : Array Slot), pV Z hJ s.heap H locs → Iv Z hJ → agrD [] h hJ → lv_has ls 5 [(0, .ref (zB Z + 123)), (1, .int slot), (2, .int x33_2), (3, .int x33_3)] → (0 ≤ slot.toInt ∧ slot.toInt ≤ 39) → (0 ≤ x33_3.toInt ∧ x33_3.toInt ≤ 12) → W p l e (pRm 1 0 0 26) s m ([.ref (zB Z + 123), .int slot] : List Value).toArray below meth c H locs 0 0 (MQ below (pQv Z (fun Z1 h1 => Z = Z1 ∧ Iv Z h1 ∧ agrD [(126, 1000), (127, 1000), (128, 1000)] h h1)) ([.ref (zB Z + 123), .int slot] : List Value).toArray s 0 0 (pA (zB Z))) (F0 m 33 ls []) := by
    intro x33_2 x33_3 hJ H locs ls V I A hl g_33_1 g_33_3
    exact pe_v M V rfl rfl hr hlk ⟨rfl, I, A.wk (by decide)⟩ ⟨Nat.le_refl _, Nat.le_refl _⟩ dX10_takeLetterBack_33
  refine lv_aload_n hx hb dX10_takeLetterBack_0 rfl (lv_at hl 0 rfl) ?_
  refine pg_r M V 10 3 (c_is_123 S) pC10 fk10_3 (c_r_123_3 S) lkF_X10_21 dX10_takeLetterBack_1 ?_
  refine lv_iload_n hx hb dX10_takeLetterBack_4 rfl (lv_at hl 1 rfl) ?_
  refine pa_i M V (c_is_127 S) (by rw [c_n_127 S]; exact pi_in (by omega)) dX10_takeLetterBack_5 ?_
  refine lv_topi (fun v1 ev1 => ?_)
  refine lv_istore_n (lv' := [(2, .int v1), (0, .ref (zB Z + 123)), (1, .int slot)]) hx hb dX10_takeLetterBack_6 rfl hl (by decide) rfl (fun ls hl => ?_)
  refine lv_aload_n hx hb dX10_takeLetterBack_7 rfl (lv_at hl 1 rfl) ?_
  refine pg_r M V 10 2 (c_is_123 S) pC10 fk10_2 (c_r_123_2 S) lkF_X10_18 dX10_takeLetterBack_8 ?_
  refine lv_iload_n hx hb dX10_takeLetterBack_11 rfl (lv_at hl 2 rfl) ?_
  refine pa_i M V (c_is_126 S) (by rw [c_n_126 S]; exact pi_in (by omega)) dX10_takeLetterBack_12 ?_
  refine lv_topi (fun v2 ev2 => ?_)
  have tv2 : 0 ≤ v2.toInt ∧ v2.toInt ≤ 12 := by rw [ev2]; exact I.get (c_is_126 S) _
  refine lv_istore_n (lv' := [(3, .int v2), (2, .int v1), (0, .ref (zB Z + 123)), (1, .int slot)]) hx hb dX10_takeLetterBack_13 rfl hl (by decide) rfl (fun ls hl => ?_)
  refine lv_iload_n hx hb dX10_takeLetterBack_14 rfl (lv_at hl 0 rfl) ?_
  refine lv_iconst (v := 1) hx hb dX10_takeLetterBack_15 (by decide) ?_
  refine lv_bipush (v := 12) hx hb dX10_takeLetterBack_16 (by decide) ?_
  have k_1 : (1 : Int32).toInt = 1 := rfl
  have k_12 : (12 : Int32).toInt = 12 := rfl
  refine pk_i (pr_SN M V (m_X11_isWithin l (Z := Z) (h := _) v2 (1 : Int32) (12 : Int32)) km_X11_isWithin lkN_X10_35 rfl hl.1 rfl (Nat.le_of_ble_eq_true rfl) ⟨Nat.le_of_ble_eq_true rfl, Nat.le_of_ble_eq_true rfl⟩ ⟨Nat.le_of_ble_eq_true rfl, Nat.le_of_ble_eq_true rfl⟩ dX10_takeLetterBack_18) V (fun r3 Zr3 hr3 H locs pr3 _ _ V => ?_)
  obtain ⟨rfl, rfl, fr3_0⟩ := pr3
  refine lv_if_eq (tgt := 33) hx hb dX10_takeLetterBack_21 (by decide) (fun c_21 => ?_) (fun c_21 => ?_)
  · skip
    have k_0 : (0 : Int32).toInt = 0 := rfl
    have c_21 := pi_eq.mp c_21
    exact J_33 v1 v2 _ _ _ _ V I (A.wk (by decide)) (lv_sub hl [2, 3, 1, 0] rfl) (by omega) (by omega) 
  · skip
    have k_0 : (0 : Int32).toInt = 0 := rfl
    have c_21 := pi_ne c_21
    refine lv_iload_n hx hb dX10_takeLetterBack_24 rfl (lv_at hl 1 rfl) ?_
    refine lv_iconst (v := 1) hx hb dX10_takeLetterBack_25 (by decide) ?_
    refine lv_iload_n hx hb dX10_takeLetterBack_26 rfl (lv_at hl 0 rfl) ?_
    refine pk_i (pr_SN M V (m_X11_isWithin l (Z := Z) (h := _) v1 (1 : Int32) v2) km_X11_isWithin lkN_X10_35 rfl hl.1 rfl (Nat.le_of_ble_eq_true rfl) ⟨Nat.le_of_ble_eq_true rfl, Nat.le_of_ble_eq_true rfl⟩ ⟨Nat.le_of_ble_eq_true rfl, Nat.le_of_ble_eq_true rfl⟩ dX10_takeLetterBack_27) V (fun r4 Zr4 hr4 H locs pr4 _ _ V => ?_)
    obtain ⟨rfl, rfl, fr4_0⟩ := pr4
    refine lv_if_ne (tgt := 34) hx hb dX10_takeLetterBack_30 (by decide) (fun c_30 => ?_) (fun c_30 => ?_)
    · skip
      have c_30 := pi_ne c_30
      refine lv_iload_n hx hb dX10_takeLetterBack_34 rfl (lv_at hl 3 rfl) ?_
      refine lv_bipush (v := 12) hx hb dX10_takeLetterBack_35 (by decide) ?_
      refine lv_imul hx hb dX10_takeLetterBack_37 ?_
      refine lv_topi (fun v5 ev5 => ?_)
      refine lv_iload_n hx hb dX10_takeLetterBack_38 rfl (lv_at hl 1 rfl) ?_
      refine lv_iadd hx hb dX10_takeLetterBack_39 ?_
      refine lv_topi (fun v6 ev6 => ?_)
      refine lv_istore (lv' := [(4, .int v6), (3, .int v2), (2, .int v1), (0, .ref (zB Z + 123)), (1, .int slot)]) hx hb dX10_takeLetterBack_40 hl (by decide) rfl (fun ls hl => ?_)
      refine lv_aload_n hx hb dX10_takeLetterBack_42 rfl (lv_at hl 3 rfl) ?_
      refine pg_r M V 10 4 (c_is_123 S) pC10 fk10_4 (c_r_123_4 S) lkF_X10_24 dX10_takeLetterBack_43 ?_
      refine lv_iload hx hb dX10_takeLetterBack_46 (lv_at hl 0 rfl) ?_
      refine lv_aload_n hx hb dX10_takeLetterBack_48 rfl (lv_at hl 3 rfl) ?_
      refine pg_r M V 10 4 (c_is_123 S) pC10 fk10_4 (c_r_123_4 S) lkF_X10_24 dX10_takeLetterBack_49 ?_
      refine lv_iload hx hb dX10_takeLetterBack_52 (lv_at hl 0 rfl) ?_
      refine lv_iconst (v := 1) hx hb dX10_takeLetterBack_54 (by decide) ?_
      refine lv_isub hx hb dX10_takeLetterBack_55 ?_
      refine lv_topi (fun v7 ev7 => ?_)
      refine lv_iload_n hx hb dX10_takeLetterBack_56 rfl (lv_at hl 1 rfl) ?_
      refine lv_iload_n hx hb dX10_takeLetterBack_57 rfl (lv_at hl 2 rfl) ?_
      refine lv_isub hx hb dX10_takeLetterBack_58 ?_
      refine lv_topi (fun v8 ev8 => ?_)
      have tv5 : v5.toInt = slot.toInt * 12 := by rw [ev5]; have z9 := pi_mul (x := slot) (y := (12 : Int32)); rw [k_12] at z9; exact z9 (by omega)
      have tv6 : v6.toInt = v5.toInt + v1.toInt := by rw [ev6]; exact pi_add (by omega)
      have tv7 : v7.toInt = v6.toInt - 1 := by rw [ev7]; have z9 := pi_sub (x := v6) (y := (1 : Int32)); rw [k_1] at z9; exact z9 (by omega)
      have tv8 : v8.toInt = v2.toInt - v1.toInt := by rw [ev8]; exact pi_sub (by omega)
      have n_128 := c_n_128 S
      have n_128 := c_n_128 S
      refine pa_copy M V (c_is_128 S) (c_is_128 S) hl.1 lkJ_X10_79 kM_copy (by omega) ⟨Nat.le_of_ble_eq_true rfl, Nat.le_of_ble_eq_true rfl⟩ dX10_takeLetterBack_59 (fun H locs g_59 V => ?_)
      have A := A.wk (l3 := [(128, 1000)]) (by decide)
      have A := A.up1 (o := 128) (f := g_59) (by decide)
      have I := I.up1 (f := g_59) (c_is_128 S) (fun _ => rfl)
      refine lv_aload_n hx hb dX10_takeLetterBack_62 rfl (lv_at hl 3 rfl) ?_
      refine pg_r M V 10 2 (c_is_123 S) pC10 fk10_2 (c_r_123_2 S) lkF_X10_18 dX10_takeLetterBack_63 ?_
      refine lv_iload_n hx hb dX10_takeLetterBack_66 rfl (lv_at hl 4 rfl) ?_
      refine lv_dup2_11 hx hb dX10_takeLetterBack_67 rfl rfl ?_
      refine pa_iv M V (v := v2) (c_is_126 S) (by rw [c_n_126 S]; exact pi_in (by omega)) ev2.symm dX10_takeLetterBack_68 ?_
      refine lv_iconst (v := 1) hx hb dX10_takeLetterBack_69 (by decide) ?_
      refine lv_isub hx hb dX10_takeLetterBack_70 ?_
      refine lv_topi (fun v9 ev9 => ?_)
      refine ps_i M V (c_is_126 S) (by rw [c_n_126 S]; exact pi_in (by omega)) dX10_takeLetterBack_71 (fun H locs V => ?_)
      have A := A.wk (l3 := [(128, 1000), (126, 1000)]) (by decide)
      have A := A.upA (o := 126) (k := slot.toNatClampNeg) (v := v9) (by decide)
      have tv9 : v9.toInt = v2.toInt - 1 := by rw [ev9]; have z9 := pi_sub (x := v2) (y := (1 : Int32)); rw [k_1] at z9; exact z9 (by omega)
      have I := I.up (k := slot.toNatClampNeg) (v := v9) (c_is_126 S) (show (0 : Int) ≤ v9.toInt ∧ v9.toInt ≤ (12 : Int) by omega)
      refine lv_aload_n hx hb dX10_takeLetterBack_72 rfl (lv_at hl 3 rfl) ?_
      refine pg_r M V 10 3 (c_is_123 S) pC10 fk10_3 (c_r_123_3 S) lkF_X10_21 dX10_takeLetterBack_73 ?_
      refine lv_iload_n hx hb dX10_takeLetterBack_76 rfl (lv_at hl 4 rfl) ?_
      refine lv_dup2_11 hx hb dX10_takeLetterBack_77 rfl rfl ?_
      refine pa_iv M V (v := v1) (c_is_127 S) (by rw [c_n_127 S]; exact pi_in (by omega)) ev1.symm dX10_takeLetterBack_78 ?_
      refine lv_iconst (v := 1) hx hb dX10_takeLetterBack_79 (by decide) ?_
      refine lv_isub hx hb dX10_takeLetterBack_80 ?_
      refine lv_topi (fun v10 ev10 => ?_)
      refine ps_i M V (c_is_127 S) (by rw [c_n_127 S]; exact pi_in (by omega)) dX10_takeLetterBack_81 (fun H locs V => ?_)
      have A := A.wk (l3 := [(128, 1000), (126, 1000), (127, 1000)]) (by decide)
      have A := A.upA (o := 127) (k := slot.toNatClampNeg) (v := v10) (by decide)
      have I := I.up (k := slot.toNatClampNeg) (v := v10) (c_is_127 S) (pi_full _)
      exact pe_v M V rfl rfl hr hlk ⟨rfl, I, A.wk (by decide)⟩ ⟨Nat.le_refl _, Nat.le_refl _⟩ dX10_takeLetterBack_82
    · skip
      have c_30 := pi_eq.mp c_30
      exact J_33 v1 v2 _ _ _ _ V I (A.wk (by decide)) (lv_sub hl [2, 3, 1, 0] rfl) (by omega) (by omega) 
theorem dX10_insert_0 : decode cX10_insert 0 = .ok (.aload_n 0, 1) := by decide +kernel
theorem dX10_insert_1 : decode cX10_insert 1 = .ok (.getfield 21, 3) := by decide +kernel
theorem dX10_insert_4 : decode cX10_insert 4 = .ok (.iload_n 1, 1) := by decide +kernel
theorem dX10_insert_5 : decode cX10_insert 5 = .ok (.iaload, 1) := by decide +kernel
theorem dX10_insert_6 : decode cX10_insert 6 = .ok (.istore_n 3, 1) := by decide +kernel
theorem dX10_insert_7 : decode cX10_insert 7 = .ok (.aload_n 0, 1) := by decide +kernel
theorem dX10_insert_8 : decode cX10_insert 8 = .ok (.getfield 18, 3) := by decide +kernel
theorem dX10_insert_11 : decode cX10_insert 11 = .ok (.iload_n 1, 1) := by decide +kernel
theorem dX10_insert_12 : decode cX10_insert 12 = .ok (.iaload, 1) := by decide +kernel
theorem dX10_insert_13 : decode cX10_insert 13 = .ok (.istore 4, 2) := by decide +kernel
theorem dX10_insert_15 : decode cX10_insert 15 = .ok (.iload 4, 2) := by decide +kernel
theorem dX10_insert_17 : decode cX10_insert 17 = .ok (.iconst 0, 1) := by decide +kernel
theorem dX10_insert_18 : decode cX10_insert 18 = .ok (.bipush 11, 2) := by decide +kernel
theorem dX10_insert_20 : decode cX10_insert 20 = .ok (.invokestatic 35, 3) := by decide +kernel
theorem dX10_insert_23 : decode cX10_insert 23 = .ok (.ifCond .eq 13, 3) := by decide +kernel
theorem dX10_insert_26 : decode cX10_insert 26 = .ok (.iload_n 3, 1) := by decide +kernel
theorem dX10_insert_27 : decode cX10_insert 27 = .ok (.iconst 0, 1) := by decide +kernel
theorem dX10_insert_28 : decode cX10_insert 28 = .ok (.iload 4, 2) := by decide +kernel
theorem dX10_insert_30 : decode cX10_insert 30 = .ok (.invokestatic 35, 3) := by decide +kernel
theorem dX10_insert_33 : decode cX10_insert 33 = .ok (.ifCond .ne 4, 3) := by decide +kernel
theorem dX10_insert_36 : decode cX10_insert 36 = .ok (.return_, 1) := by decide +kernel
theorem dX10_insert_37 : decode cX10_insert 37 = .ok (.iload_n 1, 1) := by decide +kernel
theorem dX10_insert_38 : decode cX10_insert 38 = .ok (.bipush 12, 2) := by decide +kernel
theorem dX10_insert_40 : decode cX10_insert 40 = .ok (.imul, 1) := by decide +kernel
theorem dX10_insert_41 : decode cX10_insert 41 = .ok (.iload_n 3, 1) := by decide +kernel
theorem dX10_insert_42 : decode cX10_insert 42 = .ok (.iadd, 1) := by decide +kernel
theorem dX10_insert_43 : decode cX10_insert 43 = .ok (.istore 5, 2) := by decide +kernel
theorem dX10_insert_45 : decode cX10_insert 45 = .ok (.aload_n 0, 1) := by decide +kernel
theorem dX10_insert_46 : decode cX10_insert 46 = .ok (.getfield 24, 3) := by decide +kernel
theorem dX10_insert_49 : decode cX10_insert 49 = .ok (.iload 5, 2) := by decide +kernel
theorem dX10_insert_51 : decode cX10_insert 51 = .ok (.aload_n 0, 1) := by decide +kernel
theorem dX10_insert_52 : decode cX10_insert 52 = .ok (.getfield 24, 3) := by decide +kernel
theorem dX10_insert_55 : decode cX10_insert 55 = .ok (.iload 5, 2) := by decide +kernel
theorem dX10_insert_57 : decode cX10_insert 57 = .ok (.iconst 1, 1) := by decide +kernel
theorem dX10_insert_58 : decode cX10_insert 58 = .ok (.iadd, 1) := by decide +kernel
theorem dX10_insert_59 : decode cX10_insert 59 = .ok (.iload 4, 2) := by decide +kernel
theorem dX10_insert_61 : decode cX10_insert 61 = .ok (.iload_n 3, 1) := by decide +kernel
theorem dX10_insert_62 : decode cX10_insert 62 = .ok (.isub, 1) := by decide +kernel
theorem dX10_insert_63 : decode cX10_insert 63 = .ok (.invokestatic 79, 3) := by decide +kernel
theorem dX10_insert_66 : decode cX10_insert 66 = .ok (.aload_n 0, 1) := by decide +kernel
theorem dX10_insert_67 : decode cX10_insert 67 = .ok (.getfield 24, 3) := by decide +kernel
theorem dX10_insert_70 : decode cX10_insert 70 = .ok (.iload 5, 2) := by decide +kernel
theorem dX10_insert_72 : decode cX10_insert 72 = .ok (.iload_n 2, 1) := by decide +kernel
theorem dX10_insert_73 : decode cX10_insert 73 = .ok (.iastore, 1) := by decide +kernel
theorem dX10_insert_74 : decode cX10_insert 74 = .ok (.aload_n 0, 1) := by decide +kernel
theorem dX10_insert_75 : decode cX10_insert 75 = .ok (.getfield 18, 3) := by decide +kernel
theorem dX10_insert_78 : decode cX10_insert 78 = .ok (.iload_n 1, 1) := by decide +kernel
theorem dX10_insert_79 : decode cX10_insert 79 = .ok (.dup2, 1) := by decide +kernel
theorem dX10_insert_80 : decode cX10_insert 80 = .ok (.iaload, 1) := by decide +kernel
theorem dX10_insert_81 : decode cX10_insert 81 = .ok (.iconst 1, 1) := by decide +kernel
theorem dX10_insert_82 : decode cX10_insert 82 = .ok (.iadd, 1) := by decide +kernel
theorem dX10_insert_83 : decode cX10_insert 83 = .ok (.iastore, 1) := by decide +kernel
theorem dX10_insert_84 : decode cX10_insert 84 = .ok (.aload_n 0, 1) := by decide +kernel
theorem dX10_insert_85 : decode cX10_insert 85 = .ok (.getfield 21, 3) := by decide +kernel
theorem dX10_insert_88 : decode cX10_insert 88 = .ok (.iload_n 1, 1) := by decide +kernel
theorem dX10_insert_89 : decode cX10_insert 89 = .ok (.dup2, 1) := by decide +kernel
theorem dX10_insert_90 : decode cX10_insert 90 = .ok (.iaload, 1) := by decide +kernel
theorem dX10_insert_91 : decode cX10_insert 91 = .ok (.iconst 1, 1) := by decide +kernel
theorem dX10_insert_92 : decode cX10_insert 92 = .ok (.iadd, 1) := by decide +kernel
theorem dX10_insert_93 : decode cX10_insert 93 = .ok (.iastore, 1) := by decide +kernel
theorem dX10_insert_94 : decode cX10_insert 94 = .ok (.return_, 1) := by decide +kernel
set_option maxHeartbeats 4000000 in
set_option maxRecDepth 100000 in
theorem m_X10_insert (l : Launch) {Z : pZ} (S : pSh Z) {h : pH} (I : Iv Z h) (slot : Int32) (letter : Int32) (hsl : 0 ≤ slot.toInt ∧ slot.toInt ≤ 39) : pMet l yX10_insert cX10_insert 6 none 1 0 0 26 Z h [.ref (zB Z + 123), .int slot, .int letter] (pQv Z (fun Z1 h1 => Z = Z1 ∧ Iv Z h1 ∧ agrD [(126, 1000), (127, 1000), (128, 1000)] h h1)) := by
  refine pOfW (lv := [(0, .ref (zB Z + 123)), (1, .int slot), (2, .int letter)]) (by decide) (Nat.le_of_ble_eq_true rfl) rfl ?_
  intro p e s m below meth c ls M hr hlk hnm V hl
  have hx := M.1.1
  have hb := M.1.2.1
  have A : agrD [] h h := agrD.rf
  have J_36 : ∀ (x36_3 : Int32) (x36_4 : Int32) (hJ : pH) (H : Heap) (locs : List Loc) (ls : Array Slot), pV Z hJ s.heap H locs → Iv Z hJ → agrD [] h hJ → lv_has ls 6 [(0, .ref (zB Z + 123)), (1, .int slot), (2, .int letter), (3, .int x36_3), (4, .int x36_4)] → (0 ≤ slot.toInt ∧ slot.toInt ≤ 39) → (0 ≤ x36_4.toInt ∧ x36_4.toInt ≤ 12) → W p l e (pRm 1 0 0 26) s m ([.ref (zB Z + 123), .int slot, .int letter] : List Value).toArray below meth c H locs 0 0 (MQ below (pQv Z (fun Z1 h1 => Z = Z1 ∧ Iv Z h1 ∧ agrD [(126, 1000), (127, 1000), (128, 1000)] h h1)) ([.ref (zB Z + 123), .int slot, .int letter] : List Value).toArray s 0 0 (pA (zB Z))) (F0 m 36 ls []) := by
    intro x36_3 x36_4 hJ H locs ls V I A hl g_36_1 g_36_4
    exact pe_v M V rfl rfl hr hlk ⟨rfl, I, A.wk (by decide)⟩ ⟨Nat.le_refl _, Nat.le_refl _⟩ dX10_insert_36
  refine lv_aload_n hx hb dX10_insert_0 rfl (lv_at hl 0 rfl) ?_
  refine pg_r M V 10 3 (c_is_123 S) pC10 fk10_3 (c_r_123_3 S) lkF_X10_21 dX10_insert_1 ?_
  refine lv_iload_n hx hb dX10_insert_4 rfl (lv_at hl 1 rfl) ?_
  refine pa_i M V (c_is_127 S) (by rw [c_n_127 S]; exact pi_in (by omega)) dX10_insert_5 ?_
  refine lv_topi (fun v1 ev1 => ?_)
  refine lv_istore_n (lv' := [(3, .int v1), (0, .ref (zB Z + 123)), (1, .int slot), (2, .int letter)]) hx hb dX10_insert_6 rfl hl (by decide) rfl (fun ls hl => ?_)
  refine lv_aload_n hx hb dX10_insert_7 rfl (lv_at hl 1 rfl) ?_
  refine pg_r M V 10 2 (c_is_123 S) pC10 fk10_2 (c_r_123_2 S) lkF_X10_18 dX10_insert_8 ?_
  refine lv_iload_n hx hb dX10_insert_11 rfl (lv_at hl 2 rfl) ?_
  refine pa_i M V (c_is_126 S) (by rw [c_n_126 S]; exact pi_in (by omega)) dX10_insert_12 ?_
  refine lv_topi (fun v2 ev2 => ?_)
  have tv2 : 0 ≤ v2.toInt ∧ v2.toInt ≤ 12 := by rw [ev2]; exact I.get (c_is_126 S) _
  refine lv_istore (lv' := [(4, .int v2), (3, .int v1), (0, .ref (zB Z + 123)), (1, .int slot), (2, .int letter)]) hx hb dX10_insert_13 hl (by decide) rfl (fun ls hl => ?_)
  refine lv_iload hx hb dX10_insert_15 (lv_at hl 0 rfl) ?_
  refine lv_iconst (v := 0) hx hb dX10_insert_17 (by decide) ?_
  refine lv_bipush (v := 11) hx hb dX10_insert_18 (by decide) ?_
  have k_0 : (0 : Int32).toInt = 0 := rfl
  have k_11 : (11 : Int32).toInt = 11 := rfl
  refine pk_i (pr_SN M V (m_X11_isWithin l (Z := Z) (h := _) v2 (0 : Int32) (11 : Int32)) km_X11_isWithin lkN_X10_35 rfl hl.1 rfl (Nat.le_of_ble_eq_true rfl) ⟨Nat.le_of_ble_eq_true rfl, Nat.le_of_ble_eq_true rfl⟩ ⟨Nat.le_of_ble_eq_true rfl, Nat.le_of_ble_eq_true rfl⟩ dX10_insert_20) V (fun r3 Zr3 hr3 H locs pr3 _ _ V => ?_)
  obtain ⟨rfl, rfl, fr3_0⟩ := pr3
  refine lv_if_eq (tgt := 36) hx hb dX10_insert_23 (by decide) (fun c_23 => ?_) (fun c_23 => ?_)
  · skip
    have c_23 := pi_eq.mp c_23
    exact J_36 v1 v2 _ _ _ _ V I (A.wk (by decide)) (lv_sub hl [2, 3, 4, 1, 0] rfl) (by omega) (by omega) 
  · skip
    have c_23 := pi_ne c_23
    refine lv_iload_n hx hb dX10_insert_26 rfl (lv_at hl 1 rfl) ?_
    refine lv_iconst (v := 0) hx hb dX10_insert_27 (by decide) ?_
    refine lv_iload hx hb dX10_insert_28 (lv_at hl 0 rfl) ?_
    refine pk_i (pr_SN M V (m_X11_isWithin l (Z := Z) (h := _) v1 (0 : Int32) v2) km_X11_isWithin lkN_X10_35 rfl hl.1 rfl (Nat.le_of_ble_eq_true rfl) ⟨Nat.le_of_ble_eq_true rfl, Nat.le_of_ble_eq_true rfl⟩ ⟨Nat.le_of_ble_eq_true rfl, Nat.le_of_ble_eq_true rfl⟩ dX10_insert_30) V (fun r4 Zr4 hr4 H locs pr4 _ _ V => ?_)
    obtain ⟨rfl, rfl, fr4_0⟩ := pr4
    refine lv_if_ne (tgt := 37) hx hb dX10_insert_33 (by decide) (fun c_33 => ?_) (fun c_33 => ?_)
    · skip
      have c_33 := pi_ne c_33
      refine lv_iload_n hx hb dX10_insert_37 rfl (lv_at hl 3 rfl) ?_
      refine lv_bipush (v := 12) hx hb dX10_insert_38 (by decide) ?_
      refine lv_imul hx hb dX10_insert_40 ?_
      refine lv_topi (fun v5 ev5 => ?_)
      refine lv_iload_n hx hb dX10_insert_41 rfl (lv_at hl 1 rfl) ?_
      refine lv_iadd hx hb dX10_insert_42 ?_
      refine lv_topi (fun v6 ev6 => ?_)
      refine lv_istore (lv' := [(5, .int v6), (4, .int v2), (3, .int v1), (0, .ref (zB Z + 123)), (1, .int slot), (2, .int letter)]) hx hb dX10_insert_43 hl (by decide) rfl (fun ls hl => ?_)
      refine lv_aload_n hx hb dX10_insert_45 rfl (lv_at hl 3 rfl) ?_
      refine pg_r M V 10 4 (c_is_123 S) pC10 fk10_4 (c_r_123_4 S) lkF_X10_24 dX10_insert_46 ?_
      refine lv_iload hx hb dX10_insert_49 (lv_at hl 0 rfl) ?_
      refine lv_aload_n hx hb dX10_insert_51 rfl (lv_at hl 3 rfl) ?_
      refine pg_r M V 10 4 (c_is_123 S) pC10 fk10_4 (c_r_123_4 S) lkF_X10_24 dX10_insert_52 ?_
      refine lv_iload hx hb dX10_insert_55 (lv_at hl 0 rfl) ?_
      refine lv_iconst (v := 1) hx hb dX10_insert_57 (by decide) ?_
      refine lv_iadd hx hb dX10_insert_58 ?_
      refine lv_topi (fun v7 ev7 => ?_)
      refine lv_iload hx hb dX10_insert_59 (lv_at hl 1 rfl) ?_
      refine lv_iload_n hx hb dX10_insert_61 rfl (lv_at hl 2 rfl) ?_
      refine lv_isub hx hb dX10_insert_62 ?_
      refine lv_topi (fun v8 ev8 => ?_)
      have k_12 : (12 : Int32).toInt = 12 := rfl
      have tv5 : v5.toInt = slot.toInt * 12 := by rw [ev5]; have z9 := pi_mul (x := slot) (y := (12 : Int32)); rw [k_12] at z9; exact z9 (by omega)
      have tv6 : v6.toInt = v5.toInt + v1.toInt := by rw [ev6]; exact pi_add (by omega)
      have k_1 : (1 : Int32).toInt = 1 := rfl
      have tv7 : v7.toInt = v6.toInt + 1 := by rw [ev7]; have z9 := pi_add (x := v6) (y := (1 : Int32)); rw [k_1] at z9; exact z9 (by omega)
      have tv8 : v8.toInt = v2.toInt - v1.toInt := by rw [ev8]; exact pi_sub (by omega)
      have n_128 := c_n_128 S
      have n_128 := c_n_128 S
      refine pa_copy M V (c_is_128 S) (c_is_128 S) hl.1 lkJ_X10_79 kM_copy (by omega) ⟨Nat.le_of_ble_eq_true rfl, Nat.le_of_ble_eq_true rfl⟩ dX10_insert_63 (fun H locs g_63 V => ?_)
      have A := A.wk (l3 := [(128, 1000)]) (by decide)
      have A := A.up1 (o := 128) (f := g_63) (by decide)
      have I := I.up1 (f := g_63) (c_is_128 S) (fun _ => rfl)
      refine lv_aload_n hx hb dX10_insert_66 rfl (lv_at hl 3 rfl) ?_
      refine pg_r M V 10 4 (c_is_123 S) pC10 fk10_4 (c_r_123_4 S) lkF_X10_24 dX10_insert_67 ?_
      refine lv_iload hx hb dX10_insert_70 (lv_at hl 0 rfl) ?_
      refine lv_iload_n hx hb dX10_insert_72 rfl (lv_at hl 5 rfl) ?_
      refine ps_i M V (c_is_128 S) (by rw [c_n_128 S]; exact pi_in (by omega)) dX10_insert_73 (fun H locs V => ?_)
      have A := A.upA (o := 128) (k := v6.toNatClampNeg) (v := letter) (by decide)
      have I := I.up (k := v6.toNatClampNeg) (v := letter) (c_is_128 S) (pi_full _)
      refine lv_aload_n hx hb dX10_insert_74 rfl (lv_at hl 3 rfl) ?_
      refine pg_r M V 10 2 (c_is_123 S) pC10 fk10_2 (c_r_123_2 S) lkF_X10_18 dX10_insert_75 ?_
      refine lv_iload_n hx hb dX10_insert_78 rfl (lv_at hl 4 rfl) ?_
      refine lv_dup2_11 hx hb dX10_insert_79 rfl rfl ?_
      refine pa_iv M V (v := v2) (c_is_126 S) (by rw [c_n_126 S]; exact pi_in (by omega)) ev2.symm dX10_insert_80 ?_
      refine lv_iconst (v := 1) hx hb dX10_insert_81 (by decide) ?_
      refine lv_iadd hx hb dX10_insert_82 ?_
      refine lv_topi (fun v9 ev9 => ?_)
      refine ps_i M V (c_is_126 S) (by rw [c_n_126 S]; exact pi_in (by omega)) dX10_insert_83 (fun H locs V => ?_)
      have A := A.wk (l3 := [(128, 1000), (126, 1000)]) (by decide)
      have A := A.upA (o := 126) (k := slot.toNatClampNeg) (v := v9) (by decide)
      have tv9 : v9.toInt = v2.toInt + 1 := by rw [ev9]; have z9 := pi_add (x := v2) (y := (1 : Int32)); rw [k_1] at z9; exact z9 (by omega)
      have I := I.up (k := slot.toNatClampNeg) (v := v9) (c_is_126 S) (show (0 : Int) ≤ v9.toInt ∧ v9.toInt ≤ (12 : Int) by omega)
      refine lv_aload_n hx hb dX10_insert_84 rfl (lv_at hl 3 rfl) ?_
      refine pg_r M V 10 3 (c_is_123 S) pC10 fk10_3 (c_r_123_3 S) lkF_X10_21 dX10_insert_85 ?_
      refine lv_iload_n hx hb dX10_insert_88 rfl (lv_at hl 4 rfl) ?_
      refine lv_dup2_11 hx hb dX10_insert_89 rfl rfl ?_
      refine pa_iv M V (v := v1) (c_is_127 S) (by rw [c_n_127 S]; exact pi_in (by omega)) ev1.symm dX10_insert_90 ?_
      refine lv_iconst (v := 1) hx hb dX10_insert_91 (by decide) ?_
      refine lv_iadd hx hb dX10_insert_92 ?_
      refine lv_topi (fun v10 ev10 => ?_)
      refine ps_i M V (c_is_127 S) (by rw [c_n_127 S]; exact pi_in (by omega)) dX10_insert_93 (fun H locs V => ?_)
      have A := A.wk (l3 := [(128, 1000), (126, 1000), (127, 1000)]) (by decide)
      have A := A.upA (o := 127) (k := slot.toNatClampNeg) (v := v10) (by decide)
      have I := I.up (k := slot.toNatClampNeg) (v := v10) (c_is_127 S) (pi_full _)
      exact pe_v M V rfl rfl hr hlk ⟨rfl, I, A.wk (by decide)⟩ ⟨Nat.le_refl _, Nat.le_refl _⟩ dX10_insert_94
    · skip
      have c_33 := pi_eq.mp c_33
      exact J_36 v1 v2 _ _ _ _ V I (A.wk (by decide)) (lv_sub hl [2, 3, 4, 1, 0] rfl) (by omega) (by omega) 
theorem dX10_edit_0 : decode cX10_edit 0 = .ok (.aload_n 2, 1) := by decide +kernel
theorem dX10_edit_1 : decode cX10_edit 1 = .ok (.getfield 59, 3) := by decide +kernel
theorem dX10_edit_4 : decode cX10_edit 4 = .ok (.ifCond .le 11, 3) := by decide +kernel
theorem dX10_edit_7 : decode cX10_edit 7 = .ok (.aload_n 0, 1) := by decide +kernel
theorem dX10_edit_8 : decode cX10_edit 8 = .ok (.iload_n 1, 1) := by decide +kernel
theorem dX10_edit_9 : decode cX10_edit 9 = .ok (.invokevirtual 43, 3) := by decide +kernel
theorem dX10_edit_12 : decode cX10_edit 12 = .ok (.goto 8, 3) := by decide +kernel
theorem dX10_edit_15 : decode cX10_edit 15 = .ok (.aload_n 0, 1) := by decide +kernel
theorem dX10_edit_16 : decode cX10_edit 16 = .ok (.iload_n 1, 1) := by decide +kernel
theorem dX10_edit_17 : decode cX10_edit 17 = .ok (.invokevirtual 31, 3) := by decide +kernel
theorem dX10_edit_20 : decode cX10_edit 20 = .ok (.istore_n 3, 1) := by decide +kernel
theorem dX10_edit_21 : decode cX10_edit 21 = .ok (.iload_n 3, 1) := by decide +kernel
theorem dX10_edit_22 : decode cX10_edit 22 = .ok (.invokestatic 39, 3) := by decide +kernel
theorem dX10_edit_25 : decode cX10_edit 25 = .ok (.ifCond .ne 4, 3) := by decide +kernel
theorem dX10_edit_28 : decode cX10_edit 28 = .ok (.return_, 1) := by decide +kernel
theorem dX10_edit_29 : decode cX10_edit 29 = .ok (.aload_n 0, 1) := by decide +kernel
theorem dX10_edit_30 : decode cX10_edit 30 = .ok (.iload_n 3, 1) := by decide +kernel
theorem dX10_edit_31 : decode cX10_edit 31 = .ok (.aload_n 2, 1) := by decide +kernel
theorem dX10_edit_32 : decode cX10_edit 32 = .ok (.invokevirtual 64, 3) := by decide +kernel
theorem dX10_edit_35 : decode cX10_edit 35 = .ok (.aload_n 2, 1) := by decide +kernel
theorem dX10_edit_36 : decode cX10_edit 36 = .ok (.iconst 4, 1) := by decide +kernel
theorem dX10_edit_37 : decode cX10_edit 37 = .ok (.invokevirtual 68, 3) := by decide +kernel
theorem dX10_edit_40 : decode cX10_edit 40 = .ok (.ifCond .eq 8, 3) := by decide +kernel
theorem dX10_edit_43 : decode cX10_edit 43 = .ok (.aload_n 0, 1) := by decide +kernel
theorem dX10_edit_44 : decode cX10_edit 44 = .ok (.iload_n 3, 1) := by decide +kernel
theorem dX10_edit_45 : decode cX10_edit 45 = .ok (.invokevirtual 71, 3) := by decide +kernel
theorem dX10_edit_48 : decode cX10_edit 48 = .ok (.iconst 0, 1) := by decide +kernel
theorem dX10_edit_49 : decode cX10_edit 49 = .ok (.istore 4, 2) := by decide +kernel
theorem dX10_edit_51 : decode cX10_edit 51 = .ok (.iload 4, 2) := by decide +kernel
theorem dX10_edit_53 : decode cX10_edit 53 = .ok (.aload_n 2, 1) := by decide +kernel
theorem dX10_edit_54 : decode cX10_edit 54 = .ok (.getfield 59, 3) := by decide +kernel
theorem dX10_edit_57 : decode cX10_edit 57 = .ok (.if_icmp .ge 31, 3) := by decide +kernel
theorem dX10_edit_60 : decode cX10_edit 60 = .ok (.iload 4, 2) := by decide +kernel
theorem dX10_edit_62 : decode cX10_edit 62 = .ok (.aload_n 2, 1) := by decide +kernel
theorem dX10_edit_63 : decode cX10_edit 63 = .ok (.getfield 75, 3) := by decide +kernel
theorem dX10_edit_66 : decode cX10_edit 66 = .ok (.arraylength, 1) := by decide +kernel
theorem dX10_edit_67 : decode cX10_edit 67 = .ok (.if_icmp .ge 21, 3) := by decide +kernel
theorem dX10_edit_70 : decode cX10_edit 70 = .ok (.aload_n 0, 1) := by decide +kernel
theorem dX10_edit_71 : decode cX10_edit 71 = .ok (.iload_n 3, 1) := by decide +kernel
theorem dX10_edit_72 : decode cX10_edit 72 = .ok (.aload_n 2, 1) := by decide +kernel
theorem dX10_edit_73 : decode cX10_edit 73 = .ok (.getfield 75, 3) := by decide +kernel
theorem dX10_edit_76 : decode cX10_edit 76 = .ok (.iload 4, 2) := by decide +kernel
theorem dX10_edit_78 : decode cX10_edit 78 = .ok (.iaload, 1) := by decide +kernel
theorem dX10_edit_79 : decode cX10_edit 79 = .ok (.invokevirtual 76, 3) := by decide +kernel
theorem dX10_edit_82 : decode cX10_edit 82 = .ok (.iinc 4 1, 3) := by decide +kernel
theorem dX10_edit_85 : decode cX10_edit 85 = .ok (.goto (-34), 3) := by decide +kernel
theorem dX10_edit_88 : decode cX10_edit 88 = .ok (.return_, 1) := by decide +kernel
set_option maxHeartbeats 4000000 in
set_option maxRecDepth 100000 in
theorem m_X10_edit (l : Launch) {Z : pZ} (S : pSh Z) {h : pH} (I : Iv Z h) (id : Int32)  : pMet l yX10_edit cX10_edit 5 none 3 0 0 65 Z h [.ref (zB Z + 123), .int id, .ref (zB Z + 1)] (pQv Z (fun Z1 h1 => Z = Z1 ∧ Iv Z h1 ∧ agrD [(123, 5), (124, 1000), (126, 1000), (127, 1000), (128, 1000)] h h1)) := by
  refine pOfW (lv := [(0, .ref (zB Z + 123)), (1, .int id), (2, .ref (zB Z + 1))]) (by decide) (Nat.le_of_ble_eq_true rfl) rfl ?_
  intro p e s m below meth c ls M hr hlk hnm V hl
  have hx := M.1.1
  have hb := M.1.2.1
  have A : agrD [] h h := agrD.rf
  have J_88 : ∀ (x88_3 : Int32) (x88_4 : Int32) (hJ : pH) (H : Heap) (locs : List Loc) (ls : Array Slot), pV Z hJ s.heap H locs → Iv Z hJ → agrD [(123, 5), (124, 1000), (126, 1000), (127, 1000), (128, 1000)] h hJ → lv_has ls 5 [(0, .ref (zB Z + 123)), (1, .int id), (2, .ref (zB Z + 1)), (3, .int x88_3), (4, .int x88_4)] → (-1 ≤ x88_3.toInt ∧ x88_3.toInt ≤ 39) → (0 ≤ x88_4.toInt ∧ x88_4.toInt ≤ 16) → W p l e (pRm 3 0 0 65) s m ([.ref (zB Z + 123), .int id, .ref (zB Z + 1)] : List Value).toArray below meth c H locs 0 0 (MQ below (pQv Z (fun Z1 h1 => Z = Z1 ∧ Iv Z h1 ∧ agrD [(123, 5), (124, 1000), (126, 1000), (127, 1000), (128, 1000)] h h1)) ([.ref (zB Z + 123), .int id, .ref (zB Z + 1)] : List Value).toArray s 0 0 (pA (zB Z))) (F0 m 88 ls []) := by
    intro x88_3 x88_4 hJ H locs ls V I A hl g_88_3 g_88_4
    exact pe_v M V rfl rfl hr hlk ⟨rfl, I, A.wk (by decide)⟩ ⟨Nat.le_refl _, Nat.le_refl _⟩ dX10_edit_88
  have J_51 : ∀ (n9 : Nat) (x51_3 : Int32) (x51_4 : Int32) (hJ : pH) (H : Heap) (locs : List Loc) (ls : Array Slot), pV Z hJ s.heap H locs → Iv Z hJ → agrD [(123, 5), (124, 1000), (126, 1000), (127, 1000), (128, 1000)] h hJ → lv_has ls 5 [(0, .ref (zB Z + 123)), (1, .int id), (2, .ref (zB Z + 1)), (3, .int x51_3), (4, .int x51_4)] → (-1 ≤ x51_3.toInt ∧ x51_3.toInt ≤ 39) → (0 ≤ x51_4.toInt ∧ x51_4.toInt ≤ 16) → (0 ≤ x51_3.toInt) → (16 - x51_4.toInt).toNat < n9 → W p l e (pRm 3 0 0 65) s m ([.ref (zB Z + 123), .int id, .ref (zB Z + 1)] : List Value).toArray below meth c H locs 0 0 (MQ below (pQv Z (fun Z1 h1 => Z = Z1 ∧ Iv Z h1 ∧ agrD [(123, 5), (124, 1000), (126, 1000), (127, 1000), (128, 1000)] h h1)) ([.ref (zB Z + 123), .int id, .ref (zB Z + 1)] : List Value).toArray s 0 0 (pA (zB Z))) (F0 m 51 ls []) := by
    intro n9
    induction n9 with
    | zero => intro x51_3 x51_4 hJ H locs ls V I A hl g_51_3 g_51_4 e3_51 hm9; exact absurd hm9 (Nat.not_lt_zero _)
    | succ n9 ih_51 =>
      intro x51_3 x51_4 hJ H locs ls V I A hl g_51_3 g_51_4 e3_51 hm9
      refine lv_iload hx hb dX10_edit_51 (lv_at hl 4 rfl) ?_
      refine lv_aload_n hx hb dX10_edit_53 rfl (lv_at hl 2 rfl) ?_
      refine pg_i M V 5 5 (c_is_1 S) pC5 fk5_5 lkF_X10_59 dX10_edit_54 ?_
      refine lv_topi (fun v1 ev1 => ?_)
      have tv1 : 0 ≤ v1.toInt ∧ v1.toInt ≤ 16 := by rw [ev1]; exact I.get (c_is_1 S) 5
      refine lv_icmp_ge (tgt := 88) hx hb dX10_edit_57 (by decide) (fun c_57 => ?_) (fun c_57 => ?_)
      · skip
        have c_57 := pi_le.mp c_57
        exact J_88 x51_3 x51_4 _ _ _ _ V I (A.wk (by decide)) (lv_sub hl [0, 1, 2, 3, 4] rfl) (by omega) (by omega) 
      · skip
        have c_57 := pi_le' c_57
        refine lv_iload hx hb dX10_edit_60 (lv_at hl 4 rfl) ?_
        refine lv_aload_n hx hb dX10_edit_62 rfl (lv_at hl 2 rfl) ?_
        refine pg_r M V 5 4 (c_is_1 S) pC5 fk5_4 (c_r_1_4 S) lkF_X10_75 dX10_edit_63 ?_
        refine pa_len M V (c_is_9 S) dX10_edit_66 ?_
        refine lv_topi (fun v2 ev2 => ?_)
        have tv2 : v2.toInt = 16 := by rw [ev2, c_n_9 S]; rfl
        refine lv_icmp_ge (tgt := 88) hx hb dX10_edit_67 (by decide) (fun c_67 => ?_) (fun c_67 => ?_)
        · skip
          have c_67 := pi_le.mp c_67
          exact J_88 x51_3 x51_4 _ _ _ _ V I (A.wk (by decide)) (lv_sub hl [0, 1, 2, 3, 4] rfl) (by omega) (by omega) 
        · skip
          have c_67 := pi_le' c_67
          refine lv_aload_n hx hb dX10_edit_70 rfl (lv_at hl 0 rfl) ?_
          refine lv_iload_n hx hb dX10_edit_71 rfl (lv_at hl 3 rfl) ?_
          refine lv_aload_n hx hb dX10_edit_72 rfl (lv_at hl 2 rfl) ?_
          refine pg_r M V 5 4 (c_is_1 S) pC5 fk5_4 (c_r_1_4 S) lkF_X10_75 dX10_edit_73 ?_
          refine lv_iload hx hb dX10_edit_76 (lv_at hl 4 rfl) ?_
          refine pa_i M V (c_is_9 S) (by rw [c_n_9 S]; exact pi_in (by omega)) dX10_edit_78 ?_
          refine lv_topi (fun v3 ev3 => ?_)
          refine pk_v (pr_V M V (m_X10_insert l S I x51_3 v3 (by omega)) km_X10_insert (c_is_123 S) pC10 lkM_X10_76 rfl hl.1 rfl (Nat.le_of_ble_eq_true rfl) ⟨Nat.le_of_ble_eq_true rfl, Nat.le_of_ble_eq_true rfl⟩ ⟨Nat.le_of_ble_eq_true rfl, Nat.le_of_ble_eq_true rfl⟩ dX10_edit_79) V (fun Zr4 hr4 H locs pr4 _ _ V => ?_)
          obtain ⟨rfl, I, pA_r4⟩ := pr4
          have A := A.tr pA_r4 (by decide)
          obtain ⟨v5, ev5⟩ : ∃ y : Int32, y = x51_4 + 1 := ⟨_, rfl⟩
          refine lv_iinc (v := v5) (lv' := [(4, .int v5), (0, .ref (zB Z + 123)), (1, .int id), (2, .ref (zB Z + 1)), (3, .int x51_3)]) hx hb dX10_edit_82 hl (k := 4) rfl (by rw [ev5]; rfl) (by decide) rfl (fun ls hl => ?_)
          refine lv_goto (tgt := 51) hx hb dX10_edit_85 (by decide) ?_
          have k_1 : (1 : Int32).toInt = 1 := rfl
          have tv5 : v5.toInt = x51_4.toInt + 1 := by rw [ev5]; have z9 := pi_add (x := x51_4) (y := (1 : Int32)); rw [k_1] at z9; exact z9 (by omega)
          exact ih_51 x51_3 v5 _ _ _ _ V I (A.wk (by decide)) (lv_sub hl [1, 2, 3, 4, 0] rfl) (by omega) (by omega) (by omega) (by omega) 
  have J_48 : ∀ (x48_3 : Int32) (hJ : pH) (H : Heap) (locs : List Loc) (ls : Array Slot), pV Z hJ s.heap H locs → Iv Z hJ → agrD [(123, 5), (124, 1000), (126, 1000), (127, 1000), (128, 1000)] h hJ → lv_has ls 5 [(0, .ref (zB Z + 123)), (1, .int id), (2, .ref (zB Z + 1)), (3, .int x48_3)] → (-1 ≤ x48_3.toInt ∧ x48_3.toInt ≤ 39) → (0 ≤ x48_3.toInt) → W p l e (pRm 3 0 0 65) s m ([.ref (zB Z + 123), .int id, .ref (zB Z + 1)] : List Value).toArray below meth c H locs 0 0 (MQ below (pQv Z (fun Z1 h1 => Z = Z1 ∧ Iv Z h1 ∧ agrD [(123, 5), (124, 1000), (126, 1000), (127, 1000), (128, 1000)] h h1)) ([.ref (zB Z + 123), .int id, .ref (zB Z + 1)] : List Value).toArray s 0 0 (pA (zB Z))) (F0 m 48 ls []) := by
    intro x48_3 hJ H locs ls V I A hl g_48_3 e3_48
    refine lv_iconst (v := 0) hx hb dX10_edit_48 (by decide) ?_
    refine lv_istore (lv' := [(4, .int (0 : Int32)), (0, .ref (zB Z + 123)), (1, .int id), (2, .ref (zB Z + 1)), (3, .int x48_3)]) hx hb dX10_edit_49 hl (by decide) rfl (fun ls hl => ?_)
    have k_0 : (0 : Int32).toInt = 0 := rfl
    exact J_51 _ x48_3 (0 : Int32) _ _ _ _ V I (A.wk (by decide)) (lv_sub hl [1, 2, 3, 4, 0] rfl) (by omega) (by omega) (by omega) (Nat.lt_succ_self _) 
  have J_20 : ∀ (y20_0 : Int32) (hJ : pH) (H : Heap) (locs : List Loc) (ls : Array Slot), pV Z hJ s.heap H locs → Iv Z hJ → agrD [(123, 5), (124, 1000)] h hJ → lv_has ls 5 [(0, .ref (zB Z + 123)), (1, .int id), (2, .ref (zB Z + 1))] → (-1 ≤ y20_0.toInt ∧ y20_0.toInt ≤ 39) → W p l e (pRm 3 0 0 65) s m ([.ref (zB Z + 123), .int id, .ref (zB Z + 1)] : List Value).toArray below meth c H locs 0 0 (MQ below (pQv Z (fun Z1 h1 => Z = Z1 ∧ Iv Z h1 ∧ agrD [(123, 5), (124, 1000), (126, 1000), (127, 1000), (128, 1000)] h h1)) ([.ref (zB Z + 123), .int id, .ref (zB Z + 1)] : List Value).toArray s 0 0 (pA (zB Z))) (F0 m 20 ls [.int y20_0]) := by
    intro y20_0 hJ H locs ls V I A hl gs_20_0
    refine lv_istore_n (lv' := [(3, .int y20_0), (0, .ref (zB Z + 123)), (1, .int id), (2, .ref (zB Z + 1))]) hx hb dX10_edit_20 rfl hl (by decide) rfl (fun ls hl => ?_)
    refine lv_iload_n hx hb dX10_edit_21 rfl (lv_at hl 0 rfl) ?_
    refine pk_i (pr_S M V (m_X10_isSlot l (Z := Z) (h := _) (y20_0)) km_X10_isSlot lkM_X10_39 rfl hl.1 rfl (Nat.le_of_ble_eq_true rfl) ⟨Nat.le_of_ble_eq_true rfl, Nat.le_of_ble_eq_true rfl⟩ ⟨Nat.le_of_ble_eq_true rfl, Nat.le_of_ble_eq_true rfl⟩ dX10_edit_22) V (fun r6 Zr6 hr6 H locs pr6 _ _ V => ?_)
    obtain ⟨rfl, rfl, fr6_0⟩ := pr6
    refine lv_if_ne (tgt := 29) hx hb dX10_edit_25 (by decide) (fun c_25 => ?_) (fun c_25 => ?_)
    · skip
      have k_0 : (0 : Int32).toInt = 0 := rfl
      have c_25 := pi_ne c_25
      refine lv_aload_n hx hb dX10_edit_29 rfl (lv_at hl 1 rfl) ?_
      refine lv_iload_n hx hb dX10_edit_30 rfl (lv_at hl 0 rfl) ?_
      refine lv_aload_n hx hb dX10_edit_31 rfl (lv_at hl 3 rfl) ?_
      refine pk_v (pr_V M V (m_X10_moveCaret l S I y20_0  (by omega)) km_X10_moveCaret (c_is_123 S) pC10 lkM_X10_64 rfl hl.1 rfl (Nat.le_of_ble_eq_true rfl) ⟨Nat.le_of_ble_eq_true rfl, Nat.le_of_ble_eq_true rfl⟩ ⟨Nat.le_of_ble_eq_true rfl, Nat.le_of_ble_eq_true rfl⟩ dX10_edit_32) V (fun Zr7 hr7 H locs pr7 _ _ V => ?_)
      obtain ⟨rfl, I, pA_r7⟩ := pr7
      have A := A.wk (l3 := [(123, 5), (124, 1000), (127, 1000)]) (by decide)
      have A := A.tr pA_r7 (by decide)
      refine lv_aload_n hx hb dX10_edit_35 rfl (lv_at hl 3 rfl) ?_
      refine lv_iconst (v := 4) hx hb dX10_edit_36 (by decide) ?_
      refine pk_i (pr_V M V (m_X5_isDownHere l S I (4 : Int32) ) km_X5_isDownHere (c_is_1 S) pC5 lkM_X10_68 rfl hl.1 rfl (Nat.le_of_ble_eq_true rfl) ⟨Nat.le_of_ble_eq_true rfl, Nat.le_of_ble_eq_true rfl⟩ ⟨Nat.le_of_ble_eq_true rfl, Nat.le_of_ble_eq_true rfl⟩ dX10_edit_37) V (fun r8 Zr8 hr8 H locs pr8 _ _ V => ?_)
      obtain ⟨rfl, I, pA_r8, fr8_0⟩ := pr8
      have A := A.tr pA_r8 (by decide)
      refine lv_if_eq (tgt := 48) hx hb dX10_edit_40 (by decide) (fun c_40 => ?_) (fun c_40 => ?_)
      · skip
        have c_40 := pi_eq.mp c_40
        exact J_48 y20_0 _ _ _ _ V I (A.wk (by decide)) (lv_sub hl [1, 2, 3, 0] rfl) (by omega) (by omega) 
      · skip
        have c_40 := pi_ne c_40
        refine lv_aload_n hx hb dX10_edit_43 rfl (lv_at hl 1 rfl) ?_
        refine lv_iload_n hx hb dX10_edit_44 rfl (lv_at hl 0 rfl) ?_
        refine pk_v (pr_V M V (m_X10_takeLetterBack l S I y20_0 (by omega)) km_X10_takeLetterBack (c_is_123 S) pC10 lkM_X10_71 rfl hl.1 rfl (Nat.le_of_ble_eq_true rfl) ⟨Nat.le_of_ble_eq_true rfl, Nat.le_of_ble_eq_true rfl⟩ ⟨Nat.le_of_ble_eq_true rfl, Nat.le_of_ble_eq_true rfl⟩ dX10_edit_45) V (fun Zr9 hr9 H locs pr9 _ _ V => ?_)
        obtain ⟨rfl, I, pA_r9⟩ := pr9
        have A := A.wk (l3 := [(123, 5), (124, 1000), (127, 1000), (126, 1000), (128, 1000)]) (by decide)
        have A := A.tr pA_r9 (by decide)
        exact J_48 y20_0 _ _ _ _ V I (A.wk (by decide)) (lv_sub hl [1, 2, 3, 0] rfl) (by omega) (by omega) 
    · skip
      have k_0 : (0 : Int32).toInt = 0 := rfl
      have c_25 := pi_eq.mp c_25
      exact pe_v M V rfl rfl hr hlk ⟨rfl, I, A.wk (by decide)⟩ ⟨Nat.le_refl _, Nat.le_refl _⟩ dX10_edit_28
  refine lv_aload_n hx hb dX10_edit_0 rfl (lv_at hl 2 rfl) ?_
  refine pg_i M V 5 5 (c_is_1 S) pC5 fk5_5 lkF_X10_59 dX10_edit_1 ?_
  refine lv_topi (fun v10 ev10 => ?_)
  have tv10 : 0 ≤ v10.toInt ∧ v10.toInt ≤ 16 := by rw [ev10]; exact I.get (c_is_1 S) 5
  refine lv_if_le (tgt := 15) hx hb dX10_edit_4 (by decide) (fun c_4 => ?_) (fun c_4 => ?_)
  · skip
    have k_0 : (0 : Int32).toInt = 0 := rfl
    have c_4 := pi_le.mp c_4
    refine lv_aload_n hx hb dX10_edit_15 rfl (lv_at hl 0 rfl) ?_
    refine lv_iload_n hx hb dX10_edit_16 rfl (lv_at hl 1 rfl) ?_
    refine pk_i (pr_V M V (m_X10_find l S I id ) km_X10_find (c_is_123 S) pC10 lkM_X10_31 rfl hl.1 rfl (Nat.le_of_ble_eq_true rfl) ⟨Nat.le_of_ble_eq_true rfl, Nat.le_of_ble_eq_true rfl⟩ ⟨Nat.le_of_ble_eq_true rfl, Nat.le_of_ble_eq_true rfl⟩ dX10_edit_17) V (fun r11 Zr11 hr11 H locs pr11 _ _ V => ?_)
    obtain ⟨rfl, I, pA_r11, fr11_0⟩ := pr11
    have A := A.tr pA_r11 (by decide)
    exact J_20 r11 _ _ _ _ V I (A.wk (by decide)) (lv_sub hl [0, 1, 2] rfl) (by omega) 
  · skip
    have k_0 : (0 : Int32).toInt = 0 := rfl
    have c_4 := pi_le' c_4
    refine lv_aload_n hx hb dX10_edit_7 rfl (lv_at hl 0 rfl) ?_
    refine lv_iload_n hx hb dX10_edit_8 rfl (lv_at hl 1 rfl) ?_
    refine pk_i (pr_V M V (m_X10_claim l S I id ) km_X10_claim (c_is_123 S) pC10 lkM_X10_43 rfl hl.1 rfl (Nat.le_of_ble_eq_true rfl) ⟨Nat.le_of_ble_eq_true rfl, Nat.le_of_ble_eq_true rfl⟩ ⟨Nat.le_of_ble_eq_true rfl, Nat.le_of_ble_eq_true rfl⟩ dX10_edit_9) V (fun r12 Zr12 hr12 H locs pr12 _ _ V => ?_)
    obtain ⟨rfl, I, pA_r12, fr12_0⟩ := pr12
    have A := A.wk (l3 := [(123, 5), (124, 1000)]) (by decide)
    have A := A.tr pA_r12 (by decide)
    refine lv_goto (tgt := 20) hx hb dX10_edit_12 (by decide) ?_
    exact J_20 r12 _ _ _ _ V I (A.wk (by decide)) (lv_sub hl [0, 1, 2] rfl) (by omega) 
theorem dX3_frontWindowUnder_0 : decode cX3_frontWindowUnder 0 = .ok (.bipush 7, 2) := by decide +kernel
theorem dX3_frontWindowUnder_2 : decode cX3_frontWindowUnder 2 = .ok (.istore_n 2, 1) := by decide +kernel
theorem dX3_frontWindowUnder_3 : decode cX3_frontWindowUnder 3 = .ok (.iload_n 2, 1) := by decide +kernel
theorem dX3_frontWindowUnder_4 : decode cX3_frontWindowUnder 4 = .ok (.ifCond .lt 42, 3) := by decide +kernel
theorem dX3_frontWindowUnder_7 : decode cX3_frontWindowUnder 7 = .ok (.aload_n 0, 1) := by decide +kernel
theorem dX3_frontWindowUnder_8 : decode cX3_frontWindowUnder 8 = .ok (.aload_n 0, 1) := by decide +kernel
theorem dX3_frontWindowUnder_9 : decode cX3_frontWindowUnder 9 = .ok (.getfield 24, 3) := by decide +kernel
theorem dX3_frontWindowUnder_12 : decode cX3_frontWindowUnder 12 = .ok (.iload_n 2, 1) := by decide +kernel
theorem dX3_frontWindowUnder_13 : decode cX3_frontWindowUnder 13 = .ok (.iaload, 1) := by decide +kernel
theorem dX3_frontWindowUnder_14 : decode cX3_frontWindowUnder 14 = .ok (.invokevirtual 66, 3) := by decide +kernel
theorem dX3_frontWindowUnder_17 : decode cX3_frontWindowUnder 17 = .ok (.astore_n 3, 1) := by decide +kernel
theorem dX3_frontWindowUnder_18 : decode cX3_frontWindowUnder 18 = .ok (.aload_n 3, 1) := by decide +kernel
theorem dX3_frontWindowUnder_19 : decode cX3_frontWindowUnder 19 = .ok (.getfield 46, 3) := by decide +kernel
theorem dX3_frontWindowUnder_22 : decode cX3_frontWindowUnder 22 = .ok (.ifCond .eq 18, 3) := by decide +kernel
theorem dX3_frontWindowUnder_25 : decode cX3_frontWindowUnder 25 = .ok (.aload_n 3, 1) := by decide +kernel
theorem dX3_frontWindowUnder_26 : decode cX3_frontWindowUnder 26 = .ok (.aload_n 1, 1) := by decide +kernel
theorem dX3_frontWindowUnder_27 : decode cX3_frontWindowUnder 27 = .ok (.invokevirtual 50, 3) := by decide +kernel
theorem dX3_frontWindowUnder_30 : decode cX3_frontWindowUnder 30 = .ok (.ifCond .eq 10, 3) := by decide +kernel
theorem dX3_frontWindowUnder_33 : decode cX3_frontWindowUnder 33 = .ok (.aload_n 0, 1) := by decide +kernel
theorem dX3_frontWindowUnder_34 : decode cX3_frontWindowUnder 34 = .ok (.getfield 24, 3) := by decide +kernel
theorem dX3_frontWindowUnder_37 : decode cX3_frontWindowUnder 37 = .ok (.iload_n 2, 1) := by decide +kernel
theorem dX3_frontWindowUnder_38 : decode cX3_frontWindowUnder 38 = .ok (.iaload, 1) := by decide +kernel
theorem dX3_frontWindowUnder_39 : decode cX3_frontWindowUnder 39 = .ok (.ireturn, 1) := by decide +kernel
theorem dX3_frontWindowUnder_40 : decode cX3_frontWindowUnder 40 = .ok (.iinc 2 (-1), 3) := by decide +kernel
theorem dX3_frontWindowUnder_43 : decode cX3_frontWindowUnder 43 = .ok (.goto (-40), 3) := by decide +kernel
theorem dX3_frontWindowUnder_46 : decode cX3_frontWindowUnder 46 = .ok (.iconst (-1), 1) := by decide +kernel
theorem dX3_frontWindowUnder_47 : decode cX3_frontWindowUnder 47 = .ok (.ireturn, 1) := by decide +kernel
set_option maxHeartbeats 4000000 in
set_option maxRecDepth 100000 in
theorem m_X3_frontWindowUnder (l : Launch) {Z : pZ} (S : pSh Z) {h : pH} (I : Iv Z h)  : pMet l yX3_frontWindowUnder cX3_frontWindowUnder 4 (some .int) 2 0 0 44 Z h [.ref (zB Z + 10), .ref (zB Z + 1)] (pQi Z (fun r Z1 h1 => Z = Z1 ∧ Iv Z h1 ∧ agrD [] h h1)) := by
  refine pOfW (lv := [(0, .ref (zB Z + 10)), (1, .ref (zB Z + 1))]) (by decide) (Nat.le_of_ble_eq_true rfl) rfl ?_
  intro p e s m below meth c ls M hr hlk hnm V hl
  have hx := M.1.1
  have hb := M.1.2.1
  have A : agrD [] h h := agrD.rf
  have J_3 : ∀ (n9 : Nat) (x3_2 : Int32) (hJ : pH) (H : Heap) (locs : List Loc) (ls : Array Slot), pV Z hJ s.heap H locs → Iv Z hJ → agrD [] h hJ → lv_has ls 4 [(0, .ref (zB Z + 10)), (1, .ref (zB Z + 1)), (2, .int x3_2)] → (-1 ≤ x3_2.toInt ∧ x3_2.toInt ≤ 7) → (x3_2.toInt + 1).toNat < n9 → W p l e (pRm 2 0 0 44) s m ([.ref (zB Z + 10), .ref (zB Z + 1)] : List Value).toArray below meth c H locs 0 0 (MQ below (pQi Z (fun r Z1 h1 => Z = Z1 ∧ Iv Z h1 ∧ agrD [] h h1)) ([.ref (zB Z + 10), .ref (zB Z + 1)] : List Value).toArray s 0 0 (pA (zB Z))) (F0 m 3 ls []) := by
    intro n9
    induction n9 with
    | zero => intro x3_2 hJ H locs ls V I A hl g_3_2 hm9; exact absurd hm9 (Nat.not_lt_zero _)
    | succ n9 ih_3 =>
      intro x3_2 hJ H locs ls V I A hl g_3_2 hm9
      have J_40 : ∀ (hJ : pH) (H : Heap) (locs : List Loc) (ls : Array Slot), pV Z hJ s.heap H locs → Iv Z hJ → agrD [] h hJ → lv_has ls 4 [(0, .ref (zB Z + 10)), (1, .ref (zB Z + 1)), (2, .int x3_2)] → (0 ≤ x3_2.toInt ∧ x3_2.toInt ≤ 7) → W p l e (pRm 2 0 0 44) s m ([.ref (zB Z + 10), .ref (zB Z + 1)] : List Value).toArray below meth c H locs 0 0 (MQ below (pQi Z (fun r Z1 h1 => Z = Z1 ∧ Iv Z h1 ∧ agrD [] h h1)) ([.ref (zB Z + 10), .ref (zB Z + 1)] : List Value).toArray s 0 0 (pA (zB Z))) (F0 m 40 ls []) := by
        intro hJ H locs ls V I A hl g_40_2
        obtain ⟨v1, ev1⟩ : ∃ y : Int32, y = x3_2 + (-1) := ⟨_, rfl⟩
        refine lv_iinc (v := v1) (lv' := [(2, .int v1), (0, .ref (zB Z + 10)), (1, .ref (zB Z + 1))]) hx hb dX3_frontWindowUnder_40 hl (k := 2) rfl (by rw [ev1]; rfl) (by decide) rfl (fun ls hl => ?_)
        refine lv_goto (tgt := 3) hx hb dX3_frontWindowUnder_43 (by decide) ?_
        have k_m1 : (-1 : Int32).toInt = -1 := rfl
        have tv1 : v1.toInt = x3_2.toInt + -1 := by rw [ev1]; have z9 := pi_add (x := x3_2) (y := (-1 : Int32)); rw [k_m1] at z9; exact z9 (by omega)
        exact ih_3 v1 _ _ _ _ V I (A.wk (by decide)) (lv_sub hl [1, 2, 0] rfl) (by omega) (by omega) 
      refine lv_iload_n hx hb dX3_frontWindowUnder_3 rfl (lv_at hl 2 rfl) ?_
      refine lv_if_lt (tgt := 46) hx hb dX3_frontWindowUnder_4 (by decide) (fun c_4 => ?_) (fun c_4 => ?_)
      · skip
        have k_0 : (0 : Int32).toInt = 0 := rfl
        have c_4 := pi_lt.mp c_4
        refine lv_iconst (v := (-1)) hx hb dX3_frontWindowUnder_46 (by decide) ?_
        have k_m1 : (-1 : Int32).toInt = -1 := rfl
        exact pe_i M V rfl rfl hr hlk rfl ⟨rfl, I, A.wk (by decide)⟩ ⟨Nat.le_refl _, Nat.le_refl _⟩ dX3_frontWindowUnder_47
      · skip
        have k_0 : (0 : Int32).toInt = 0 := rfl
        have c_4 := pi_lt' c_4
        refine lv_aload_n hx hb dX3_frontWindowUnder_7 rfl (lv_at hl 0 rfl) ?_
        refine lv_aload_n hx hb dX3_frontWindowUnder_8 rfl (lv_at hl 0 rfl) ?_
        refine pg_r M V 3 2 (c_is_10 S) pC3 fk3_2 (c_r_10_2 S) lkF_X3_24 dX3_frontWindowUnder_9 ?_
        refine lv_iload_n hx hb dX3_frontWindowUnder_12 rfl (lv_at hl 2 rfl) ?_
        refine pa_i M V (c_is_13 S) (by rw [c_n_13 S]; exact pi_in (by omega)) dX3_frontWindowUnder_13 ?_
        refine lv_topi (fun v2 ev2 => ?_)
        refine pk_r (pr_V M V (m_X3_paneOf l S I v2) km_X3_paneOf (c_is_10 S) pC3 lkM_X3_66 rfl hl.1 rfl (Nat.le_of_ble_eq_true rfl) ⟨Nat.le_of_ble_eq_true rfl, Nat.le_of_ble_eq_true rfl⟩ ⟨Nat.le_of_ble_eq_true rfl, Nat.le_of_ble_eq_true rfl⟩ dX3_frontWindowUnder_14) V (fun r3 Zr3 hr3 H locs pr3 _ _ V => ?_)
        obtain ⟨rfl, rfl, fr3_0⟩ := pr3
        refine lv_astore_n (lv' := [(3, .ref (zB Z + r3)), (0, .ref (zB Z + 10)), (1, .ref (zB Z + 1)), (2, .int x3_2)]) hx hb dX3_frontWindowUnder_17 rfl hl (by decide) rfl (fun ls hl => ?_)
        refine lv_aload_n hx hb dX3_frontWindowUnder_18 rfl (lv_at hl 0 rfl) ?_
        refine pg_i M V 7 9 fr3_0 pC7 fk7_9 lkF_X3_46 dX3_frontWindowUnder_19 ?_
        refine lv_topi (fun v4 ev4 => ?_)
        have tv4 : 0 ≤ v4.toInt ∧ v4.toInt ≤ 1 := by rw [ev4]; exact I.get fr3_0 9
        refine lv_if_eq (tgt := 40) hx hb dX3_frontWindowUnder_22 (by decide) (fun c_22 => ?_) (fun c_22 => ?_)
        · skip
          have c_22 := pi_eq.mp c_22
          exact J_40 _ _ _ _ V I (A.wk (by decide)) (lv_sub hl [1, 2, 3] rfl) (by omega) 
        · skip
          have c_22 := pi_ne c_22
          refine lv_aload_n hx hb dX3_frontWindowUnder_25 rfl (lv_at hl 0 rfl) ?_
          refine lv_aload_n hx hb dX3_frontWindowUnder_26 rfl (lv_at hl 2 rfl) ?_
          refine pk_i (pr_V M V (m_X7_hasMouse l S I r3 fr3_0  ) km_X7_hasMouse fr3_0 pC7 lkM_X3_50 rfl hl.1 rfl (Nat.le_of_ble_eq_true rfl) ⟨Nat.le_of_ble_eq_true rfl, Nat.le_of_ble_eq_true rfl⟩ ⟨Nat.le_of_ble_eq_true rfl, Nat.le_of_ble_eq_true rfl⟩ dX3_frontWindowUnder_27) V (fun r5 Zr5 hr5 H locs pr5 _ _ V => ?_)
          obtain ⟨rfl, I, pA_r5, fr5_0⟩ := pr5
          have A := A.tr pA_r5 (by decide)
          refine lv_if_eq (tgt := 40) hx hb dX3_frontWindowUnder_30 (by decide) (fun c_30 => ?_) (fun c_30 => ?_)
          · skip
            have c_30 := pi_eq.mp c_30
            exact J_40 _ _ _ _ V I (A.wk (by decide)) (lv_sub hl [1, 2, 3] rfl) (by omega) 
          · skip
            have c_30 := pi_ne c_30
            refine lv_aload_n hx hb dX3_frontWindowUnder_33 rfl (lv_at hl 1 rfl) ?_
            refine pg_r M V 3 2 (c_is_10 S) pC3 fk3_2 (c_r_10_2 S) lkF_X3_24 dX3_frontWindowUnder_34 ?_
            refine lv_iload_n hx hb dX3_frontWindowUnder_37 rfl (lv_at hl 3 rfl) ?_
            refine pa_iv M V (v := v2) (c_is_13 S) (by rw [c_n_13 S]; exact pi_in (by omega)) ((congrFun (pA_r5.row 13 (by decide)) _).trans (show _ = v2 from ev2.symm)) dX3_frontWindowUnder_38 ?_
            exact pe_i M V rfl rfl hr hlk rfl ⟨rfl, I, A.wk (by decide)⟩ ⟨Nat.le_refl _, Nat.le_refl _⟩ dX3_frontWindowUnder_39
  refine lv_bipush (v := 7) hx hb dX3_frontWindowUnder_0 (by decide) ?_
  refine lv_istore_n (lv' := [(2, .int (7 : Int32)), (0, .ref (zB Z + 10)), (1, .ref (zB Z + 1))]) hx hb dX3_frontWindowUnder_2 rfl hl (by decide) rfl (fun ls hl => ?_)
  have k_7 : (7 : Int32).toInt = 7 := rfl
  exact J_3 _ (7 : Int32) _ _ _ _ V I (A.wk (by decide)) (lv_sub hl [1, 2, 0] rfl) (by omega) (Nat.lt_succ_self _) 
theorem dX3_findHovered_0 : decode cX3_findHovered 0 = .ok (.aload_n 0, 1) := by decide +kernel
theorem dX3_findHovered_1 : decode cX3_findHovered 1 = .ok (.getfield 35, 3) := by decide +kernel
theorem dX3_findHovered_4 : decode cX3_findHovered 4 = .ok (.iconst (-1), 1) := by decide +kernel
theorem dX3_findHovered_5 : decode cX3_findHovered 5 = .ok (.if_icmp .eq 53, 3) := by decide +kernel
theorem dX3_findHovered_8 : decode cX3_findHovered 8 = .ok (.aload_n 0, 1) := by decide +kernel
theorem dX3_findHovered_9 : decode cX3_findHovered 9 = .ok (.getfield 20, 3) := by decide +kernel
theorem dX3_findHovered_12 : decode cX3_findHovered 12 = .ok (.getfield 46, 3) := by decide +kernel
theorem dX3_findHovered_15 : decode cX3_findHovered 15 = .ok (.ifCond .eq 43, 3) := by decide +kernel
theorem dX3_findHovered_18 : decode cX3_findHovered 18 = .ok (.aload_n 0, 1) := by decide +kernel
theorem dX3_findHovered_19 : decode cX3_findHovered 19 = .ok (.getfield 20, 3) := by decide +kernel
theorem dX3_findHovered_22 : decode cX3_findHovered 22 = .ok (.aload_n 1, 1) := by decide +kernel
theorem dX3_findHovered_23 : decode cX3_findHovered 23 = .ok (.invokevirtual 50, 3) := by decide +kernel
theorem dX3_findHovered_26 : decode cX3_findHovered 26 = .ok (.istore_n 2, 1) := by decide +kernel
theorem dX3_findHovered_27 : decode cX3_findHovered 27 = .ok (.aload_n 0, 1) := by decide +kernel
theorem dX3_findHovered_28 : decode cX3_findHovered 28 = .ok (.iload_n 2, 1) := by decide +kernel
theorem dX3_findHovered_29 : decode cX3_findHovered 29 = .ok (.ifCond .eq 8, 3) := by decide +kernel
theorem dX3_findHovered_32 : decode cX3_findHovered 32 = .ok (.bipush 8, 2) := by decide +kernel
theorem dX3_findHovered_34 : decode cX3_findHovered 34 = .ok (.goto 4, 3) := by decide +kernel
theorem dX3_findHovered_37 : decode cX3_findHovered 37 = .ok (.iconst (-1), 1) := by decide +kernel
theorem dX3_findHovered_38 : decode cX3_findHovered 38 = .ok (.putfield 28, 3) := by decide +kernel
theorem dX3_findHovered_41 : decode cX3_findHovered 41 = .ok (.iload_n 2, 1) := by decide +kernel
theorem dX3_findHovered_42 : decode cX3_findHovered 42 = .ok (.ifCond .ne 15, 3) := by decide +kernel
theorem dX3_findHovered_45 : decode cX3_findHovered 45 = .ok (.aload_n 1, 1) := by decide +kernel
theorem dX3_findHovered_46 : decode cX3_findHovered 46 = .ok (.getfield 54, 3) := by decide +kernel
theorem dX3_findHovered_49 : decode cX3_findHovered 49 = .ok (.ifCond .eq 8, 3) := by decide +kernel
theorem dX3_findHovered_52 : decode cX3_findHovered 52 = .ok (.aload_n 0, 1) := by decide +kernel
theorem dX3_findHovered_53 : decode cX3_findHovered 53 = .ok (.iconst (-1), 1) := by decide +kernel
theorem dX3_findHovered_54 : decode cX3_findHovered 54 = .ok (.putfield 35, 3) := by decide +kernel
theorem dX3_findHovered_57 : decode cX3_findHovered 57 = .ok (.return_, 1) := by decide +kernel
theorem dX3_findHovered_58 : decode cX3_findHovered 58 = .ok (.aload_n 0, 1) := by decide +kernel
theorem dX3_findHovered_59 : decode cX3_findHovered 59 = .ok (.aload_n 0, 1) := by decide +kernel
theorem dX3_findHovered_60 : decode cX3_findHovered 60 = .ok (.aload_n 1, 1) := by decide +kernel
theorem dX3_findHovered_61 : decode cX3_findHovered 61 = .ok (.invokevirtual 59, 3) := by decide +kernel
theorem dX3_findHovered_64 : decode cX3_findHovered 64 = .ok (.putfield 28, 3) := by decide +kernel
theorem dX3_findHovered_67 : decode cX3_findHovered 67 = .ok (.aload_n 0, 1) := by decide +kernel
theorem dX3_findHovered_68 : decode cX3_findHovered 68 = .ok (.getfield 28, 3) := by decide +kernel
theorem dX3_findHovered_71 : decode cX3_findHovered 71 = .ok (.iconst (-1), 1) := by decide +kernel
theorem dX3_findHovered_72 : decode cX3_findHovered 72 = .ok (.if_icmp .eq 18, 3) := by decide +kernel
theorem dX3_findHovered_75 : decode cX3_findHovered 75 = .ok (.aload_n 1, 1) := by decide +kernel
theorem dX3_findHovered_76 : decode cX3_findHovered 76 = .ok (.getfield 54, 3) := by decide +kernel
theorem dX3_findHovered_79 : decode cX3_findHovered 79 = .ok (.ifCond .eq 11, 3) := by decide +kernel
theorem dX3_findHovered_82 : decode cX3_findHovered 82 = .ok (.aload_n 0, 1) := by decide +kernel
theorem dX3_findHovered_83 : decode cX3_findHovered 83 = .ok (.aload_n 0, 1) := by decide +kernel
theorem dX3_findHovered_84 : decode cX3_findHovered 84 = .ok (.getfield 28, 3) := by decide +kernel
theorem dX3_findHovered_87 : decode cX3_findHovered 87 = .ok (.invokevirtual 63, 3) := by decide +kernel
theorem dX3_findHovered_90 : decode cX3_findHovered 90 = .ok (.return_, 1) := by decide +kernel
set_option maxHeartbeats 4000000 in
set_option maxRecDepth 100000 in
theorem m_X3_findHovered (l : Launch) {Z : pZ} (S : pSh Z) {h : pH} (I : Iv Z h)  : pMet l yX3_findHovered cX3_findHovered 3 none 3 0 0 67 Z h [.ref (zB Z + 10), .ref (zB Z + 1)] (pQv Z (fun Z1 h1 => Z = Z1 ∧ Iv Z h1 ∧ agrD [(10, 3), (10, 4), (10, 5), (10, 6), (13, 1000)] h h1)) := by
  refine pOfW (lv := [(0, .ref (zB Z + 10)), (1, .ref (zB Z + 1))]) (by decide) (Nat.le_of_ble_eq_true rfl) rfl ?_
  intro p e s m below meth c ls M hr hlk hnm V hl
  have hx := M.1.1
  have hb := M.1.2.1
  have A : agrD [] h h := agrD.rf
  have J_90 : ∀ (hJ : pH) (H : Heap) (locs : List Loc) (ls : Array Slot), pV Z hJ s.heap H locs → Iv Z hJ → agrD [(10, 3), (13, 1000)] h hJ → lv_has ls 3 [(0, .ref (zB Z + 10)), (1, .ref (zB Z + 1))] → W p l e (pRm 3 0 0 67) s m ([.ref (zB Z + 10), .ref (zB Z + 1)] : List Value).toArray below meth c H locs 0 0 (MQ below (pQv Z (fun Z1 h1 => Z = Z1 ∧ Iv Z h1 ∧ agrD [(10, 3), (10, 4), (10, 5), (10, 6), (13, 1000)] h h1)) ([.ref (zB Z + 10), .ref (zB Z + 1)] : List Value).toArray s 0 0 (pA (zB Z))) (F0 m 90 ls []) := by
    intro hJ H locs ls V I A hl
    exact pe_v M V rfl rfl hr hlk ⟨rfl, I, A.wk (by decide)⟩ ⟨Nat.le_refl _, Nat.le_refl _⟩ dX3_findHovered_90
  have J_58 : ∀ (hJ : pH) (H : Heap) (locs : List Loc) (ls : Array Slot), pV Z hJ s.heap H locs → Iv Z hJ → agrD [] h hJ → lv_has ls 3 [(0, .ref (zB Z + 10)), (1, .ref (zB Z + 1))] → W p l e (pRm 3 0 0 67) s m ([.ref (zB Z + 10), .ref (zB Z + 1)] : List Value).toArray below meth c H locs 0 0 (MQ below (pQv Z (fun Z1 h1 => Z = Z1 ∧ Iv Z h1 ∧ agrD [(10, 3), (10, 4), (10, 5), (10, 6), (13, 1000)] h h1)) ([.ref (zB Z + 10), .ref (zB Z + 1)] : List Value).toArray s 0 0 (pA (zB Z))) (F0 m 58 ls []) := by
    intro hJ H locs ls V I A hl
    refine lv_aload_n hx hb dX3_findHovered_58 rfl (lv_at hl 0 rfl) ?_
    refine lv_aload_n hx hb dX3_findHovered_59 rfl (lv_at hl 0 rfl) ?_
    refine lv_aload_n hx hb dX3_findHovered_60 rfl (lv_at hl 1 rfl) ?_
    refine pk_i (pr_V M V (m_X3_frontWindowUnder l S I  ) km_X3_frontWindowUnder (c_is_10 S) pC3 lkM_X3_59 rfl hl.1 rfl (Nat.le_of_ble_eq_true rfl) ⟨Nat.le_of_ble_eq_true rfl, Nat.le_of_ble_eq_true rfl⟩ ⟨Nat.le_of_ble_eq_true rfl, Nat.le_of_ble_eq_true rfl⟩ dX3_findHovered_61) V (fun r1 Zr1 hr1 H locs pr1 _ _ V => ?_)
    obtain ⟨rfl, I, pA_r1⟩ := pr1
    have A := A.tr pA_r1 (by decide)
    refine pp_i M V 3 3 (c_is_10 S) pC3 fk3_3 rfl lkF_X3_28 ⟨rfl, rfl⟩ dX3_findHovered_64 (fun H locs V => ?_)
    have A := A.wk (l3 := [(10, 3)]) (by decide)
    have A := A.up (o := 10) (k := 3) (v := r1) (by decide)
    have I := I.up (k := 3) (v := r1) (c_is_10 S) (pi_full _)
    refine lv_aload_n hx hb dX3_findHovered_67 rfl (lv_at hl 0 rfl) ?_
    refine pg_iv M V 3 3 (v := r1) (c_is_10 S) pC3 fk3_3 rfl lkF_X3_28 dX3_findHovered_68 ?_
    refine lv_iconst (v := (-1)) hx hb dX3_findHovered_71 (by decide) ?_
    refine lv_icmp_eq (tgt := 90) hx hb dX3_findHovered_72 (by decide) (fun c_72 => ?_) (fun c_72 => ?_)
    · skip
      have k_m1 : (-1 : Int32).toInt = -1 := rfl
      have c_72 := pi_eq.mp c_72
      exact J_90 _ _ _ _ V I (A.wk (by decide)) (lv_sub hl [0, 1] rfl) 
    · skip
      have k_m1 : (-1 : Int32).toInt = -1 := rfl
      have c_72 := pi_ne c_72
      refine lv_aload_n hx hb dX3_findHovered_75 rfl (lv_at hl 1 rfl) ?_
      refine pg_i M V 5 14 (c_is_1 S) pC5 fk5_14 lkF_X3_54 dX3_findHovered_76 ?_
      refine lv_topi (fun v2 ev2 => ?_)
      have tv2 : 0 ≤ v2.toInt ∧ v2.toInt ≤ 1 := by rw [ev2]; exact I.get (c_is_1 S) 14
      refine lv_if_eq (tgt := 90) hx hb dX3_findHovered_79 (by decide) (fun c_79 => ?_) (fun c_79 => ?_)
      · skip
        have k_0 : (0 : Int32).toInt = 0 := rfl
        have c_79 := pi_eq.mp c_79
        exact J_90 _ _ _ _ V I (A.wk (by decide)) (lv_sub hl [0, 1] rfl) 
      · skip
        have k_0 : (0 : Int32).toInt = 0 := rfl
        have c_79 := pi_ne c_79
        refine lv_aload_n hx hb dX3_findHovered_82 rfl (lv_at hl 0 rfl) ?_
        refine lv_aload_n hx hb dX3_findHovered_83 rfl (lv_at hl 0 rfl) ?_
        refine pg_iv M V 3 3 (v := r1) (c_is_10 S) pC3 fk3_3 rfl lkF_X3_28 dX3_findHovered_84 ?_
        refine pk_v (pr_V M V (m_X3_bringToFront l S I r1 ) km_X3_bringToFront (c_is_10 S) pC3 lkM_X3_63 rfl hl.1 rfl (Nat.le_of_ble_eq_true rfl) ⟨Nat.le_of_ble_eq_true rfl, Nat.le_of_ble_eq_true rfl⟩ ⟨Nat.le_of_ble_eq_true rfl, Nat.le_of_ble_eq_true rfl⟩ dX3_findHovered_87) V (fun Zr3 hr3 H locs pr3 _ _ V => ?_)
        obtain ⟨rfl, I, pA_r3⟩ := pr3
        have A := A.wk (l3 := [(10, 3), (13, 1000)]) (by decide)
        have A := A.tr pA_r3 (by decide)
        exact J_90 _ _ _ _ V I (A.wk (by decide)) (lv_sub hl [0, 1] rfl) 
  have J_57 : ∀ (x57_2 : Int32) (hJ : pH) (H : Heap) (locs : List Loc) (ls : Array Slot), pV Z hJ s.heap H locs → Iv Z hJ → agrD [(10, 3), (10, 5)] h hJ → lv_has ls 3 [(0, .ref (zB Z + 10)), (1, .ref (zB Z + 1)), (2, .int x57_2)] → (0 ≤ x57_2.toInt ∧ x57_2.toInt ≤ 1) → W p l e (pRm 3 0 0 67) s m ([.ref (zB Z + 10), .ref (zB Z + 1)] : List Value).toArray below meth c H locs 0 0 (MQ below (pQv Z (fun Z1 h1 => Z = Z1 ∧ Iv Z h1 ∧ agrD [(10, 3), (10, 4), (10, 5), (10, 6), (13, 1000)] h h1)) ([.ref (zB Z + 10), .ref (zB Z + 1)] : List Value).toArray s 0 0 (pA (zB Z))) (F0 m 57 ls []) := by
    intro x57_2 hJ H locs ls V I A hl g_57_2
    exact pe_v M V rfl rfl hr hlk ⟨rfl, I, A.wk (by decide)⟩ ⟨Nat.le_refl _, Nat.le_refl _⟩ dX3_findHovered_57
  have J_38 : ∀ (x38_2 : Int32) (y38_0 : Int32) (hJ : pH) (H : Heap) (locs : List Loc) (ls : Array Slot), pV Z hJ s.heap H locs → Iv Z hJ → agrD [] h hJ → lv_has ls 3 [(0, .ref (zB Z + 10)), (1, .ref (zB Z + 1)), (2, .int x38_2)] → (0 ≤ x38_2.toInt ∧ x38_2.toInt ≤ 1) → (-1 ≤ y38_0.toInt ∧ y38_0.toInt ≤ 8) → W p l e (pRm 3 0 0 67) s m ([.ref (zB Z + 10), .ref (zB Z + 1)] : List Value).toArray below meth c H locs 0 0 (MQ below (pQv Z (fun Z1 h1 => Z = Z1 ∧ Iv Z h1 ∧ agrD [(10, 3), (10, 4), (10, 5), (10, 6), (13, 1000)] h h1)) ([.ref (zB Z + 10), .ref (zB Z + 1)] : List Value).toArray s 0 0 (pA (zB Z))) (F0 m 38 ls [.int y38_0, .ref (zB Z + 10)]) := by
    intro x38_2 y38_0 hJ H locs ls V I A hl g_38_2 gs_38_0
    refine pp_i M V 3 3 (c_is_10 S) pC3 fk3_3 rfl lkF_X3_28 ⟨rfl, rfl⟩ dX3_findHovered_38 (fun H locs V => ?_)
    have A := A.wk (l3 := [(10, 3)]) (by decide)
    have A := A.up (o := 10) (k := 3) (v := y38_0) (by decide)
    have I := I.up (k := 3) (v := y38_0) (c_is_10 S) (pi_full _)
    refine lv_iload_n hx hb dX3_findHovered_41 rfl (lv_at hl 2 rfl) ?_
    refine lv_if_ne (tgt := 57) hx hb dX3_findHovered_42 (by decide) (fun c_42 => ?_) (fun c_42 => ?_)
    · skip
      have k_0 : (0 : Int32).toInt = 0 := rfl
      have c_42 := pi_ne c_42
      exact J_57 x38_2 _ _ _ _ V I (A.wk (by decide)) (lv_sub hl [0, 1, 2] rfl) (by omega) 
    · skip
      have k_0 : (0 : Int32).toInt = 0 := rfl
      have c_42 := pi_eq.mp c_42
      refine lv_aload_n hx hb dX3_findHovered_45 rfl (lv_at hl 1 rfl) ?_
      refine pg_i M V 5 14 (c_is_1 S) pC5 fk5_14 lkF_X3_54 dX3_findHovered_46 ?_
      refine lv_topi (fun v4 ev4 => ?_)
      have tv4 : 0 ≤ v4.toInt ∧ v4.toInt ≤ 1 := by rw [ev4]; exact I.get (c_is_1 S) 14
      refine lv_if_eq (tgt := 57) hx hb dX3_findHovered_49 (by decide) (fun c_49 => ?_) (fun c_49 => ?_)
      · skip
        have c_49 := pi_eq.mp c_49
        exact J_57 x38_2 _ _ _ _ V I (A.wk (by decide)) (lv_sub hl [0, 1, 2] rfl) (by omega) 
      · skip
        have c_49 := pi_ne c_49
        refine lv_aload_n hx hb dX3_findHovered_52 rfl (lv_at hl 0 rfl) ?_
        refine lv_iconst (v := (-1)) hx hb dX3_findHovered_53 (by decide) ?_
        refine pp_i M V 3 5 (c_is_10 S) pC3 fk3_5 rfl lkF_X3_35 ⟨rfl, rfl⟩ dX3_findHovered_54 (fun H locs V => ?_)
        have A := A.wk (l3 := [(10, 3), (10, 5)]) (by decide)
        have A := A.up (o := 10) (k := 5) (v := (-1 : Int32)) (by decide)
        have I := I.up (k := 5) (v := (-1 : Int32)) (c_is_10 S) (pi_full _)
        exact J_57 x38_2 _ _ _ _ V I (A.wk (by decide)) (lv_sub hl [0, 1, 2] rfl) (by omega) 
  refine lv_aload_n hx hb dX3_findHovered_0 rfl (lv_at hl 0 rfl) ?_
  refine pg_i M V 3 5 (c_is_10 S) pC3 fk3_5 lkF_X3_35 dX3_findHovered_1 ?_
  refine lv_topi (fun v5 ev5 => ?_)
  refine lv_iconst (v := (-1)) hx hb dX3_findHovered_4 (by decide) ?_
  refine lv_icmp_eq (tgt := 58) hx hb dX3_findHovered_5 (by decide) (fun c_5 => ?_) (fun c_5 => ?_)
  · skip
    have k_m1 : (-1 : Int32).toInt = -1 := rfl
    have c_5 := pi_eq.mp c_5
    exact J_58 _ _ _ _ V I (A.wk (by decide)) (lv_sub hl [0, 1] rfl) 
  · skip
    have k_m1 : (-1 : Int32).toInt = -1 := rfl
    have c_5 := pi_ne c_5
    refine lv_aload_n hx hb dX3_findHovered_8 rfl (lv_at hl 0 rfl) ?_
    refine pg_r M V 3 1 (c_is_10 S) pC3 fk3_1 (c_r_10_1 S) lkF_X3_20 dX3_findHovered_9 ?_
    refine pg_i M V 7 9 (c_is_12 S) pC7 fk7_9 lkF_X3_46 dX3_findHovered_12 ?_
    refine lv_topi (fun v6 ev6 => ?_)
    have tv6 : 0 ≤ v6.toInt ∧ v6.toInt ≤ 1 := by rw [ev6]; exact I.get (c_is_12 S) 9
    refine lv_if_eq (tgt := 58) hx hb dX3_findHovered_15 (by decide) (fun c_15 => ?_) (fun c_15 => ?_)
    · skip
      have k_0 : (0 : Int32).toInt = 0 := rfl
      have c_15 := pi_eq.mp c_15
      exact J_58 _ _ _ _ V I (A.wk (by decide)) (lv_sub hl [0, 1] rfl) 
    · skip
      have k_0 : (0 : Int32).toInt = 0 := rfl
      have c_15 := pi_ne c_15
      refine lv_aload_n hx hb dX3_findHovered_18 rfl (lv_at hl 0 rfl) ?_
      refine pg_r M V 3 1 (c_is_10 S) pC3 fk3_1 (c_r_10_1 S) lkF_X3_20 dX3_findHovered_19 ?_
      refine lv_aload_n hx hb dX3_findHovered_22 rfl (lv_at hl 1 rfl) ?_
      refine pk_i (pr_V M V (m_X7_hasMouse l S I 12 (c_is_12 S)  ) km_X7_hasMouse (c_is_12 S) pC7 lkM_X3_50 rfl hl.1 rfl (Nat.le_of_ble_eq_true rfl) ⟨Nat.le_of_ble_eq_true rfl, Nat.le_of_ble_eq_true rfl⟩ ⟨Nat.le_of_ble_eq_true rfl, Nat.le_of_ble_eq_true rfl⟩ dX3_findHovered_23) V (fun r7 Zr7 hr7 H locs pr7 _ _ V => ?_)
      obtain ⟨rfl, I, pA_r7, fr7_0⟩ := pr7
      have A := A.tr pA_r7 (by decide)
      refine lv_istore_n (lv' := [(2, .int r7), (0, .ref (zB Z + 10)), (1, .ref (zB Z + 1))]) hx hb dX3_findHovered_26 rfl hl (by decide) rfl (fun ls hl => ?_)
      refine lv_aload_n hx hb dX3_findHovered_27 rfl (lv_at hl 1 rfl) ?_
      refine lv_iload_n hx hb dX3_findHovered_28 rfl (lv_at hl 0 rfl) ?_
      refine lv_if_eq (tgt := 37) hx hb dX3_findHovered_29 (by decide) (fun c_29 => ?_) (fun c_29 => ?_)
      · skip
        have c_29 := pi_eq.mp c_29
        refine lv_iconst (v := (-1)) hx hb dX3_findHovered_37 (by decide) ?_
        exact J_38 r7 (-1 : Int32) _ _ _ _ V I (A.wk (by decide)) (lv_sub hl [1, 2, 0] rfl) (by omega) (by omega) 
      · skip
        have c_29 := pi_ne c_29
        refine lv_bipush (v := 8) hx hb dX3_findHovered_32 (by decide) ?_
        refine lv_goto (tgt := 38) hx hb dX3_findHovered_34 (by decide) ?_
        have k_8 : (8 : Int32).toInt = 8 := rfl
        exact J_38 r7 (8 : Int32) _ _ _ _ V I (A.wk (by decide)) (lv_sub hl [1, 2, 0] rfl) (by omega) (by omega) 
theorem dX3_openPopup_0 : decode cX3_openPopup 0 = .ok (.aload_n 0, 1) := by decide +kernel
theorem dX3_openPopup_1 : decode cX3_openPopup 1 = .ok (.getfield 20, 3) := by decide +kernel
theorem dX3_openPopup_4 : decode cX3_openPopup 4 = .ok (.getfield 46, 3) := by decide +kernel
theorem dX3_openPopup_7 : decode cX3_openPopup 7 = .ok (.ifCond .eq 5, 3) := by decide +kernel
theorem dX3_openPopup_10 : decode cX3_openPopup 10 = .ok (.iconst 0, 1) := by decide +kernel
theorem dX3_openPopup_11 : decode cX3_openPopup 11 = .ok (.ireturn, 1) := by decide +kernel
theorem dX3_openPopup_12 : decode cX3_openPopup 12 = .ok (.aload_n 0, 1) := by decide +kernel
theorem dX3_openPopup_13 : decode cX3_openPopup 13 = .ok (.iload_n 1, 1) := by decide +kernel
theorem dX3_openPopup_14 : decode cX3_openPopup 14 = .ok (.putfield 35, 3) := by decide +kernel
theorem dX3_openPopup_17 : decode cX3_openPopup 17 = .ok (.aload_n 0, 1) := by decide +kernel
theorem dX3_openPopup_18 : decode cX3_openPopup 18 = .ok (.iconst 1, 1) := by decide +kernel
theorem dX3_openPopup_19 : decode cX3_openPopup 19 = .ok (.putfield 70, 3) := by decide +kernel
theorem dX3_openPopup_22 : decode cX3_openPopup 22 = .ok (.aload_n 0, 1) := by decide +kernel
theorem dX3_openPopup_23 : decode cX3_openPopup 23 = .ok (.getfield 20, 3) := by decide +kernel
theorem dX3_openPopup_26 : decode cX3_openPopup 26 = .ok (.aload_n 2, 1) := by decide +kernel
theorem dX3_openPopup_27 : decode cX3_openPopup 27 = .ok (.getfield 73, 3) := by decide +kernel
theorem dX3_openPopup_30 : decode cX3_openPopup 30 = .ok (.aload_n 2, 1) := by decide +kernel
theorem dX3_openPopup_31 : decode cX3_openPopup 31 = .ok (.getfield 76, 3) := by decide +kernel
theorem dX3_openPopup_34 : decode cX3_openPopup 34 = .ok (.invokevirtual 79, 3) := by decide +kernel
theorem dX3_openPopup_37 : decode cX3_openPopup 37 = .ok (.iconst 1, 1) := by decide +kernel
theorem dX3_openPopup_38 : decode cX3_openPopup 38 = .ok (.ireturn, 1) := by decide +kernel
set_option maxHeartbeats 4000000 in
set_option maxRecDepth 100000 in
theorem m_X3_openPopup (l : Launch) {Z : pZ} (S : pSh Z) {h : pH} (I : Iv Z h) (label : Int32)  : pMet l yX3_openPopup cX3_openPopup 3 (some .boolean) 1 0 0 22 Z h [.ref (zB Z + 10), .int label, .ref (zB Z + 1)] (pQi Z (fun r Z1 h1 => Z = Z1 ∧ Iv Z h1 ∧ agrD [(10, 3), (10, 4), (10, 5), (10, 6)] h h1 ∧ (r.toInt = 0 ∨ r.toInt = 1))) := by
  refine pOfW (lv := [(0, .ref (zB Z + 10)), (1, .int label), (2, .ref (zB Z + 1))]) (by decide) (Nat.le_of_ble_eq_true rfl) rfl ?_
  intro p e s m below meth c ls M hr hlk hnm V hl
  have hx := M.1.1
  have hb := M.1.2.1
  have A : agrD [] h h := agrD.rf
  refine lv_aload_n hx hb dX3_openPopup_0 rfl (lv_at hl 0 rfl) ?_
  refine pg_r M V 3 1 (c_is_10 S) pC3 fk3_1 (c_r_10_1 S) lkF_X3_20 dX3_openPopup_1 ?_
  refine pg_i M V 7 9 (c_is_12 S) pC7 fk7_9 lkF_X3_46 dX3_openPopup_4 ?_
  refine lv_topi (fun v1 ev1 => ?_)
  have tv1 : 0 ≤ v1.toInt ∧ v1.toInt ≤ 1 := by rw [ev1]; exact I.get (c_is_12 S) 9
  refine lv_if_eq (tgt := 12) hx hb dX3_openPopup_7 (by decide) (fun c_7 => ?_) (fun c_7 => ?_)
  · skip
    have k_0 : (0 : Int32).toInt = 0 := rfl
    have c_7 := pi_eq.mp c_7
    refine lv_aload_n hx hb dX3_openPopup_12 rfl (lv_at hl 0 rfl) ?_
    refine lv_iload_n hx hb dX3_openPopup_13 rfl (lv_at hl 1 rfl) ?_
    refine pp_i M V 3 5 (c_is_10 S) pC3 fk3_5 rfl lkF_X3_35 ⟨rfl, rfl⟩ dX3_openPopup_14 (fun H locs V => ?_)
    have A := A.wk (l3 := [(10, 5)]) (by decide)
    have A := A.up (o := 10) (k := 5) (v := label) (by decide)
    have I := I.up (k := 5) (v := label) (c_is_10 S) (pi_full _)
    refine lv_aload_n hx hb dX3_openPopup_17 rfl (lv_at hl 0 rfl) ?_
    refine lv_iconst (v := 1) hx hb dX3_openPopup_18 (by decide) ?_
    have k_1 : (1 : Int32).toInt = 1 := rfl
    have z_19 : (1 : Int32) = 0 ∨ (1 : Int32) = 1 := pi_z (by omega)
    refine pp_i M V 3 6 (c_is_10 S) pC3 fk3_6 rfl lkF_X3_70 ⟨(pn_z z_19).1, (pn_z z_19).2.1⟩ dX3_openPopup_19 (fun H locs V => ?_)
    have A := A.wk (l3 := [(10, 5), (10, 6)]) (by decide)
    have A := A.up (o := 10) (k := 6) (v := (1 : Int32)) (by decide)
    have I := I.up (k := 6) (v := (1 : Int32)) (c_is_10 S) (show (0 : Int) ≤ (1 : Int32).toInt ∧ (1 : Int32).toInt ≤ (1 : Int) by omega)
    refine lv_aload_n hx hb dX3_openPopup_22 rfl (lv_at hl 0 rfl) ?_
    refine pg_r M V 3 1 (c_is_10 S) pC3 fk3_1 (c_r_10_1 S) lkF_X3_20 dX3_openPopup_23 ?_
    refine lv_aload_n hx hb dX3_openPopup_26 rfl (lv_at hl 2 rfl) ?_
    refine pg_i M V 5 7 (c_is_1 S) pC5 fk5_7 lkF_X3_73 dX3_openPopup_27 ?_
    refine lv_topi (fun v2 ev2 => ?_)
    refine lv_aload_n hx hb dX3_openPopup_30 rfl (lv_at hl 2 rfl) ?_
    refine pg_i M V 5 8 (c_is_1 S) pC5 fk5_8 lkF_X3_76 dX3_openPopup_31 ?_
    refine lv_topi (fun v3 ev3 => ?_)
    refine pk_v (pr_V M V (m_X7_moveTo l S I 12 (c_is_12 S) v2 v3 ) km_X7_moveTo (c_is_12 S) pC7 lkM_X3_79 rfl hl.1 rfl (Nat.le_of_ble_eq_true rfl) ⟨Nat.le_of_ble_eq_true rfl, Nat.le_of_ble_eq_true rfl⟩ ⟨Nat.le_of_ble_eq_true rfl, Nat.le_of_ble_eq_true rfl⟩ dX3_openPopup_34) V (fun Zr4 hr4 H locs pr4 _ _ V => ?_)
    obtain ⟨rfl, I, pA_r4⟩ := pr4
    have A := A.tr pA_r4 (by decide)
    refine lv_iconst (v := 1) hx hb dX3_openPopup_37 (by decide) ?_
    exact pe_i M V rfl rfl hr hlk (pn_z (pi_z (by omega))).1 ⟨rfl, I, A.wk (by decide), by omega⟩ ⟨Nat.le_refl _, Nat.le_refl _⟩ dX3_openPopup_38
  · skip
    have k_0 : (0 : Int32).toInt = 0 := rfl
    have c_7 := pi_ne c_7
    refine lv_iconst (v := 0) hx hb dX3_openPopup_10 (by decide) ?_
    exact pe_i M V rfl rfl hr hlk (pn_z (pi_z (by omega))).1 ⟨rfl, I, A.wk (by decide), by omega⟩ ⟨Nat.le_refl _, Nat.le_refl _⟩ dX3_openPopup_11
theorem dX3_closeUntoldPopup_0 : decode cX3_closeUntoldPopup 0 = .ok (.aload_n 0, 1) := by decide +kernel
theorem dX3_closeUntoldPopup_1 : decode cX3_closeUntoldPopup 1 = .ok (.getfield 20, 3) := by decide +kernel
theorem dX3_closeUntoldPopup_4 : decode cX3_closeUntoldPopup 4 = .ok (.getfield 46, 3) := by decide +kernel
theorem dX3_closeUntoldPopup_7 : decode cX3_closeUntoldPopup 7 = .ok (.ifCond .ne 15, 3) := by decide +kernel
theorem dX3_closeUntoldPopup_10 : decode cX3_closeUntoldPopup 10 = .ok (.aload_n 0, 1) := by decide +kernel
theorem dX3_closeUntoldPopup_11 : decode cX3_closeUntoldPopup 11 = .ok (.getfield 70, 3) := by decide +kernel
theorem dX3_closeUntoldPopup_14 : decode cX3_closeUntoldPopup 14 = .ok (.ifCond .ne 8, 3) := by decide +kernel
theorem dX3_closeUntoldPopup_17 : decode cX3_closeUntoldPopup 17 = .ok (.aload_n 0, 1) := by decide +kernel
theorem dX3_closeUntoldPopup_18 : decode cX3_closeUntoldPopup 18 = .ok (.iconst (-1), 1) := by decide +kernel
theorem dX3_closeUntoldPopup_19 : decode cX3_closeUntoldPopup 19 = .ok (.putfield 35, 3) := by decide +kernel
theorem dX3_closeUntoldPopup_22 : decode cX3_closeUntoldPopup 22 = .ok (.return_, 1) := by decide +kernel
set_option maxHeartbeats 4000000 in
set_option maxRecDepth 100000 in
theorem m_X3_closeUntoldPopup (l : Launch) {Z : pZ} (S : pSh Z) {h : pH} (I : Iv Z h)  : pMet l yX3_closeUntoldPopup cX3_closeUntoldPopup 1 none 0 0 0 0 Z h [.ref (zB Z + 10)] (pQv Z (fun Z1 h1 => Z = Z1 ∧ Iv Z h1 ∧ agrD [(10, 3), (10, 4), (10, 5), (10, 6)] h h1)) := by
  refine pOfW (lv := [(0, .ref (zB Z + 10))]) (by decide) (Nat.le_of_ble_eq_true rfl) rfl ?_
  intro p e s m below meth c ls M hr hlk hnm V hl
  have hx := M.1.1
  have hb := M.1.2.1
  have A : agrD [] h h := agrD.rf
  have J_22 : ∀ (hJ : pH) (H : Heap) (locs : List Loc) (ls : Array Slot), pV Z hJ s.heap H locs → Iv Z hJ → agrD [(10, 5)] h hJ → lv_has ls 1 [(0, .ref (zB Z + 10))] → W p l e (pRm 0 0 0 0) s m ([.ref (zB Z + 10)] : List Value).toArray below meth c H locs 0 0 (MQ below (pQv Z (fun Z1 h1 => Z = Z1 ∧ Iv Z h1 ∧ agrD [(10, 3), (10, 4), (10, 5), (10, 6)] h h1)) ([.ref (zB Z + 10)] : List Value).toArray s 0 0 (pA (zB Z))) (F0 m 22 ls []) := by
    intro hJ H locs ls V I A hl
    exact pe_v M V rfl rfl hr hlk ⟨rfl, I, A.wk (by decide)⟩ ⟨Nat.le_refl _, Nat.le_refl _⟩ dX3_closeUntoldPopup_22
  refine lv_aload_n hx hb dX3_closeUntoldPopup_0 rfl (lv_at hl 0 rfl) ?_
  refine pg_r M V 3 1 (c_is_10 S) pC3 fk3_1 (c_r_10_1 S) lkF_X3_20 dX3_closeUntoldPopup_1 ?_
  refine pg_i M V 7 9 (c_is_12 S) pC7 fk7_9 lkF_X3_46 dX3_closeUntoldPopup_4 ?_
  refine lv_topi (fun v1 ev1 => ?_)
  have tv1 : 0 ≤ v1.toInt ∧ v1.toInt ≤ 1 := by rw [ev1]; exact I.get (c_is_12 S) 9
  refine lv_if_ne (tgt := 22) hx hb dX3_closeUntoldPopup_7 (by decide) (fun c_7 => ?_) (fun c_7 => ?_)
  · skip
    have k_0 : (0 : Int32).toInt = 0 := rfl
    have c_7 := pi_ne c_7
    exact J_22 _ _ _ _ V I (A.wk (by decide)) (lv_sub hl [0] rfl) 
  · skip
    have k_0 : (0 : Int32).toInt = 0 := rfl
    have c_7 := pi_eq.mp c_7
    refine lv_aload_n hx hb dX3_closeUntoldPopup_10 rfl (lv_at hl 0 rfl) ?_
    refine pg_i M V 3 6 (c_is_10 S) pC3 fk3_6 lkF_X3_70 dX3_closeUntoldPopup_11 ?_
    refine lv_topi (fun v2 ev2 => ?_)
    have tv2 : 0 ≤ v2.toInt ∧ v2.toInt ≤ 1 := by rw [ev2]; exact I.get (c_is_10 S) 6
    refine lv_if_ne (tgt := 22) hx hb dX3_closeUntoldPopup_14 (by decide) (fun c_14 => ?_) (fun c_14 => ?_)
    · skip
      have c_14 := pi_ne c_14
      exact J_22 _ _ _ _ V I (A.wk (by decide)) (lv_sub hl [0] rfl) 
    · skip
      have c_14 := pi_eq.mp c_14
      refine lv_aload_n hx hb dX3_closeUntoldPopup_17 rfl (lv_at hl 0 rfl) ?_
      refine lv_iconst (v := (-1)) hx hb dX3_closeUntoldPopup_18 (by decide) ?_
      refine pp_i M V 3 5 (c_is_10 S) pC3 fk3_5 rfl lkF_X3_35 ⟨rfl, rfl⟩ dX3_closeUntoldPopup_19 (fun H locs V => ?_)
      have A := A.wk (l3 := [(10, 5)]) (by decide)
      have A := A.up (o := 10) (k := 5) (v := (-1 : Int32)) (by decide)
      have I := I.up (k := 5) (v := (-1 : Int32)) (c_is_10 S) (pi_full _)
      exact J_22 _ _ _ _ V I (A.wk (by decide)) (lv_sub hl [0] rfl) 
theorem dX3_forgetTold_0 : decode cX3_forgetTold 0 = .ok (.iconst 0, 1) := by decide +kernel
theorem dX3_forgetTold_1 : decode cX3_forgetTold 1 = .ok (.istore_n 1, 1) := by decide +kernel
theorem dX3_forgetTold_2 : decode cX3_forgetTold 2 = .ok (.iload_n 1, 1) := by decide +kernel
theorem dX3_forgetTold_3 : decode cX3_forgetTold 3 = .ok (.bipush 8, 2) := by decide +kernel
theorem dX3_forgetTold_5 : decode cX3_forgetTold 5 = .ok (.if_icmp .gt 18, 3) := by decide +kernel
theorem dX3_forgetTold_8 : decode cX3_forgetTold 8 = .ok (.aload_n 0, 1) := by decide +kernel
theorem dX3_forgetTold_9 : decode cX3_forgetTold 9 = .ok (.iload_n 1, 1) := by decide +kernel
theorem dX3_forgetTold_10 : decode cX3_forgetTold 10 = .ok (.invokevirtual 66, 3) := by decide +kernel
theorem dX3_forgetTold_13 : decode cX3_forgetTold 13 = .ok (.iconst 0, 1) := by decide +kernel
theorem dX3_forgetTold_14 : decode cX3_forgetTold 14 = .ok (.putfield 46, 3) := by decide +kernel
theorem dX3_forgetTold_17 : decode cX3_forgetTold 17 = .ok (.iinc 1 1, 3) := by decide +kernel
theorem dX3_forgetTold_20 : decode cX3_forgetTold 20 = .ok (.goto (-18), 3) := by decide +kernel
theorem dX3_forgetTold_23 : decode cX3_forgetTold 23 = .ok (.aload_n 0, 1) := by decide +kernel
theorem dX3_forgetTold_24 : decode cX3_forgetTold 24 = .ok (.iconst (-1), 1) := by decide +kernel
theorem dX3_forgetTold_25 : decode cX3_forgetTold 25 = .ok (.putfield 32, 3) := by decide +kernel
theorem dX3_forgetTold_28 : decode cX3_forgetTold 28 = .ok (.aload_n 0, 1) := by decide +kernel
theorem dX3_forgetTold_29 : decode cX3_forgetTold 29 = .ok (.iconst 0, 1) := by decide +kernel
theorem dX3_forgetTold_30 : decode cX3_forgetTold 30 = .ok (.putfield 70, 3) := by decide +kernel
theorem dX3_forgetTold_33 : decode cX3_forgetTold 33 = .ok (.return_, 1) := by decide +kernel
set_option maxHeartbeats 4000000 in
set_option maxRecDepth 100000 in
theorem m_X3_forgetTold (l : Launch) {Z : pZ} (S : pSh Z) {h : pH} (I : Iv Z h)  : pMet l yX3_forgetTold cX3_forgetTold 2 none 2 0 0 44 Z h [.ref (zB Z + 10)] (pQv Z (fun Z1 h1 => Z = Z1 ∧ Iv Z h1 ∧ agrD [(10, 3), (10, 4), (10, 5), (10, 6)] h h1)) := by
  refine pOfW (lv := [(0, .ref (zB Z + 10))]) (by decide) (Nat.le_of_ble_eq_true rfl) rfl ?_
  intro p e s m below meth c ls M hr hlk hnm V hl
  have hx := M.1.1
  have hb := M.1.2.1
  have A : agrD [] h h := agrD.rf
  have J_2 : ∀ (n9 : Nat) (x2_1 : Int32) (hJ : pH) (H : Heap) (locs : List Loc) (ls : Array Slot), pV Z hJ s.heap H locs → Iv Z hJ → agrD [] h hJ → lv_has ls 2 [(0, .ref (zB Z + 10)), (1, .int x2_1)] → (0 ≤ x2_1.toInt ∧ x2_1.toInt ≤ 9) → (9 - x2_1.toInt).toNat < n9 → W p l e (pRm 2 0 0 44) s m ([.ref (zB Z + 10)] : List Value).toArray below meth c H locs 0 0 (MQ below (pQv Z (fun Z1 h1 => Z = Z1 ∧ Iv Z h1 ∧ agrD [(10, 3), (10, 4), (10, 5), (10, 6)] h h1)) ([.ref (zB Z + 10)] : List Value).toArray s 0 0 (pA (zB Z))) (F0 m 2 ls []) := by
    intro n9
    induction n9 with
    | zero => intro x2_1 hJ H locs ls V I A hl g_2_1 hm9; exact absurd hm9 (Nat.not_lt_zero _)
    | succ n9 ih_2 =>
      intro x2_1 hJ H locs ls V I A hl g_2_1 hm9
      refine lv_iload_n hx hb dX3_forgetTold_2 rfl (lv_at hl 1 rfl) ?_
      refine lv_bipush (v := 8) hx hb dX3_forgetTold_3 (by decide) ?_
      refine lv_icmp_gt (tgt := 23) hx hb dX3_forgetTold_5 (by decide) (fun c_5 => ?_) (fun c_5 => ?_)
      · skip
        have k_8 : (8 : Int32).toInt = 8 := rfl
        have c_5 := pi_lt.mp c_5
        refine lv_aload_n hx hb dX3_forgetTold_23 rfl (lv_at hl 0 rfl) ?_
        refine lv_iconst (v := (-1)) hx hb dX3_forgetTold_24 (by decide) ?_
        refine pp_i M V 3 4 (c_is_10 S) pC3 fk3_4 rfl lkF_X3_32 ⟨rfl, rfl⟩ dX3_forgetTold_25 (fun H locs V => ?_)
        have A := A.wk (l3 := [(10, 4)]) (by decide)
        have A := A.up (o := 10) (k := 4) (v := (-1 : Int32)) (by decide)
        have I := I.up (k := 4) (v := (-1 : Int32)) (c_is_10 S) (pi_full _)
        refine lv_aload_n hx hb dX3_forgetTold_28 rfl (lv_at hl 0 rfl) ?_
        refine lv_iconst (v := 0) hx hb dX3_forgetTold_29 (by decide) ?_
        have k_0 : (0 : Int32).toInt = 0 := rfl
        have z_30 : (0 : Int32) = 0 ∨ (0 : Int32) = 1 := pi_z (by omega)
        refine pp_i M V 3 6 (c_is_10 S) pC3 fk3_6 rfl lkF_X3_70 ⟨(pn_z z_30).1, (pn_z z_30).2.1⟩ dX3_forgetTold_30 (fun H locs V => ?_)
        have A := A.wk (l3 := [(10, 4), (10, 6)]) (by decide)
        have A := A.up (o := 10) (k := 6) (v := (0 : Int32)) (by decide)
        have I := I.up (k := 6) (v := (0 : Int32)) (c_is_10 S) (show (0 : Int) ≤ (0 : Int32).toInt ∧ (0 : Int32).toInt ≤ (1 : Int) by omega)
        exact pe_v M V rfl rfl hr hlk ⟨rfl, I, A.wk (by decide)⟩ ⟨Nat.le_refl _, Nat.le_refl _⟩ dX3_forgetTold_33
      · skip
        have k_8 : (8 : Int32).toInt = 8 := rfl
        have c_5 := pi_lt' c_5
        refine lv_aload_n hx hb dX3_forgetTold_8 rfl (lv_at hl 0 rfl) ?_
        refine lv_iload_n hx hb dX3_forgetTold_9 rfl (lv_at hl 1 rfl) ?_
        refine pk_r (pr_V M V (m_X3_paneOf l S I x2_1) km_X3_paneOf (c_is_10 S) pC3 lkM_X3_66 rfl hl.1 rfl (Nat.le_of_ble_eq_true rfl) ⟨Nat.le_of_ble_eq_true rfl, Nat.le_of_ble_eq_true rfl⟩ ⟨Nat.le_of_ble_eq_true rfl, Nat.le_of_ble_eq_true rfl⟩ dX3_forgetTold_10) V (fun r1 Zr1 hr1 H locs pr1 _ _ V => ?_)
        obtain ⟨rfl, rfl, fr1_0⟩ := pr1
        refine lv_iconst (v := 0) hx hb dX3_forgetTold_13 (by decide) ?_
        have k_0 : (0 : Int32).toInt = 0 := rfl
        have z_14 : (0 : Int32) = 0 ∨ (0 : Int32) = 1 := pi_z (by omega)
        refine pp_i M V 7 9 fr1_0 pC7 fk7_9 rfl lkF_X3_46 ⟨(pn_z z_14).1, (pn_z z_14).2.1⟩ dX3_forgetTold_14 (fun H locs V => ?_)
        have A := A.upS S (k := 9) (v := (0 : Int32)) fr1_0 (by decide)
        have I := I.up (k := 9) (v := (0 : Int32)) fr1_0 (show (0 : Int) ≤ (0 : Int32).toInt ∧ (0 : Int32).toInt ≤ (1 : Int) by omega)
        obtain ⟨v2, ev2⟩ : ∃ y : Int32, y = x2_1 + 1 := ⟨_, rfl⟩
        refine lv_iinc (v := v2) (lv' := [(1, .int v2), (0, .ref (zB Z + 10))]) hx hb dX3_forgetTold_17 hl (k := 1) rfl (by rw [ev2]; rfl) (by decide) rfl (fun ls hl => ?_)
        refine lv_goto (tgt := 2) hx hb dX3_forgetTold_20 (by decide) ?_
        have k_1 : (1 : Int32).toInt = 1 := rfl
        have tv2 : v2.toInt = x2_1.toInt + 1 := by rw [ev2]; have z9 := pi_add (x := x2_1) (y := (1 : Int32)); rw [k_1] at z9; exact z9 (by omega)
        exact ih_2 v2 _ _ _ _ V I (A.wk (by decide)) (lv_sub hl [1, 0] rfl) (by omega) (by omega) 
  refine lv_iconst (v := 0) hx hb dX3_forgetTold_0 (by decide) ?_
  refine lv_istore_n (lv' := [(1, .int (0 : Int32)), (0, .ref (zB Z + 10))]) hx hb dX3_forgetTold_1 rfl hl (by decide) rfl (fun ls hl => ?_)
  have k_0 : (0 : Int32).toInt = 0 := rfl
  exact J_2 _ (0 : Int32) _ _ _ _ V I (A.wk (by decide)) (lv_sub hl [1, 0] rfl) (by omega) (Nat.lt_succ_self _) 
theorem dX3_forgetAll_0 : decode cX3_forgetAll 0 = .ok (.aload_n 0, 1) := by decide +kernel
theorem dX3_forgetAll_1 : decode cX3_forgetAll 1 = .ok (.invokevirtual 83, 3) := by decide +kernel
theorem dX3_forgetAll_4 : decode cX3_forgetAll 4 = .ok (.aload_n 0, 1) := by decide +kernel
theorem dX3_forgetAll_5 : decode cX3_forgetAll 5 = .ok (.iconst (-1), 1) := by decide +kernel
theorem dX3_forgetAll_6 : decode cX3_forgetAll 6 = .ok (.putfield 28, 3) := by decide +kernel
theorem dX3_forgetAll_9 : decode cX3_forgetAll 9 = .ok (.aload_n 0, 1) := by decide +kernel
theorem dX3_forgetAll_10 : decode cX3_forgetAll 10 = .ok (.iconst (-1), 1) := by decide +kernel
theorem dX3_forgetAll_11 : decode cX3_forgetAll 11 = .ok (.putfield 35, 3) := by decide +kernel
theorem dX3_forgetAll_14 : decode cX3_forgetAll 14 = .ok (.return_, 1) := by decide +kernel
set_option maxHeartbeats 4000000 in
set_option maxRecDepth 100000 in
theorem m_X3_forgetAll (l : Launch) {Z : pZ} (S : pSh Z) {h : pH} (I : Iv Z h)  : pMet l yX3_forgetAll cX3_forgetAll 1 none 3 0 0 65 Z h [.ref (zB Z + 10)] (pQv Z (fun Z1 h1 => Z = Z1 ∧ Iv Z h1 ∧ agrD [(10, 3), (10, 4), (10, 5), (10, 6)] h h1)) := by
  refine pOfW (lv := [(0, .ref (zB Z + 10))]) (by decide) (Nat.le_of_ble_eq_true rfl) rfl ?_
  intro p e s m below meth c ls M hr hlk hnm V hl
  have hx := M.1.1
  have hb := M.1.2.1
  have A : agrD [] h h := agrD.rf
  refine lv_aload_n hx hb dX3_forgetAll_0 rfl (lv_at hl 0 rfl) ?_
  refine pk_v (pr_V M V (m_X3_forgetTold l S I  ) km_X3_forgetTold (c_is_10 S) pC3 lkM_X3_83 rfl hl.1 rfl (Nat.le_of_ble_eq_true rfl) ⟨Nat.le_of_ble_eq_true rfl, Nat.le_of_ble_eq_true rfl⟩ ⟨Nat.le_of_ble_eq_true rfl, Nat.le_of_ble_eq_true rfl⟩ dX3_forgetAll_1) V (fun Zr1 hr1 H locs pr1 _ _ V => ?_)
  obtain ⟨rfl, I, pA_r1⟩ := pr1
  have A := A.wk (l3 := [(10, 3), (10, 4), (10, 5), (10, 6)]) (by decide)
  have A := A.tr pA_r1 (by decide)
  refine lv_aload_n hx hb dX3_forgetAll_4 rfl (lv_at hl 0 rfl) ?_
  refine lv_iconst (v := (-1)) hx hb dX3_forgetAll_5 (by decide) ?_
  refine pp_i M V 3 3 (c_is_10 S) pC3 fk3_3 rfl lkF_X3_28 ⟨rfl, rfl⟩ dX3_forgetAll_6 (fun H locs V => ?_)
  have A := A.up (o := 10) (k := 3) (v := (-1 : Int32)) (by decide)
  have I := I.up (k := 3) (v := (-1 : Int32)) (c_is_10 S) (pi_full _)
  refine lv_aload_n hx hb dX3_forgetAll_9 rfl (lv_at hl 0 rfl) ?_
  refine lv_iconst (v := (-1)) hx hb dX3_forgetAll_10 (by decide) ?_
  refine pp_i M V 3 5 (c_is_10 S) pC3 fk3_5 rfl lkF_X3_35 ⟨rfl, rfl⟩ dX3_forgetAll_11 (fun H locs V => ?_)
  have A := A.up (o := 10) (k := 5) (v := (-1 : Int32)) (by decide)
  have I := I.up (k := 5) (v := (-1 : Int32)) (c_is_10 S) (pi_full _)
  exact pe_v M V rfl rfl hr hlk ⟨rfl, I, A.wk (by decide)⟩ ⟨Nat.le_refl _, Nat.le_refl _⟩ dX3_forgetAll_14
