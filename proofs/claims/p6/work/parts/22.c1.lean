theorem dX11_isWithin_0 : decode cX11_isWithin 0 = .ok (.iload_n 0, 1) := by decide +kernel
theorem dX11_isWithin_1 : decode cX11_isWithin 1 = .ok (.iload_n 1, 1) := by decide +kernel
theorem dX11_isWithin_2 : decode cX11_isWithin 2 = .ok (.if_icmp .lt 12, 3) := by decide +kernel
theorem dX11_isWithin_5 : decode cX11_isWithin 5 = .ok (.iload_n 0, 1) := by decide +kernel
theorem dX11_isWithin_6 : decode cX11_isWithin 6 = .ok (.iload_n 2, 1) := by decide +kernel
theorem dX11_isWithin_7 : decode cX11_isWithin 7 = .ok (.if_icmp .gt 7, 3) := by decide +kernel
theorem dX11_isWithin_10 : decode cX11_isWithin 10 = .ok (.iconst 1, 1) := by decide +kernel
theorem dX11_isWithin_11 : decode cX11_isWithin 11 = .ok (.goto 4, 3) := by decide +kernel
theorem dX11_isWithin_14 : decode cX11_isWithin 14 = .ok (.iconst 0, 1) := by decide +kernel
theorem dX11_isWithin_15 : decode cX11_isWithin 15 = .ok (.ireturn, 1) := by decide +kernel
set_option maxHeartbeats 4000000 in
set_option maxRecDepth 100000 in
theorem m_X11_isWithin (l : Launch) {Z : pZ} {h : pH} (v : Int32) (lo : Int32) (hi : Int32)  : pMet l yX11_isWithin cX11_isWithin 3 (some .boolean) 0 0 0 0 Z h [.int v, .int lo, .int hi] (pQi Z (fun r Z1 h1 => Z = Z1 ∧ h = h1 ∧ ((r.toInt = 1 ∧ lo.toInt ≤ v.toInt ∧ v.toInt ≤ hi.toInt) ∨ (r.toInt = 0 ∧ (v.toInt < lo.toInt ∨ hi.toInt < v.toInt))))) := by
  refine pOfW (lv := [(0, .int v), (1, .int lo), (2, .int hi)]) (by decide) (Nat.le_of_ble_eq_true rfl) rfl ?_
  intro p e s m below meth c ls M hr hlk hnm V hl
  have hx := M.1.1
  have hb := M.1.2.1
  refine lv_iload_n hx hb dX11_isWithin_0 rfl (lv_at hl 0 rfl) ?_
  refine lv_iload_n hx hb dX11_isWithin_1 rfl (lv_at hl 1 rfl) ?_
  refine lv_icmp_lt (tgt := 14) hx hb dX11_isWithin_2 (by decide) (fun c_2 => ?_) (fun c_2 => ?_)
  · skip
    have c_2 := pi_lt.mp c_2
    refine lv_iconst (v := 0) hx hb dX11_isWithin_14 (by decide) ?_
    have k_0 : (0 : Int32).toInt = 0 := rfl
    exact pe_i M V rfl rfl hr hlk (pn_z (pi_z (by omega))).1 ⟨rfl, rfl, by omega⟩ ⟨Nat.le_refl _, Nat.le_refl _⟩ dX11_isWithin_15
  · skip
    have c_2 := pi_lt' c_2
    refine lv_iload_n hx hb dX11_isWithin_5 rfl (lv_at hl 0 rfl) ?_
    refine lv_iload_n hx hb dX11_isWithin_6 rfl (lv_at hl 2 rfl) ?_
    refine lv_icmp_gt (tgt := 14) hx hb dX11_isWithin_7 (by decide) (fun c_7 => ?_) (fun c_7 => ?_)
    · skip
      have c_7 := pi_lt.mp c_7
      refine lv_iconst (v := 0) hx hb dX11_isWithin_14 (by decide) ?_
      have k_0 : (0 : Int32).toInt = 0 := rfl
      exact pe_i M V rfl rfl hr hlk (pn_z (pi_z (by omega))).1 ⟨rfl, rfl, by omega⟩ ⟨Nat.le_refl _, Nat.le_refl _⟩ dX11_isWithin_15
    · skip
      have c_7 := pi_lt' c_7
      refine lv_iconst (v := 1) hx hb dX11_isWithin_10 (by decide) ?_
      refine lv_goto (tgt := 15) hx hb dX11_isWithin_11 (by decide) ?_
      have k_1 : (1 : Int32).toInt = 1 := rfl
      exact pe_i M V rfl rfl hr hlk (pn_z (pi_z (by omega))).1 ⟨rfl, rfl, by omega⟩ ⟨Nat.le_refl _, Nat.le_refl _⟩ dX11_isWithin_15
theorem dX11_oneIf_0 : decode cX11_oneIf 0 = .ok (.iload_n 0, 1) := by decide +kernel
theorem dX11_oneIf_1 : decode cX11_oneIf 1 = .ok (.ifCond .eq 7, 3) := by decide +kernel
theorem dX11_oneIf_4 : decode cX11_oneIf 4 = .ok (.iconst 1, 1) := by decide +kernel
theorem dX11_oneIf_5 : decode cX11_oneIf 5 = .ok (.goto 4, 3) := by decide +kernel
theorem dX11_oneIf_8 : decode cX11_oneIf 8 = .ok (.iconst 0, 1) := by decide +kernel
theorem dX11_oneIf_9 : decode cX11_oneIf 9 = .ok (.ireturn, 1) := by decide +kernel
set_option maxHeartbeats 4000000 in
set_option maxRecDepth 100000 in
theorem m_X11_oneIf (l : Launch) {Z : pZ} {h : pH} (b : Int32)  : pMet l yX11_oneIf cX11_oneIf 1 (some .int) 0 0 0 0 Z h [.int b] (pQi Z (fun r Z1 h1 => Z = Z1 ∧ h = h1 ∧ (r.toInt = 0 ∨ r.toInt = 1))) := by
  refine pOfW (lv := [(0, .int b)]) (by decide) (Nat.le_of_ble_eq_true rfl) rfl ?_
  intro p e s m below meth c ls M hr hlk hnm V hl
  have hx := M.1.1
  have hb := M.1.2.1
  refine lv_iload_n hx hb dX11_oneIf_0 rfl (lv_at hl 0 rfl) ?_
  refine lv_if_eq (tgt := 8) hx hb dX11_oneIf_1 (by decide) (fun c_1 => ?_) (fun c_1 => ?_)
  · skip
    have k_0 : (0 : Int32).toInt = 0 := rfl
    have c_1 := pi_eq.mp c_1
    refine lv_iconst (v := 0) hx hb dX11_oneIf_8 (by decide) ?_
    exact pe_i M V rfl rfl hr hlk rfl ⟨rfl, rfl, by omega⟩ ⟨Nat.le_refl _, Nat.le_refl _⟩ dX11_oneIf_9
  · skip
    have k_0 : (0 : Int32).toInt = 0 := rfl
    have c_1 := pi_ne c_1
    refine lv_iconst (v := 1) hx hb dX11_oneIf_4 (by decide) ?_
    refine lv_goto (tgt := 9) hx hb dX11_oneIf_5 (by decide) ?_
    have k_1 : (1 : Int32).toInt = 1 := rfl
    exact pe_i M V rfl rfl hr hlk rfl ⟨rfl, rfl, by omega⟩ ⟨Nat.le_refl _, Nat.le_refl _⟩ dX11_oneIf_9
theorem dX11_isLabel_0 : decode cX11_isLabel 0 = .ok (.iload_n 0, 1) := by decide +kernel
theorem dX11_isLabel_1 : decode cX11_isLabel 1 = .ok (.iconst 0, 1) := by decide +kernel
theorem dX11_isLabel_2 : decode cX11_isLabel 2 = .ok (.sipush 999, 3) := by decide +kernel
theorem dX11_isLabel_5 : decode cX11_isLabel 5 = .ok (.invokestatic 71, 3) := by decide +kernel
theorem dX11_isLabel_8 : decode cX11_isLabel 8 = .ok (.ireturn, 1) := by decide +kernel
set_option maxHeartbeats 4000000 in
set_option maxRecDepth 100000 in
theorem m_X11_isLabel (l : Launch) {Z : pZ} {h : pH} (a : Int32)  : pMet l yX11_isLabel cX11_isLabel 1 (some .boolean) 1 0 0 22 Z h [.int a] (pQi Z (fun r Z1 h1 => Z = Z1 ∧ h = h1 ∧ ((r.toInt = 1 ∧ 0 ≤ a.toInt ∧ a.toInt ≤ 999) ∨ (r.toInt = 0 ∧ (a.toInt < 0 ∨ 999 < a.toInt))))) := by
  refine pOfW (lv := [(0, .int a)]) (by decide) (Nat.le_of_ble_eq_true rfl) rfl ?_
  intro p e s m below meth c ls M hr hlk hnm V hl
  have hx := M.1.1
  have hb := M.1.2.1
  refine lv_iload_n hx hb dX11_isLabel_0 rfl (lv_at hl 0 rfl) ?_
  refine lv_iconst (v := 0) hx hb dX11_isLabel_1 (by decide) ?_
  refine lv_sipush (v := 999) hx hb dX11_isLabel_2 (by decide) ?_
  have k_0 : (0 : Int32).toInt = 0 := rfl
  have k_999 : (999 : Int32).toInt = 999 := rfl
  refine pk_i (pr_S M V (m_X11_isWithin l (Z := Z) (h := _) a (0 : Int32) (999 : Int32)) km_X11_isWithin lkM_X11_71 rfl hl.1 rfl (Nat.le_of_ble_eq_true rfl) ⟨Nat.le_of_ble_eq_true rfl, Nat.le_of_ble_eq_true rfl⟩ ⟨Nat.le_of_ble_eq_true rfl, Nat.le_of_ble_eq_true rfl⟩ dX11_isLabel_5) V (fun r1 Zr1 hr1 H locs pr1 _ _ V => ?_)
  obtain ⟨rfl, rfl, fr1_0⟩ := pr1
  exact pe_i M V rfl rfl hr hlk (pn_z (pi_z (by omega))).1 ⟨rfl, rfl, by omega⟩ ⟨Nat.le_refl _, Nat.le_refl _⟩ dX11_isLabel_8
theorem dX11_isWindowSize_0 : decode cX11_isWindowSize 0 = .ok (.iload_n 0, 1) := by decide +kernel
theorem dX11_isWindowSize_1 : decode cX11_isWindowSize 1 = .ok (.bipush 40, 2) := by decide +kernel
theorem dX11_isWindowSize_3 : decode cX11_isWindowSize 3 = .ok (.sipush 400, 3) := by decide +kernel
theorem dX11_isWindowSize_6 : decode cX11_isWindowSize 6 = .ok (.invokestatic 71, 3) := by decide +kernel
theorem dX11_isWindowSize_9 : decode cX11_isWindowSize 9 = .ok (.ifCond .eq 19, 3) := by decide +kernel
theorem dX11_isWindowSize_12 : decode cX11_isWindowSize 12 = .ok (.iload_n 1, 1) := by decide +kernel
theorem dX11_isWindowSize_13 : decode cX11_isWindowSize 13 = .ok (.bipush 30, 2) := by decide +kernel
theorem dX11_isWindowSize_15 : decode cX11_isWindowSize 15 = .ok (.sipush 400, 3) := by decide +kernel
theorem dX11_isWindowSize_18 : decode cX11_isWindowSize 18 = .ok (.invokestatic 71, 3) := by decide +kernel
theorem dX11_isWindowSize_21 : decode cX11_isWindowSize 21 = .ok (.ifCond .eq 7, 3) := by decide +kernel
theorem dX11_isWindowSize_24 : decode cX11_isWindowSize 24 = .ok (.iconst 1, 1) := by decide +kernel
theorem dX11_isWindowSize_25 : decode cX11_isWindowSize 25 = .ok (.goto 4, 3) := by decide +kernel
theorem dX11_isWindowSize_28 : decode cX11_isWindowSize 28 = .ok (.iconst 0, 1) := by decide +kernel
theorem dX11_isWindowSize_29 : decode cX11_isWindowSize 29 = .ok (.ireturn, 1) := by decide +kernel
set_option maxHeartbeats 4000000 in
set_option maxRecDepth 100000 in
theorem m_X11_isWindowSize (l : Launch) {Z : pZ} {h : pH} (a : Int32) (b : Int32)  : pMet l yX11_isWindowSize cX11_isWindowSize 2 (some .boolean) 1 0 0 22 Z h [.int a, .int b] (pQi Z (fun r Z1 h1 => Z = Z1 ∧ h = h1 ∧ (r.toInt = 0 ∨ r.toInt = 1))) := by
  refine pOfW (lv := [(0, .int a), (1, .int b)]) (by decide) (Nat.le_of_ble_eq_true rfl) rfl ?_
  intro p e s m below meth c ls M hr hlk hnm V hl
  have hx := M.1.1
  have hb := M.1.2.1
  refine lv_iload_n hx hb dX11_isWindowSize_0 rfl (lv_at hl 0 rfl) ?_
  refine lv_bipush (v := 40) hx hb dX11_isWindowSize_1 (by decide) ?_
  refine lv_sipush (v := 400) hx hb dX11_isWindowSize_3 (by decide) ?_
  have k_40 : (40 : Int32).toInt = 40 := rfl
  have k_400 : (400 : Int32).toInt = 400 := rfl
  refine pk_i (pr_S M V (m_X11_isWithin l (Z := Z) (h := _) a (40 : Int32) (400 : Int32)) km_X11_isWithin lkM_X11_71 rfl hl.1 rfl (Nat.le_of_ble_eq_true rfl) ⟨Nat.le_of_ble_eq_true rfl, Nat.le_of_ble_eq_true rfl⟩ ⟨Nat.le_of_ble_eq_true rfl, Nat.le_of_ble_eq_true rfl⟩ dX11_isWindowSize_6) V (fun r1 Zr1 hr1 H locs pr1 _ _ V => ?_)
  obtain ⟨rfl, rfl, fr1_0⟩ := pr1
  refine lv_if_eq (tgt := 28) hx hb dX11_isWindowSize_9 (by decide) (fun c_9 => ?_) (fun c_9 => ?_)
  · skip
    have k_0 : (0 : Int32).toInt = 0 := rfl
    have c_9 := pi_eq.mp c_9
    refine lv_iconst (v := 0) hx hb dX11_isWindowSize_28 (by decide) ?_
    exact pe_i M V rfl rfl hr hlk (pn_z (pi_z (by omega))).1 ⟨rfl, rfl, by omega⟩ ⟨Nat.le_refl _, Nat.le_refl _⟩ dX11_isWindowSize_29
  · skip
    have k_0 : (0 : Int32).toInt = 0 := rfl
    have c_9 := pi_ne c_9
    refine lv_iload_n hx hb dX11_isWindowSize_12 rfl (lv_at hl 1 rfl) ?_
    refine lv_bipush (v := 30) hx hb dX11_isWindowSize_13 (by decide) ?_
    refine lv_sipush (v := 400) hx hb dX11_isWindowSize_15 (by decide) ?_
    have k_30 : (30 : Int32).toInt = 30 := rfl
    refine pk_i (pr_S M V (m_X11_isWithin l (Z := Z) (h := _) b (30 : Int32) (400 : Int32)) km_X11_isWithin lkM_X11_71 rfl hl.1 rfl (Nat.le_of_ble_eq_true rfl) ⟨Nat.le_of_ble_eq_true rfl, Nat.le_of_ble_eq_true rfl⟩ ⟨Nat.le_of_ble_eq_true rfl, Nat.le_of_ble_eq_true rfl⟩ dX11_isWindowSize_18) V (fun r2 Zr2 hr2 H locs pr2 _ _ V => ?_)
    obtain ⟨rfl, rfl, fr2_0⟩ := pr2
    refine lv_if_eq (tgt := 28) hx hb dX11_isWindowSize_21 (by decide) (fun c_21 => ?_) (fun c_21 => ?_)
    · skip
      have c_21 := pi_eq.mp c_21
      refine lv_iconst (v := 0) hx hb dX11_isWindowSize_28 (by decide) ?_
      exact pe_i M V rfl rfl hr hlk (pn_z (pi_z (by omega))).1 ⟨rfl, rfl, by omega⟩ ⟨Nat.le_refl _, Nat.le_refl _⟩ dX11_isWindowSize_29
    · skip
      have c_21 := pi_ne c_21
      refine lv_iconst (v := 1) hx hb dX11_isWindowSize_24 (by decide) ?_
      refine lv_goto (tgt := 29) hx hb dX11_isWindowSize_25 (by decide) ?_
      have k_1 : (1 : Int32).toInt = 1 := rfl
      exact pe_i M V rfl rfl hr hlk (pn_z (pi_z (by omega))).1 ⟨rfl, rfl, by omega⟩ ⟨Nat.le_refl _, Nat.le_refl _⟩ dX11_isWindowSize_29
theorem dX11_bring_0 : decode cX11_bring 0 = .ok (.iload_n 1, 1) := by decide +kernel
theorem dX11_bring_1 : decode cX11_bring 1 = .ok (.iload_n 0, 1) := by decide +kernel
theorem dX11_bring_2 : decode cX11_bring 2 = .ok (.iload_n 2, 1) := by decide +kernel
theorem dX11_bring_3 : decode cX11_bring 3 = .ok (.invokestatic 386, 3) := by decide +kernel
theorem dX11_bring_6 : decode cX11_bring 6 = .ok (.invokestatic 391, 3) := by decide +kernel
theorem dX11_bring_9 : decode cX11_bring 9 = .ok (.ireturn, 1) := by decide +kernel
set_option maxHeartbeats 4000000 in
set_option maxRecDepth 100000 in
theorem m_X11_bring (l : Launch) {Z : pZ} {h : pH} (v : Int32) (lo : Int32) (hi : Int32)  : pMet l yX11_bring cX11_bring 3 (some .int) 1 0 0 21 Z h [.int v, .int lo, .int hi] (pQi Z (fun r Z1 h1 => Z = Z1 ∧ h = h1 ∧ (lo.toInt ≤ r.toInt ∧ (lo.toInt ≤ hi.toInt → r.toInt ≤ hi.toInt)))) := by
  refine pOfW (lv := [(0, .int v), (1, .int lo), (2, .int hi)]) (by decide) (Nat.le_of_ble_eq_true rfl) rfl ?_
  intro p e s m below meth c ls M hr hlk hnm V hl
  have hx := M.1.1
  have hb := M.1.2.1
  refine lv_iload_n hx hb dX11_bring_0 rfl (lv_at hl 1 rfl) ?_
  refine lv_iload_n hx hb dX11_bring_1 rfl (lv_at hl 0 rfl) ?_
  refine lv_iload_n hx hb dX11_bring_2 rfl (lv_at hl 2 rfl) ?_
  refine pm_min M hl.1 lkJ_X11_386 ⟨Nat.le_of_ble_eq_true rfl, Nat.le_of_ble_eq_true rfl⟩ ⟨Nat.zero_le _, Nat.zero_le _⟩ dX11_bring_3 (fun r1 fr1 => ?_)
  refine pm_max M hl.1 lkJ_X11_391 ⟨Nat.le_of_ble_eq_true rfl, Nat.le_of_ble_eq_true rfl⟩ ⟨Nat.zero_le _, Nat.zero_le _⟩ dX11_bring_6 (fun r2 fr2 => ?_)
  exact pe_i M V rfl rfl hr hlk rfl ⟨rfl, rfl, by omega⟩ ⟨Nat.le_refl _, Nat.le_refl _⟩ dX11_bring_9
theorem dX2_set_0 : decode cX2_set 0 = .ok (.aload_n 0, 1) := by decide +kernel
theorem dX2_set_1 : decode cX2_set 1 = .ok (.iload_n 1, 1) := by decide +kernel
theorem dX2_set_2 : decode cX2_set 2 = .ok (.putfield 9, 3) := by decide +kernel
theorem dX2_set_5 : decode cX2_set 5 = .ok (.aload_n 0, 1) := by decide +kernel
theorem dX2_set_6 : decode cX2_set 6 = .ok (.iload_n 2, 1) := by decide +kernel
theorem dX2_set_7 : decode cX2_set 7 = .ok (.putfield 15, 3) := by decide +kernel
theorem dX2_set_10 : decode cX2_set 10 = .ok (.aload_n 0, 1) := by decide +kernel
theorem dX2_set_11 : decode cX2_set 11 = .ok (.iload_n 3, 1) := by decide +kernel
theorem dX2_set_12 : decode cX2_set 12 = .ok (.putfield 18, 3) := by decide +kernel
theorem dX2_set_15 : decode cX2_set 15 = .ok (.aload_n 0, 1) := by decide +kernel
theorem dX2_set_16 : decode cX2_set 16 = .ok (.iload 4, 2) := by decide +kernel
theorem dX2_set_18 : decode cX2_set 18 = .ok (.putfield 21, 3) := by decide +kernel
theorem dX2_set_21 : decode cX2_set 21 = .ok (.return_, 1) := by decide +kernel
set_option maxHeartbeats 4000000 in
set_option maxRecDepth 100000 in
theorem m_X2_set (l : Launch) {Z : pZ} (S : pSh Z) {h : pH} (I : Iv Z h) (o : Nat) (ho : pIs Z o 2) (a : Int32) (b : Int32) (c9 : Int32) (d : Int32)  : pMet l yX2_set cX2_set 5 none 0 0 0 0 Z h [.ref (zB Z + o), .int a, .int b, .int c9, .int d] (pQv Z (fun Z1 h1 => Z = Z1 ∧ Iv Z h1 ∧ agrD [] h h1)) := by
  refine pOfW (lv := [(0, .ref (zB Z + o)), (1, .int a), (2, .int b), (3, .int c9), (4, .int d)]) (by decide) (Nat.le_of_ble_eq_true rfl) rfl ?_
  intro p e s m below meth c ls M hr hlk hnm V hl
  have hx := M.1.1
  have hb := M.1.2.1
  have A : agrD [] h h := agrD.rf
  refine lv_aload_n hx hb dX2_set_0 rfl (lv_at hl 0 rfl) ?_
  refine lv_iload_n hx hb dX2_set_1 rfl (lv_at hl 1 rfl) ?_
  refine pp_i M V 2 0 ho pC2 fk2_0 rfl lkF_X2_9 ⟨rfl, rfl⟩ dX2_set_2 (fun H locs V => ?_)
  have A := A.upS S (k := 0) (v := a) ho (by decide)
  have I := I.up (k := 0) (v := a) ho (pi_full _)
  refine lv_aload_n hx hb dX2_set_5 rfl (lv_at hl 0 rfl) ?_
  refine lv_iload_n hx hb dX2_set_6 rfl (lv_at hl 2 rfl) ?_
  refine pp_i M V 2 1 ho pC2 fk2_1 rfl lkF_X2_15 ⟨rfl, rfl⟩ dX2_set_7 (fun H locs V => ?_)
  have A := A.upS S (k := 1) (v := b) ho (by decide)
  have I := I.up (k := 1) (v := b) ho (pi_full _)
  refine lv_aload_n hx hb dX2_set_10 rfl (lv_at hl 0 rfl) ?_
  refine lv_iload_n hx hb dX2_set_11 rfl (lv_at hl 3 rfl) ?_
  refine pp_i M V 2 2 ho pC2 fk2_2 rfl lkF_X2_18 ⟨rfl, rfl⟩ dX2_set_12 (fun H locs V => ?_)
  have A := A.upS S (k := 2) (v := c9) ho (by decide)
  have I := I.up (k := 2) (v := c9) ho (pi_full _)
  refine lv_aload_n hx hb dX2_set_15 rfl (lv_at hl 0 rfl) ?_
  refine lv_iload hx hb dX2_set_16 (lv_at hl 4 rfl) ?_
  refine pp_i M V 2 3 ho pC2 fk2_3 rfl lkF_X2_21 ⟨rfl, rfl⟩ dX2_set_18 (fun H locs V => ?_)
  have A := A.upS S (k := 3) (v := d) ho (by decide)
  have I := I.up (k := 3) (v := d) ho (pi_full _)
  exact pe_v M V rfl rfl hr hlk ⟨rfl, I, A.wk (by decide)⟩ ⟨Nat.le_refl _, Nat.le_refl _⟩ dX2_set_21
theorem dX2_setLike_0 : decode cX2_setLike 0 = .ok (.aload_n 0, 1) := by decide +kernel
theorem dX2_setLike_1 : decode cX2_setLike 1 = .ok (.aload_n 1, 1) := by decide +kernel
theorem dX2_setLike_2 : decode cX2_setLike 2 = .ok (.getfield 9, 3) := by decide +kernel
theorem dX2_setLike_5 : decode cX2_setLike 5 = .ok (.aload_n 1, 1) := by decide +kernel
theorem dX2_setLike_6 : decode cX2_setLike 6 = .ok (.getfield 15, 3) := by decide +kernel
theorem dX2_setLike_9 : decode cX2_setLike 9 = .ok (.aload_n 1, 1) := by decide +kernel
theorem dX2_setLike_10 : decode cX2_setLike 10 = .ok (.getfield 18, 3) := by decide +kernel
theorem dX2_setLike_13 : decode cX2_setLike 13 = .ok (.aload_n 1, 1) := by decide +kernel
theorem dX2_setLike_14 : decode cX2_setLike 14 = .ok (.getfield 21, 3) := by decide +kernel
theorem dX2_setLike_17 : decode cX2_setLike 17 = .ok (.invokevirtual 24, 3) := by decide +kernel
theorem dX2_setLike_20 : decode cX2_setLike 20 = .ok (.return_, 1) := by decide +kernel
set_option maxHeartbeats 4000000 in
set_option maxRecDepth 100000 in
theorem m_X2_setLike (l : Launch) {Z : pZ} (S : pSh Z) {h : pH} (I : Iv Z h) (o : Nat) (ho : pIs Z o 2) (o2 : Nat) (ho2 : pIs Z o2 2)  : pMet l yX2_setLike cX2_setLike 2 none 1 0 0 24 Z h [.ref (zB Z + o), .ref (zB Z + o2)] (pQv Z (fun Z1 h1 => Z = Z1 ∧ Iv Z h1 ∧ agrD [] h h1)) := by
  refine pOfW (lv := [(0, .ref (zB Z + o)), (1, .ref (zB Z + o2))]) (by decide) (Nat.le_of_ble_eq_true rfl) rfl ?_
  intro p e s m below meth c ls M hr hlk hnm V hl
  have hx := M.1.1
  have hb := M.1.2.1
  have A : agrD [] h h := agrD.rf
  refine lv_aload_n hx hb dX2_setLike_0 rfl (lv_at hl 0 rfl) ?_
  refine lv_aload_n hx hb dX2_setLike_1 rfl (lv_at hl 1 rfl) ?_
  refine pg_i M V 2 0 ho2 pC2 fk2_0 lkF_X2_9 dX2_setLike_2 ?_
  refine lv_topi (fun v1 ev1 => ?_)
  refine lv_aload_n hx hb dX2_setLike_5 rfl (lv_at hl 1 rfl) ?_
  refine pg_i M V 2 1 ho2 pC2 fk2_1 lkF_X2_15 dX2_setLike_6 ?_
  refine lv_topi (fun v2 ev2 => ?_)
  refine lv_aload_n hx hb dX2_setLike_9 rfl (lv_at hl 1 rfl) ?_
  refine pg_i M V 2 2 ho2 pC2 fk2_2 lkF_X2_18 dX2_setLike_10 ?_
  refine lv_topi (fun v3 ev3 => ?_)
  refine lv_aload_n hx hb dX2_setLike_13 rfl (lv_at hl 1 rfl) ?_
  refine pg_i M V 2 3 ho2 pC2 fk2_3 lkF_X2_21 dX2_setLike_14 ?_
  refine lv_topi (fun v4 ev4 => ?_)
  refine pk_v (pr_V M V (m_X2_set l S I o ho v1 v2 v3 v4 ) km_X2_set ho pC2 lkM_X2_24 rfl hl.1 rfl (Nat.le_of_ble_eq_true rfl) ⟨Nat.le_of_ble_eq_true rfl, Nat.le_of_ble_eq_true rfl⟩ ⟨Nat.le_of_ble_eq_true rfl, Nat.le_of_ble_eq_true rfl⟩ dX2_setLike_17) V (fun Zr5 hr5 H locs pr5 _ _ V => ?_)
  obtain ⟨rfl, I, pA_r5⟩ := pr5
  have A := A.tr pA_r5 (by decide)
  exact pe_v M V rfl rfl hr hlk ⟨rfl, I, A.wk (by decide)⟩ ⟨Nat.le_refl _, Nat.le_refl _⟩ dX2_setLike_20
theorem dX2_has_0 : decode cX2_has 0 = .ok (.aload_n 0, 1) := by decide +kernel
theorem dX2_has_1 : decode cX2_has 1 = .ok (.getfield 9, 3) := by decide +kernel
theorem dX2_has_4 : decode cX2_has 4 = .ok (.iload_n 1, 1) := by decide +kernel
theorem dX2_has_5 : decode cX2_has 5 = .ok (.if_icmp .gt 31, 3) := by decide +kernel
theorem dX2_has_8 : decode cX2_has 8 = .ok (.iload_n 1, 1) := by decide +kernel
theorem dX2_has_9 : decode cX2_has 9 = .ok (.aload_n 0, 1) := by decide +kernel
theorem dX2_has_10 : decode cX2_has 10 = .ok (.getfield 18, 3) := by decide +kernel
theorem dX2_has_13 : decode cX2_has 13 = .ok (.if_icmp .ge 23, 3) := by decide +kernel
theorem dX2_has_16 : decode cX2_has 16 = .ok (.aload_n 0, 1) := by decide +kernel
theorem dX2_has_17 : decode cX2_has 17 = .ok (.getfield 15, 3) := by decide +kernel
theorem dX2_has_20 : decode cX2_has 20 = .ok (.iload_n 2, 1) := by decide +kernel
theorem dX2_has_21 : decode cX2_has 21 = .ok (.if_icmp .gt 15, 3) := by decide +kernel
theorem dX2_has_24 : decode cX2_has 24 = .ok (.iload_n 2, 1) := by decide +kernel
theorem dX2_has_25 : decode cX2_has 25 = .ok (.aload_n 0, 1) := by decide +kernel
theorem dX2_has_26 : decode cX2_has 26 = .ok (.getfield 21, 3) := by decide +kernel
theorem dX2_has_29 : decode cX2_has 29 = .ok (.if_icmp .ge 7, 3) := by decide +kernel
theorem dX2_has_32 : decode cX2_has 32 = .ok (.iconst 1, 1) := by decide +kernel
theorem dX2_has_33 : decode cX2_has 33 = .ok (.goto 4, 3) := by decide +kernel
theorem dX2_has_36 : decode cX2_has 36 = .ok (.iconst 0, 1) := by decide +kernel
theorem dX2_has_37 : decode cX2_has 37 = .ok (.ireturn, 1) := by decide +kernel
set_option maxHeartbeats 4000000 in
set_option maxRecDepth 100000 in
theorem m_X2_has (l : Launch) {Z : pZ} (S : pSh Z) {h : pH} (I : Iv Z h) (o : Nat) (ho : pIs Z o 2) (x : Int32) (y : Int32)  : pMet l yX2_has cX2_has 3 (some .boolean) 0 0 0 0 Z h [.ref (zB Z + o), .int x, .int y] (pQi Z (fun r Z1 h1 => Z = Z1 ∧ Iv Z h1 ∧ agrD [] h h1 ∧ (r.toInt = 0 ∨ r.toInt = 1))) := by
  refine pOfW (lv := [(0, .ref (zB Z + o)), (1, .int x), (2, .int y)]) (by decide) (Nat.le_of_ble_eq_true rfl) rfl ?_
  intro p e s m below meth c ls M hr hlk hnm V hl
  have hx := M.1.1
  have hb := M.1.2.1
  have A : agrD [] h h := agrD.rf
  have J_37 : ∀ (y37_0 : Int32) (hJ : pH) (H : Heap) (locs : List Loc) (ls : Array Slot), pV Z hJ s.heap H locs → Iv Z hJ → agrD [] h hJ → lv_has ls 3 [(0, .ref (zB Z + o)), (1, .int x), (2, .int y)] → (0 ≤ y37_0.toInt ∧ y37_0.toInt ≤ 1) → W p l e (pRm 0 0 0 0) s m ([.ref (zB Z + o), .int x, .int y] : List Value).toArray below meth c H locs 0 0 (MQ below (pQi Z (fun r Z1 h1 => Z = Z1 ∧ Iv Z h1 ∧ agrD [] h h1 ∧ (r.toInt = 0 ∨ r.toInt = 1))) ([.ref (zB Z + o), .int x, .int y] : List Value).toArray s 0 0 (pA (zB Z))) (F0 m 37 ls [.int y37_0]) := by
    intro y37_0 hJ H locs ls V I A hl gs_37_0
    exact pe_i M V rfl rfl hr hlk (pn_z (pi_z (by omega))).1 ⟨rfl, I, A.wk (by decide), by omega⟩ ⟨Nat.le_refl _, Nat.le_refl _⟩ dX2_has_37
  have J_36 : ∀ (hJ : pH) (H : Heap) (locs : List Loc) (ls : Array Slot), pV Z hJ s.heap H locs → Iv Z hJ → agrD [] h hJ → lv_has ls 3 [(0, .ref (zB Z + o)), (1, .int x), (2, .int y)] → W p l e (pRm 0 0 0 0) s m ([.ref (zB Z + o), .int x, .int y] : List Value).toArray below meth c H locs 0 0 (MQ below (pQi Z (fun r Z1 h1 => Z = Z1 ∧ Iv Z h1 ∧ agrD [] h h1 ∧ (r.toInt = 0 ∨ r.toInt = 1))) ([.ref (zB Z + o), .int x, .int y] : List Value).toArray s 0 0 (pA (zB Z))) (F0 m 36 ls []) := by
    intro hJ H locs ls V I A hl
    refine lv_iconst (v := 0) hx hb dX2_has_36 (by decide) ?_
    have k_0 : (0 : Int32).toInt = 0 := rfl
    exact J_37 (0 : Int32) _ _ _ _ V I (A.wk (by decide)) (lv_sub hl [0, 1, 2] rfl) (by omega) 
  refine lv_aload_n hx hb dX2_has_0 rfl (lv_at hl 0 rfl) ?_
  refine pg_i M V 2 0 ho pC2 fk2_0 lkF_X2_9 dX2_has_1 ?_
  refine lv_topi (fun v1 ev1 => ?_)
  refine lv_iload_n hx hb dX2_has_4 rfl (lv_at hl 1 rfl) ?_
  refine lv_icmp_gt (tgt := 36) hx hb dX2_has_5 (by decide) (fun c_5 => ?_) (fun c_5 => ?_)
  · skip
    have c_5 := pi_lt.mp c_5
    exact J_36 _ _ _ _ V I (A.wk (by decide)) (lv_sub hl [0, 1, 2] rfl) 
  · skip
    have c_5 := pi_lt' c_5
    refine lv_iload_n hx hb dX2_has_8 rfl (lv_at hl 1 rfl) ?_
    refine lv_aload_n hx hb dX2_has_9 rfl (lv_at hl 0 rfl) ?_
    refine pg_i M V 2 2 ho pC2 fk2_2 lkF_X2_18 dX2_has_10 ?_
    refine lv_topi (fun v2 ev2 => ?_)
    refine lv_icmp_ge (tgt := 36) hx hb dX2_has_13 (by decide) (fun c_13 => ?_) (fun c_13 => ?_)
    · skip
      have c_13 := pi_le.mp c_13
      exact J_36 _ _ _ _ V I (A.wk (by decide)) (lv_sub hl [0, 1, 2] rfl) 
    · skip
      have c_13 := pi_le' c_13
      refine lv_aload_n hx hb dX2_has_16 rfl (lv_at hl 0 rfl) ?_
      refine pg_i M V 2 1 ho pC2 fk2_1 lkF_X2_15 dX2_has_17 ?_
      refine lv_topi (fun v3 ev3 => ?_)
      refine lv_iload_n hx hb dX2_has_20 rfl (lv_at hl 2 rfl) ?_
      refine lv_icmp_gt (tgt := 36) hx hb dX2_has_21 (by decide) (fun c_21 => ?_) (fun c_21 => ?_)
      · skip
        have c_21 := pi_lt.mp c_21
        exact J_36 _ _ _ _ V I (A.wk (by decide)) (lv_sub hl [0, 1, 2] rfl) 
      · skip
        have c_21 := pi_lt' c_21
        refine lv_iload_n hx hb dX2_has_24 rfl (lv_at hl 2 rfl) ?_
        refine lv_aload_n hx hb dX2_has_25 rfl (lv_at hl 0 rfl) ?_
        refine pg_i M V 2 3 ho pC2 fk2_3 lkF_X2_21 dX2_has_26 ?_
        refine lv_topi (fun v4 ev4 => ?_)
        refine lv_icmp_ge (tgt := 36) hx hb dX2_has_29 (by decide) (fun c_29 => ?_) (fun c_29 => ?_)
        · skip
          have c_29 := pi_le.mp c_29
          exact J_36 _ _ _ _ V I (A.wk (by decide)) (lv_sub hl [0, 1, 2] rfl) 
        · skip
          have c_29 := pi_le' c_29
          refine lv_iconst (v := 1) hx hb dX2_has_32 (by decide) ?_
          refine lv_goto (tgt := 37) hx hb dX2_has_33 (by decide) ?_
          have k_1 : (1 : Int32).toInt = 1 := rfl
          exact J_37 (1 : Int32) _ _ _ _ V I (A.wk (by decide)) (lv_sub hl [0, 1, 2] rfl) (by omega) 
theorem dX2_meets_0 : decode cX2_meets 0 = .ok (.aload_n 0, 1) := by decide +kernel
theorem dX2_meets_1 : decode cX2_meets 1 = .ok (.getfield 9, 3) := by decide +kernel
theorem dX2_meets_4 : decode cX2_meets 4 = .ok (.aload_n 1, 1) := by decide +kernel
theorem dX2_meets_5 : decode cX2_meets 5 = .ok (.getfield 9, 3) := by decide +kernel
theorem dX2_meets_8 : decode cX2_meets 8 = .ok (.invokestatic 28, 3) := by decide +kernel
theorem dX2_meets_11 : decode cX2_meets 11 = .ok (.aload_n 0, 1) := by decide +kernel
theorem dX2_meets_12 : decode cX2_meets 12 = .ok (.getfield 18, 3) := by decide +kernel
theorem dX2_meets_15 : decode cX2_meets 15 = .ok (.aload_n 1, 1) := by decide +kernel
theorem dX2_meets_16 : decode cX2_meets 16 = .ok (.getfield 18, 3) := by decide +kernel
theorem dX2_meets_19 : decode cX2_meets 19 = .ok (.invokestatic 34, 3) := by decide +kernel
theorem dX2_meets_22 : decode cX2_meets 22 = .ok (.if_icmp .ge 32, 3) := by decide +kernel
theorem dX2_meets_25 : decode cX2_meets 25 = .ok (.aload_n 0, 1) := by decide +kernel
theorem dX2_meets_26 : decode cX2_meets 26 = .ok (.getfield 15, 3) := by decide +kernel
theorem dX2_meets_29 : decode cX2_meets 29 = .ok (.aload_n 1, 1) := by decide +kernel
theorem dX2_meets_30 : decode cX2_meets 30 = .ok (.getfield 15, 3) := by decide +kernel
theorem dX2_meets_33 : decode cX2_meets 33 = .ok (.invokestatic 28, 3) := by decide +kernel
theorem dX2_meets_36 : decode cX2_meets 36 = .ok (.aload_n 0, 1) := by decide +kernel
theorem dX2_meets_37 : decode cX2_meets 37 = .ok (.getfield 21, 3) := by decide +kernel
theorem dX2_meets_40 : decode cX2_meets 40 = .ok (.aload_n 1, 1) := by decide +kernel
theorem dX2_meets_41 : decode cX2_meets 41 = .ok (.getfield 21, 3) := by decide +kernel
theorem dX2_meets_44 : decode cX2_meets 44 = .ok (.invokestatic 34, 3) := by decide +kernel
theorem dX2_meets_47 : decode cX2_meets 47 = .ok (.if_icmp .ge 7, 3) := by decide +kernel
theorem dX2_meets_50 : decode cX2_meets 50 = .ok (.iconst 1, 1) := by decide +kernel
theorem dX2_meets_51 : decode cX2_meets 51 = .ok (.goto 4, 3) := by decide +kernel
theorem dX2_meets_54 : decode cX2_meets 54 = .ok (.iconst 0, 1) := by decide +kernel
theorem dX2_meets_55 : decode cX2_meets 55 = .ok (.ireturn, 1) := by decide +kernel
set_option maxHeartbeats 4000000 in
set_option maxRecDepth 100000 in
theorem m_X2_meets (l : Launch) {Z : pZ} (S : pSh Z) {h : pH} (I : Iv Z h) (o : Nat) (ho : pIs Z o 2) (o2 : Nat) (ho2 : pIs Z o2 2)  : pMet l yX2_meets cX2_meets 2 (some .boolean) 1 0 0 21 Z h [.ref (zB Z + o), .ref (zB Z + o2)] (pQi Z (fun r Z1 h1 => Z = Z1 ∧ Iv Z h1 ∧ agrD [] h h1 ∧ (r.toInt = 0 ∨ r.toInt = 1))) := by
  refine pOfW (lv := [(0, .ref (zB Z + o)), (1, .ref (zB Z + o2))]) (by decide) (Nat.le_of_ble_eq_true rfl) rfl ?_
  intro p e s m below meth c ls M hr hlk hnm V hl
  have hx := M.1.1
  have hb := M.1.2.1
  have A : agrD [] h h := agrD.rf
  have J_55 : ∀ (y55_0 : Int32) (hJ : pH) (H : Heap) (locs : List Loc) (ls : Array Slot), pV Z hJ s.heap H locs → Iv Z hJ → agrD [] h hJ → lv_has ls 2 [(0, .ref (zB Z + o)), (1, .ref (zB Z + o2))] → (0 ≤ y55_0.toInt ∧ y55_0.toInt ≤ 1) → W p l e (pRm 1 0 0 21) s m ([.ref (zB Z + o), .ref (zB Z + o2)] : List Value).toArray below meth c H locs 0 0 (MQ below (pQi Z (fun r Z1 h1 => Z = Z1 ∧ Iv Z h1 ∧ agrD [] h h1 ∧ (r.toInt = 0 ∨ r.toInt = 1))) ([.ref (zB Z + o), .ref (zB Z + o2)] : List Value).toArray s 0 0 (pA (zB Z))) (F0 m 55 ls [.int y55_0]) := by
    intro y55_0 hJ H locs ls V I A hl gs_55_0
    exact pe_i M V rfl rfl hr hlk (pn_z (pi_z (by omega))).1 ⟨rfl, I, A.wk (by decide), by omega⟩ ⟨Nat.le_refl _, Nat.le_refl _⟩ dX2_meets_55
  have J_54 : ∀ (hJ : pH) (H : Heap) (locs : List Loc) (ls : Array Slot), pV Z hJ s.heap H locs → Iv Z hJ → agrD [] h hJ → lv_has ls 2 [(0, .ref (zB Z + o)), (1, .ref (zB Z + o2))] → W p l e (pRm 1 0 0 21) s m ([.ref (zB Z + o), .ref (zB Z + o2)] : List Value).toArray below meth c H locs 0 0 (MQ below (pQi Z (fun r Z1 h1 => Z = Z1 ∧ Iv Z h1 ∧ agrD [] h h1 ∧ (r.toInt = 0 ∨ r.toInt = 1))) ([.ref (zB Z + o), .ref (zB Z + o2)] : List Value).toArray s 0 0 (pA (zB Z))) (F0 m 54 ls []) := by
    intro hJ H locs ls V I A hl
    refine lv_iconst (v := 0) hx hb dX2_meets_54 (by decide) ?_
    have k_0 : (0 : Int32).toInt = 0 := rfl
    exact J_55 (0 : Int32) _ _ _ _ V I (A.wk (by decide)) (lv_sub hl [0, 1] rfl) (by omega) 
  refine lv_aload_n hx hb dX2_meets_0 rfl (lv_at hl 0 rfl) ?_
  refine pg_i M V 2 0 ho pC2 fk2_0 lkF_X2_9 dX2_meets_1 ?_
  refine lv_topi (fun v1 ev1 => ?_)
  refine lv_aload_n hx hb dX2_meets_4 rfl (lv_at hl 1 rfl) ?_
  refine pg_i M V 2 0 ho2 pC2 fk2_0 lkF_X2_9 dX2_meets_5 ?_
  refine lv_topi (fun v2 ev2 => ?_)
  refine pm_max M hl.1 lkJ_X2_28 ⟨Nat.le_of_ble_eq_true rfl, Nat.le_of_ble_eq_true rfl⟩ ⟨Nat.zero_le _, Nat.zero_le _⟩ dX2_meets_8 (fun r3 fr3 => ?_)
  refine lv_aload_n hx hb dX2_meets_11 rfl (lv_at hl 0 rfl) ?_
  refine pg_i M V 2 2 ho pC2 fk2_2 lkF_X2_18 dX2_meets_12 ?_
  refine lv_topi (fun v4 ev4 => ?_)
  refine lv_aload_n hx hb dX2_meets_15 rfl (lv_at hl 1 rfl) ?_
  refine pg_i M V 2 2 ho2 pC2 fk2_2 lkF_X2_18 dX2_meets_16 ?_
  refine lv_topi (fun v5 ev5 => ?_)
  refine pm_min M hl.1 lkJ_X2_34 ⟨Nat.le_of_ble_eq_true rfl, Nat.le_of_ble_eq_true rfl⟩ ⟨Nat.zero_le _, Nat.zero_le _⟩ dX2_meets_19 (fun r6 fr6 => ?_)
  refine lv_icmp_ge (tgt := 54) hx hb dX2_meets_22 (by decide) (fun c_22 => ?_) (fun c_22 => ?_)
  · skip
    have c_22 := pi_le.mp c_22
    exact J_54 _ _ _ _ V I (A.wk (by decide)) (lv_sub hl [0, 1] rfl) 
  · skip
    have c_22 := pi_le' c_22
    refine lv_aload_n hx hb dX2_meets_25 rfl (lv_at hl 0 rfl) ?_
    refine pg_i M V 2 1 ho pC2 fk2_1 lkF_X2_15 dX2_meets_26 ?_
    refine lv_topi (fun v7 ev7 => ?_)
    refine lv_aload_n hx hb dX2_meets_29 rfl (lv_at hl 1 rfl) ?_
    refine pg_i M V 2 1 ho2 pC2 fk2_1 lkF_X2_15 dX2_meets_30 ?_
    refine lv_topi (fun v8 ev8 => ?_)
    refine pm_max M hl.1 lkJ_X2_28 ⟨Nat.le_of_ble_eq_true rfl, Nat.le_of_ble_eq_true rfl⟩ ⟨Nat.zero_le _, Nat.zero_le _⟩ dX2_meets_33 (fun r9 fr9 => ?_)
    refine lv_aload_n hx hb dX2_meets_36 rfl (lv_at hl 0 rfl) ?_
    refine pg_i M V 2 3 ho pC2 fk2_3 lkF_X2_21 dX2_meets_37 ?_
    refine lv_topi (fun v10 ev10 => ?_)
    refine lv_aload_n hx hb dX2_meets_40 rfl (lv_at hl 1 rfl) ?_
    refine pg_i M V 2 3 ho2 pC2 fk2_3 lkF_X2_21 dX2_meets_41 ?_
    refine lv_topi (fun v11 ev11 => ?_)
    refine pm_min M hl.1 lkJ_X2_34 ⟨Nat.le_of_ble_eq_true rfl, Nat.le_of_ble_eq_true rfl⟩ ⟨Nat.zero_le _, Nat.zero_le _⟩ dX2_meets_44 (fun r12 fr12 => ?_)
    refine lv_icmp_ge (tgt := 54) hx hb dX2_meets_47 (by decide) (fun c_47 => ?_) (fun c_47 => ?_)
    · skip
      have c_47 := pi_le.mp c_47
      exact J_54 _ _ _ _ V I (A.wk (by decide)) (lv_sub hl [0, 1] rfl) 
    · skip
      have c_47 := pi_le' c_47
      refine lv_iconst (v := 1) hx hb dX2_meets_50 (by decide) ?_
      refine lv_goto (tgt := 55) hx hb dX2_meets_51 (by decide) ?_
      have k_1 : (1 : Int32).toInt = 1 := rfl
      exact J_55 (1 : Int32) _ _ _ _ V I (A.wk (by decide)) (lv_sub hl [0, 1] rfl) (by omega) 
theorem dX2_setMeeting_0 : decode cX2_setMeeting 0 = .ok (.aload_n 0, 1) := by decide +kernel
theorem dX2_setMeeting_1 : decode cX2_setMeeting 1 = .ok (.aload_n 1, 1) := by decide +kernel
theorem dX2_setMeeting_2 : decode cX2_setMeeting 2 = .ok (.getfield 9, 3) := by decide +kernel
theorem dX2_setMeeting_5 : decode cX2_setMeeting 5 = .ok (.aload_n 2, 1) := by decide +kernel
theorem dX2_setMeeting_6 : decode cX2_setMeeting 6 = .ok (.getfield 9, 3) := by decide +kernel
theorem dX2_setMeeting_9 : decode cX2_setMeeting 9 = .ok (.invokestatic 28, 3) := by decide +kernel
theorem dX2_setMeeting_12 : decode cX2_setMeeting 12 = .ok (.aload_n 1, 1) := by decide +kernel
theorem dX2_setMeeting_13 : decode cX2_setMeeting 13 = .ok (.getfield 15, 3) := by decide +kernel
theorem dX2_setMeeting_16 : decode cX2_setMeeting 16 = .ok (.aload_n 2, 1) := by decide +kernel
theorem dX2_setMeeting_17 : decode cX2_setMeeting 17 = .ok (.getfield 15, 3) := by decide +kernel
theorem dX2_setMeeting_20 : decode cX2_setMeeting 20 = .ok (.invokestatic 28, 3) := by decide +kernel
theorem dX2_setMeeting_23 : decode cX2_setMeeting 23 = .ok (.aload_n 1, 1) := by decide +kernel
theorem dX2_setMeeting_24 : decode cX2_setMeeting 24 = .ok (.getfield 18, 3) := by decide +kernel
theorem dX2_setMeeting_27 : decode cX2_setMeeting 27 = .ok (.aload_n 2, 1) := by decide +kernel
theorem dX2_setMeeting_28 : decode cX2_setMeeting 28 = .ok (.getfield 18, 3) := by decide +kernel
theorem dX2_setMeeting_31 : decode cX2_setMeeting 31 = .ok (.invokestatic 34, 3) := by decide +kernel
theorem dX2_setMeeting_34 : decode cX2_setMeeting 34 = .ok (.aload_n 1, 1) := by decide +kernel
theorem dX2_setMeeting_35 : decode cX2_setMeeting 35 = .ok (.getfield 21, 3) := by decide +kernel
theorem dX2_setMeeting_38 : decode cX2_setMeeting 38 = .ok (.aload_n 2, 1) := by decide +kernel
theorem dX2_setMeeting_39 : decode cX2_setMeeting 39 = .ok (.getfield 21, 3) := by decide +kernel
theorem dX2_setMeeting_42 : decode cX2_setMeeting 42 = .ok (.invokestatic 34, 3) := by decide +kernel
theorem dX2_setMeeting_45 : decode cX2_setMeeting 45 = .ok (.invokevirtual 24, 3) := by decide +kernel
theorem dX2_setMeeting_48 : decode cX2_setMeeting 48 = .ok (.return_, 1) := by decide +kernel
set_option maxHeartbeats 4000000 in
set_option maxRecDepth 100000 in
theorem m_X2_setMeeting (l : Launch) {Z : pZ} (S : pSh Z) {h : pH} (I : Iv Z h) (o : Nat) (ho : pIs Z o 2) (o2 : Nat) (ho2 : pIs Z o2 2) (o3 : Nat) (ho3 : pIs Z o3 2)  : pMet l yX2_setMeeting cX2_setMeeting 3 none 1 0 0 24 Z h [.ref (zB Z + o), .ref (zB Z + o2), .ref (zB Z + o3)] (pQv Z (fun Z1 h1 => Z = Z1 ∧ Iv Z h1 ∧ agrD [] h h1)) := by
  refine pOfW (lv := [(0, .ref (zB Z + o)), (1, .ref (zB Z + o2)), (2, .ref (zB Z + o3))]) (by decide) (Nat.le_of_ble_eq_true rfl) rfl ?_
  intro p e s m below meth c ls M hr hlk hnm V hl
  have hx := M.1.1
  have hb := M.1.2.1
  have A : agrD [] h h := agrD.rf
  refine lv_aload_n hx hb dX2_setMeeting_0 rfl (lv_at hl 0 rfl) ?_
  refine lv_aload_n hx hb dX2_setMeeting_1 rfl (lv_at hl 1 rfl) ?_
  refine pg_i M V 2 0 ho2 pC2 fk2_0 lkF_X2_9 dX2_setMeeting_2 ?_
  refine lv_topi (fun v1 ev1 => ?_)
  refine lv_aload_n hx hb dX2_setMeeting_5 rfl (lv_at hl 2 rfl) ?_
  refine pg_i M V 2 0 ho3 pC2 fk2_0 lkF_X2_9 dX2_setMeeting_6 ?_
  refine lv_topi (fun v2 ev2 => ?_)
  refine pm_max M hl.1 lkJ_X2_28 ⟨Nat.le_of_ble_eq_true rfl, Nat.le_of_ble_eq_true rfl⟩ ⟨Nat.zero_le _, Nat.zero_le _⟩ dX2_setMeeting_9 (fun r3 fr3 => ?_)
  refine lv_aload_n hx hb dX2_setMeeting_12 rfl (lv_at hl 1 rfl) ?_
  refine pg_i M V 2 1 ho2 pC2 fk2_1 lkF_X2_15 dX2_setMeeting_13 ?_
  refine lv_topi (fun v4 ev4 => ?_)
  refine lv_aload_n hx hb dX2_setMeeting_16 rfl (lv_at hl 2 rfl) ?_
  refine pg_i M V 2 1 ho3 pC2 fk2_1 lkF_X2_15 dX2_setMeeting_17 ?_
  refine lv_topi (fun v5 ev5 => ?_)
  refine pm_max M hl.1 lkJ_X2_28 ⟨Nat.le_of_ble_eq_true rfl, Nat.le_of_ble_eq_true rfl⟩ ⟨Nat.zero_le _, Nat.zero_le _⟩ dX2_setMeeting_20 (fun r6 fr6 => ?_)
  refine lv_aload_n hx hb dX2_setMeeting_23 rfl (lv_at hl 1 rfl) ?_
  refine pg_i M V 2 2 ho2 pC2 fk2_2 lkF_X2_18 dX2_setMeeting_24 ?_
  refine lv_topi (fun v7 ev7 => ?_)
  refine lv_aload_n hx hb dX2_setMeeting_27 rfl (lv_at hl 2 rfl) ?_
  refine pg_i M V 2 2 ho3 pC2 fk2_2 lkF_X2_18 dX2_setMeeting_28 ?_
  refine lv_topi (fun v8 ev8 => ?_)
  refine pm_min M hl.1 lkJ_X2_34 ⟨Nat.le_of_ble_eq_true rfl, Nat.le_of_ble_eq_true rfl⟩ ⟨Nat.zero_le _, Nat.zero_le _⟩ dX2_setMeeting_31 (fun r9 fr9 => ?_)
  refine lv_aload_n hx hb dX2_setMeeting_34 rfl (lv_at hl 1 rfl) ?_
  refine pg_i M V 2 3 ho2 pC2 fk2_3 lkF_X2_21 dX2_setMeeting_35 ?_
  refine lv_topi (fun v10 ev10 => ?_)
  refine lv_aload_n hx hb dX2_setMeeting_38 rfl (lv_at hl 2 rfl) ?_
  refine pg_i M V 2 3 ho3 pC2 fk2_3 lkF_X2_21 dX2_setMeeting_39 ?_
  refine lv_topi (fun v11 ev11 => ?_)
  refine pm_min M hl.1 lkJ_X2_34 ⟨Nat.le_of_ble_eq_true rfl, Nat.le_of_ble_eq_true rfl⟩ ⟨Nat.zero_le _, Nat.zero_le _⟩ dX2_setMeeting_42 (fun r12 fr12 => ?_)
  refine pk_v (pr_V M V (m_X2_set l S I o ho r3 r6 r9 r12 ) km_X2_set ho pC2 lkM_X2_24 rfl hl.1 rfl (Nat.le_of_ble_eq_true rfl) ⟨Nat.le_of_ble_eq_true rfl, Nat.le_of_ble_eq_true rfl⟩ ⟨Nat.le_of_ble_eq_true rfl, Nat.le_of_ble_eq_true rfl⟩ dX2_setMeeting_45) V (fun Zr13 hr13 H locs pr13 _ _ V => ?_)
  obtain ⟨rfl, I, pA_r13⟩ := pr13
  have A := A.tr pA_r13 (by decide)
  exact pe_v M V rfl rfl hr hlk ⟨rfl, I, A.wk (by decide)⟩ ⟨Nat.le_refl _, Nat.le_refl _⟩ dX2_setMeeting_48
theorem dX2_cutToScreen_0 : decode cX2_cutToScreen 0 = .ok (.aload_n 0, 1) := by decide +kernel
theorem dX2_cutToScreen_1 : decode cX2_cutToScreen 1 = .ok (.aload_n 0, 1) := by decide +kernel
theorem dX2_cutToScreen_2 : decode cX2_cutToScreen 2 = .ok (.getfield 9, 3) := by decide +kernel
theorem dX2_cutToScreen_5 : decode cX2_cutToScreen 5 = .ok (.iconst 0, 1) := by decide +kernel
theorem dX2_cutToScreen_6 : decode cX2_cutToScreen 6 = .ok (.invokestatic 28, 3) := by decide +kernel
theorem dX2_cutToScreen_9 : decode cX2_cutToScreen 9 = .ok (.aload_n 0, 1) := by decide +kernel
theorem dX2_cutToScreen_10 : decode cX2_cutToScreen 10 = .ok (.getfield 15, 3) := by decide +kernel
theorem dX2_cutToScreen_13 : decode cX2_cutToScreen 13 = .ok (.iconst 0, 1) := by decide +kernel
theorem dX2_cutToScreen_14 : decode cX2_cutToScreen 14 = .ok (.invokestatic 28, 3) := by decide +kernel
theorem dX2_cutToScreen_17 : decode cX2_cutToScreen 17 = .ok (.aload_n 0, 1) := by decide +kernel
theorem dX2_cutToScreen_18 : decode cX2_cutToScreen 18 = .ok (.getfield 18, 3) := by decide +kernel
theorem dX2_cutToScreen_21 : decode cX2_cutToScreen 21 = .ok (.sipush 1000, 3) := by decide +kernel
theorem dX2_cutToScreen_24 : decode cX2_cutToScreen 24 = .ok (.invokestatic 34, 3) := by decide +kernel
theorem dX2_cutToScreen_27 : decode cX2_cutToScreen 27 = .ok (.aload_n 0, 1) := by decide +kernel
theorem dX2_cutToScreen_28 : decode cX2_cutToScreen 28 = .ok (.getfield 21, 3) := by decide +kernel
theorem dX2_cutToScreen_31 : decode cX2_cutToScreen 31 = .ok (.sipush 1000, 3) := by decide +kernel
theorem dX2_cutToScreen_34 : decode cX2_cutToScreen 34 = .ok (.invokestatic 34, 3) := by decide +kernel
theorem dX2_cutToScreen_37 : decode cX2_cutToScreen 37 = .ok (.invokevirtual 24, 3) := by decide +kernel
theorem dX2_cutToScreen_40 : decode cX2_cutToScreen 40 = .ok (.return_, 1) := by decide +kernel
set_option maxHeartbeats 4000000 in
set_option maxRecDepth 100000 in
theorem m_X2_cutToScreen (l : Launch) {Z : pZ} (S : pSh Z) {h : pH} (I : Iv Z h) (o : Nat) (ho : pIs Z o 2)  : pMet l yX2_cutToScreen cX2_cutToScreen 1 none 1 0 0 24 Z h [.ref (zB Z + o)] (pQv Z (fun Z1 h1 => Z = Z1 ∧ Iv Z h1 ∧ agrD [] h h1)) := by
  refine pOfW (lv := [(0, .ref (zB Z + o))]) (by decide) (Nat.le_of_ble_eq_true rfl) rfl ?_
  intro p e s m below meth c ls M hr hlk hnm V hl
  have hx := M.1.1
  have hb := M.1.2.1
  have A : agrD [] h h := agrD.rf
  refine lv_aload_n hx hb dX2_cutToScreen_0 rfl (lv_at hl 0 rfl) ?_
  refine lv_aload_n hx hb dX2_cutToScreen_1 rfl (lv_at hl 0 rfl) ?_
  refine pg_i M V 2 0 ho pC2 fk2_0 lkF_X2_9 dX2_cutToScreen_2 ?_
  refine lv_topi (fun v1 ev1 => ?_)
  refine lv_iconst (v := 0) hx hb dX2_cutToScreen_5 (by decide) ?_
  have k_0 : (0 : Int32).toInt = 0 := rfl
  refine pm_max M hl.1 lkJ_X2_28 ⟨Nat.le_of_ble_eq_true rfl, Nat.le_of_ble_eq_true rfl⟩ ⟨Nat.zero_le _, Nat.zero_le _⟩ dX2_cutToScreen_6 (fun r2 fr2 => ?_)
  refine lv_aload_n hx hb dX2_cutToScreen_9 rfl (lv_at hl 0 rfl) ?_
  refine pg_i M V 2 1 ho pC2 fk2_1 lkF_X2_15 dX2_cutToScreen_10 ?_
  refine lv_topi (fun v3 ev3 => ?_)
  refine lv_iconst (v := 0) hx hb dX2_cutToScreen_13 (by decide) ?_
  refine pm_max M hl.1 lkJ_X2_28 ⟨Nat.le_of_ble_eq_true rfl, Nat.le_of_ble_eq_true rfl⟩ ⟨Nat.zero_le _, Nat.zero_le _⟩ dX2_cutToScreen_14 (fun r4 fr4 => ?_)
  refine lv_aload_n hx hb dX2_cutToScreen_17 rfl (lv_at hl 0 rfl) ?_
  refine pg_i M V 2 2 ho pC2 fk2_2 lkF_X2_18 dX2_cutToScreen_18 ?_
  refine lv_topi (fun v5 ev5 => ?_)
  refine lv_sipush (v := 1000) hx hb dX2_cutToScreen_21 (by decide) ?_
  have k_1000 : (1000 : Int32).toInt = 1000 := rfl
  refine pm_min M hl.1 lkJ_X2_34 ⟨Nat.le_of_ble_eq_true rfl, Nat.le_of_ble_eq_true rfl⟩ ⟨Nat.zero_le _, Nat.zero_le _⟩ dX2_cutToScreen_24 (fun r6 fr6 => ?_)
  refine lv_aload_n hx hb dX2_cutToScreen_27 rfl (lv_at hl 0 rfl) ?_
  refine pg_i M V 2 3 ho pC2 fk2_3 lkF_X2_21 dX2_cutToScreen_28 ?_
  refine lv_topi (fun v7 ev7 => ?_)
  refine lv_sipush (v := 1000) hx hb dX2_cutToScreen_31 (by decide) ?_
  refine pm_min M hl.1 lkJ_X2_34 ⟨Nat.le_of_ble_eq_true rfl, Nat.le_of_ble_eq_true rfl⟩ ⟨Nat.zero_le _, Nat.zero_le _⟩ dX2_cutToScreen_34 (fun r8 fr8 => ?_)
  refine pk_v (pr_V M V (m_X2_set l S I o ho r2 r4 r6 r8 ) km_X2_set ho pC2 lkM_X2_24 rfl hl.1 rfl (Nat.le_of_ble_eq_true rfl) ⟨Nat.le_of_ble_eq_true rfl, Nat.le_of_ble_eq_true rfl⟩ ⟨Nat.le_of_ble_eq_true rfl, Nat.le_of_ble_eq_true rfl⟩ dX2_cutToScreen_37) V (fun Zr9 hr9 H locs pr9 _ _ V => ?_)
  obtain ⟨rfl, I, pA_r9⟩ := pr9
  have A := A.tr pA_r9 (by decide)
  exact pe_v M V rfl rfl hr hlk ⟨rfl, I, A.wk (by decide)⟩ ⟨Nat.le_refl _, Nat.le_refl _⟩ dX2_cutToScreen_40
theorem dX4_add_0 : decode cX4_add 0 = .ok (.aload_n 0, 1) := by decide +kernel
theorem dX4_add_1 : decode cX4_add 1 = .ok (.getfield 19, 3) := by decide +kernel
theorem dX4_add_4 : decode cX4_add 4 = .ok (.bipush 64, 2) := by decide +kernel
theorem dX4_add_6 : decode cX4_add 6 = .ok (.if_icmp .lt 5, 3) := by decide +kernel
theorem dX4_add_9 : decode cX4_add 9 = .ok (.iconst 0, 1) := by decide +kernel
theorem dX4_add_10 : decode cX4_add 10 = .ok (.ireturn, 1) := by decide +kernel
theorem dX4_add_11 : decode cX4_add 11 = .ok (.aload_n 0, 1) := by decide +kernel
theorem dX4_add_12 : decode cX4_add 12 = .ok (.getfield 23, 3) := by decide +kernel
theorem dX4_add_15 : decode cX4_add 15 = .ok (.aload_n 0, 1) := by decide +kernel
theorem dX4_add_16 : decode cX4_add 16 = .ok (.getfield 19, 3) := by decide +kernel
theorem dX4_add_19 : decode cX4_add 19 = .ok (.iadd, 1) := by decide +kernel
theorem dX4_add_20 : decode cX4_add 20 = .ok (.bipush 63, 2) := by decide +kernel
theorem dX4_add_22 : decode cX4_add 22 = .ok (.iand, 1) := by decide +kernel
theorem dX4_add_23 : decode cX4_add 23 = .ok (.istore 4, 2) := by decide +kernel
theorem dX4_add_25 : decode cX4_add 25 = .ok (.aload_n 0, 1) := by decide +kernel
theorem dX4_add_26 : decode cX4_add 26 = .ok (.getfield 9, 3) := by decide +kernel
theorem dX4_add_29 : decode cX4_add 29 = .ok (.iload 4, 2) := by decide +kernel
theorem dX4_add_31 : decode cX4_add 31 = .ok (.iload_n 1, 1) := by decide +kernel
theorem dX4_add_32 : decode cX4_add 32 = .ok (.iastore, 1) := by decide +kernel
theorem dX4_add_33 : decode cX4_add 33 = .ok (.aload_n 0, 1) := by decide +kernel
theorem dX4_add_34 : decode cX4_add 34 = .ok (.getfield 13, 3) := by decide +kernel
theorem dX4_add_37 : decode cX4_add 37 = .ok (.iload 4, 2) := by decide +kernel
theorem dX4_add_39 : decode cX4_add 39 = .ok (.iload_n 2, 1) := by decide +kernel
theorem dX4_add_40 : decode cX4_add 40 = .ok (.iastore, 1) := by decide +kernel
theorem dX4_add_41 : decode cX4_add 41 = .ok (.aload_n 0, 1) := by decide +kernel
theorem dX4_add_42 : decode cX4_add 42 = .ok (.getfield 16, 3) := by decide +kernel
theorem dX4_add_45 : decode cX4_add 45 = .ok (.iload 4, 2) := by decide +kernel
theorem dX4_add_47 : decode cX4_add 47 = .ok (.iload_n 3, 1) := by decide +kernel
theorem dX4_add_48 : decode cX4_add 48 = .ok (.iastore, 1) := by decide +kernel
theorem dX4_add_49 : decode cX4_add 49 = .ok (.aload_n 0, 1) := by decide +kernel
theorem dX4_add_50 : decode cX4_add 50 = .ok (.dup, 1) := by decide +kernel
theorem dX4_add_51 : decode cX4_add 51 = .ok (.getfield 19, 3) := by decide +kernel
theorem dX4_add_54 : decode cX4_add 54 = .ok (.iconst 1, 1) := by decide +kernel
theorem dX4_add_55 : decode cX4_add 55 = .ok (.iadd, 1) := by decide +kernel
theorem dX4_add_56 : decode cX4_add 56 = .ok (.putfield 19, 3) := by decide +kernel
theorem dX4_add_59 : decode cX4_add 59 = .ok (.iconst 1, 1) := by decide +kernel
theorem dX4_add_60 : decode cX4_add 60 = .ok (.ireturn, 1) := by decide +kernel
set_option maxHeartbeats 4000000 in
set_option maxRecDepth 100000 in
theorem m_X4_add (l : Launch) {Z : pZ} (S : pSh Z) {h : pH} (I : Iv Z h) (kind : Int32) (first : Int32) (second : Int32)  : pMet l yX4_add cX4_add 5 (some .boolean) 0 0 0 0 Z h [.ref (zB Z + 2), .int kind, .int first, .int second] (pQi Z (fun r Z1 h1 => Z = Z1 ∧ Iv Z h1 ∧ agrD [(2, 4), (3, 1000), (4, 1000), (5, 1000)] h h1 ∧ (r.toInt = 0 ∨ r.toInt = 1) ∧ ((h 2 4).toInt ≤ 63 → r.toInt = 1) ∧ ((h1 2 4).toInt ≤ (h 2 4).toInt + 1))) := by
  refine pOfW (lv := [(0, .ref (zB Z + 2)), (1, .int kind), (2, .int first), (3, .int second)]) (by decide) (Nat.le_of_ble_eq_true rfl) rfl ?_
  intro p e s m below meth c ls M hr hlk hnm V hl
  have hx := M.1.1
  have hb := M.1.2.1
  have A : agrD [] h h := agrD.rf
  refine lv_aload_n hx hb dX4_add_0 rfl (lv_at hl 0 rfl) ?_
  refine pg_i M V 4 4 (c_is_2 S) pC4 fk4_4 lkF_X4_19 dX4_add_1 ?_
  refine lv_topi (fun v1 ev1 => ?_)
  have tv1 : 0 ≤ v1.toInt ∧ v1.toInt ≤ 64 := by rw [ev1]; exact I.get (c_is_2 S) 4
  refine lv_bipush (v := 64) hx hb dX4_add_4 (by decide) ?_
  refine lv_icmp_lt (tgt := 11) hx hb dX4_add_6 (by decide) (fun c_6 => ?_) (fun c_6 => ?_)
  · skip
    have k_64 : (64 : Int32).toInt = 64 := rfl
    have c_6 := pi_lt.mp c_6
    refine lv_aload_n hx hb dX4_add_11 rfl (lv_at hl 0 rfl) ?_
    refine pg_i M V 4 3 (c_is_2 S) pC4 fk4_3 lkF_X4_23 dX4_add_12 ?_
    refine lv_topi (fun v2 ev2 => ?_)
    refine lv_aload_n hx hb dX4_add_15 rfl (lv_at hl 0 rfl) ?_
    refine pg_iv M V 4 4 (v := v1) (c_is_2 S) pC4 fk4_4 ev1.symm lkF_X4_19 dX4_add_16 ?_
    refine lv_iadd hx hb dX4_add_19 ?_
    refine lv_topi (fun v3 ev3 => ?_)
    refine lv_bipush (v := 63) hx hb dX4_add_20 (by decide) ?_
    refine lv_iand hx hb dX4_add_22 ?_
    refine lv_topi (fun v4 ev4 => ?_)
    refine lv_istore (lv' := [(4, .int v4), (0, .ref (zB Z + 2)), (1, .int kind), (2, .int first), (3, .int second)]) hx hb dX4_add_23 hl (by decide) rfl (fun ls hl => ?_)
    refine lv_aload_n hx hb dX4_add_25 rfl (lv_at hl 1 rfl) ?_
    refine pg_r M V 4 0 (c_is_2 S) pC4 fk4_0 (c_r_2_0 S) lkF_X4_9 dX4_add_26 ?_
    refine lv_iload hx hb dX4_add_29 (lv_at hl 0 rfl) ?_
    refine lv_iload_n hx hb dX4_add_31 rfl (lv_at hl 2 rfl) ?_
    have tv4 : 0 ≤ v4.toInt ∧ v4.toInt ≤ 63 := by rw [ev4]; exact pi_and63 _
    refine ps_i M V (c_is_3 S) (by rw [c_n_3 S]; exact pi_in (by omega)) dX4_add_32 (fun H locs V => ?_)
    have A := A.wk (l3 := [(3, 1000)]) (by decide)
    have A := A.upA (o := 3) (k := v4.toNatClampNeg) (v := kind) (by decide)
    have I := I.up (k := v4.toNatClampNeg) (v := kind) (c_is_3 S) (pi_full _)
    refine lv_aload_n hx hb dX4_add_33 rfl (lv_at hl 1 rfl) ?_
    refine pg_r M V 4 1 (c_is_2 S) pC4 fk4_1 (c_r_2_1 S) lkF_X4_13 dX4_add_34 ?_
    refine lv_iload hx hb dX4_add_37 (lv_at hl 0 rfl) ?_
    refine lv_iload_n hx hb dX4_add_39 rfl (lv_at hl 3 rfl) ?_
    refine ps_i M V (c_is_4 S) (by rw [c_n_4 S]; exact pi_in (by omega)) dX4_add_40 (fun H locs V => ?_)
    have A := A.wk (l3 := [(3, 1000), (4, 1000)]) (by decide)
    have A := A.upA (o := 4) (k := v4.toNatClampNeg) (v := first) (by decide)
    have I := I.up (k := v4.toNatClampNeg) (v := first) (c_is_4 S) (pi_full _)
    refine lv_aload_n hx hb dX4_add_41 rfl (lv_at hl 1 rfl) ?_
    refine pg_r M V 4 2 (c_is_2 S) pC4 fk4_2 (c_r_2_2 S) lkF_X4_16 dX4_add_42 ?_
    refine lv_iload hx hb dX4_add_45 (lv_at hl 0 rfl) ?_
    refine lv_iload_n hx hb dX4_add_47 rfl (lv_at hl 4 rfl) ?_
    refine ps_i M V (c_is_5 S) (by rw [c_n_5 S]; exact pi_in (by omega)) dX4_add_48 (fun H locs V => ?_)
    have A := A.wk (l3 := [(3, 1000), (4, 1000), (5, 1000)]) (by decide)
    have A := A.upA (o := 5) (k := v4.toNatClampNeg) (v := second) (by decide)
    have I := I.up (k := v4.toNatClampNeg) (v := second) (c_is_5 S) (pi_full _)
    refine lv_aload_n hx hb dX4_add_49 rfl (lv_at hl 1 rfl) ?_
    refine lv_dup hx hb dX4_add_50 rfl ?_
    refine pg_iv M V 4 4 (v := v1) (c_is_2 S) pC4 fk4_4 ev1.symm lkF_X4_19 dX4_add_51 ?_
    refine lv_iconst (v := 1) hx hb dX4_add_54 (by decide) ?_
    refine lv_iadd hx hb dX4_add_55 ?_
    refine lv_topi (fun v5 ev5 => ?_)
    refine pp_i M V 4 4 (c_is_2 S) pC4 fk4_4 rfl lkF_X4_19 ⟨rfl, rfl⟩ dX4_add_56 (fun H locs V => ?_)
    have A := A.wk (l3 := [(3, 1000), (4, 1000), (5, 1000), (2, 4)]) (by decide)
    have A := A.up (o := 2) (k := 4) (v := v5) (by decide)
    have k_1 : (1 : Int32).toInt = 1 := rfl
    have tv5 : v5.toInt = v1.toInt + 1 := by rw [ev5]; have z9 := pi_add (x := v1) (y := (1 : Int32)); rw [k_1] at z9; exact z9 (by omega)
    have I := I.up (k := 4) (v := v5) (c_is_2 S) (show (0 : Int) ≤ v5.toInt ∧ v5.toInt ≤ (64 : Int) by omega)
    refine lv_iconst (v := 1) hx hb dX4_add_59 (by decide) ?_
    exact pe_i M V rfl rfl hr hlk (pn_z (pi_z (by omega))).1 ⟨rfl, I, A.wk (by decide), by omega, (fun z9 => by have z8 := congrArg Int32.toInt ev1; omega), (show v5.toInt ≤ (h 2 4).toInt + 1 by have z8 := congrArg Int32.toInt ev1; omega)⟩ ⟨Nat.le_refl _, Nat.le_refl _⟩ dX4_add_60
  · skip
    have k_64 : (64 : Int32).toInt = 64 := rfl
    have c_6 := pi_lt' c_6
    refine lv_iconst (v := 0) hx hb dX4_add_9 (by decide) ?_
    have k_0 : (0 : Int32).toInt = 0 := rfl
    exact pe_i M V rfl rfl hr hlk (pn_z (pi_z (by omega))).1 ⟨rfl, I, A.wk (by decide), by omega, (fun z9 => by have z8 := congrArg Int32.toInt ev1; omega), (show (h 2 4).toInt ≤ (h 2 4).toInt + 1 by omega)⟩ ⟨Nat.le_refl _, Nat.le_refl _⟩ dX4_add_10
theorem dX4_nextKind_0 : decode cX4_nextKind 0 = .ok (.aload_n 0, 1) := by decide +kernel
theorem dX4_nextKind_1 : decode cX4_nextKind 1 = .ok (.getfield 9, 3) := by decide +kernel
theorem dX4_nextKind_4 : decode cX4_nextKind 4 = .ok (.aload_n 0, 1) := by decide +kernel
theorem dX4_nextKind_5 : decode cX4_nextKind 5 = .ok (.getfield 23, 3) := by decide +kernel
theorem dX4_nextKind_8 : decode cX4_nextKind 8 = .ok (.bipush 63, 2) := by decide +kernel
theorem dX4_nextKind_10 : decode cX4_nextKind 10 = .ok (.iand, 1) := by decide +kernel
theorem dX4_nextKind_11 : decode cX4_nextKind 11 = .ok (.iaload, 1) := by decide +kernel
theorem dX4_nextKind_12 : decode cX4_nextKind 12 = .ok (.ireturn, 1) := by decide +kernel
set_option maxHeartbeats 4000000 in
set_option maxRecDepth 100000 in
theorem m_X4_nextKind (l : Launch) {Z : pZ} (S : pSh Z) {h : pH} (I : Iv Z h)  : pMet l yX4_nextKind cX4_nextKind 1 (some .int) 0 0 0 0 Z h [.ref (zB Z + 2)] (pQi Z (fun r Z1 h1 => Z = Z1 ∧ Iv Z h1 ∧ agrD [] h h1)) := by
  refine pOfW (lv := [(0, .ref (zB Z + 2))]) (by decide) (Nat.le_of_ble_eq_true rfl) rfl ?_
  intro p e s m below meth c ls M hr hlk hnm V hl
  have hx := M.1.1
  have hb := M.1.2.1
  have A : agrD [] h h := agrD.rf
  refine lv_aload_n hx hb dX4_nextKind_0 rfl (lv_at hl 0 rfl) ?_
  refine pg_r M V 4 0 (c_is_2 S) pC4 fk4_0 (c_r_2_0 S) lkF_X4_9 dX4_nextKind_1 ?_
  refine lv_aload_n hx hb dX4_nextKind_4 rfl (lv_at hl 0 rfl) ?_
  refine pg_i M V 4 3 (c_is_2 S) pC4 fk4_3 lkF_X4_23 dX4_nextKind_5 ?_
  refine lv_topi (fun v1 ev1 => ?_)
  refine lv_bipush (v := 63) hx hb dX4_nextKind_8 (by decide) ?_
  refine lv_iand hx hb dX4_nextKind_10 ?_
  refine lv_topi (fun v2 ev2 => ?_)
  have tv2 : 0 ≤ v2.toInt ∧ v2.toInt ≤ 63 := by rw [ev2]; exact pi_and63 _
  refine pa_i M V (c_is_3 S) (by rw [c_n_3 S]; exact pi_in (by omega)) dX4_nextKind_11 ?_
  refine lv_topi (fun v3 ev3 => ?_)
  exact pe_i M V rfl rfl hr hlk rfl ⟨rfl, I, A.wk (by decide)⟩ ⟨Nat.le_refl _, Nat.le_refl _⟩ dX4_nextKind_12
theorem dX4_nextFirst_0 : decode cX4_nextFirst 0 = .ok (.aload_n 0, 1) := by decide +kernel
theorem dX4_nextFirst_1 : decode cX4_nextFirst 1 = .ok (.getfield 13, 3) := by decide +kernel
theorem dX4_nextFirst_4 : decode cX4_nextFirst 4 = .ok (.aload_n 0, 1) := by decide +kernel
theorem dX4_nextFirst_5 : decode cX4_nextFirst 5 = .ok (.getfield 23, 3) := by decide +kernel
theorem dX4_nextFirst_8 : decode cX4_nextFirst 8 = .ok (.bipush 63, 2) := by decide +kernel
theorem dX4_nextFirst_10 : decode cX4_nextFirst 10 = .ok (.iand, 1) := by decide +kernel
theorem dX4_nextFirst_11 : decode cX4_nextFirst 11 = .ok (.iaload, 1) := by decide +kernel
theorem dX4_nextFirst_12 : decode cX4_nextFirst 12 = .ok (.ireturn, 1) := by decide +kernel
set_option maxHeartbeats 4000000 in
set_option maxRecDepth 100000 in
theorem m_X4_nextFirst (l : Launch) {Z : pZ} (S : pSh Z) {h : pH} (I : Iv Z h)  : pMet l yX4_nextFirst cX4_nextFirst 1 (some .int) 0 0 0 0 Z h [.ref (zB Z + 2)] (pQi Z (fun r Z1 h1 => Z = Z1 ∧ Iv Z h1 ∧ agrD [] h h1)) := by
  refine pOfW (lv := [(0, .ref (zB Z + 2))]) (by decide) (Nat.le_of_ble_eq_true rfl) rfl ?_
  intro p e s m below meth c ls M hr hlk hnm V hl
  have hx := M.1.1
  have hb := M.1.2.1
  have A : agrD [] h h := agrD.rf
  refine lv_aload_n hx hb dX4_nextFirst_0 rfl (lv_at hl 0 rfl) ?_
  refine pg_r M V 4 1 (c_is_2 S) pC4 fk4_1 (c_r_2_1 S) lkF_X4_13 dX4_nextFirst_1 ?_
  refine lv_aload_n hx hb dX4_nextFirst_4 rfl (lv_at hl 0 rfl) ?_
  refine pg_i M V 4 3 (c_is_2 S) pC4 fk4_3 lkF_X4_23 dX4_nextFirst_5 ?_
  refine lv_topi (fun v1 ev1 => ?_)
  refine lv_bipush (v := 63) hx hb dX4_nextFirst_8 (by decide) ?_
  refine lv_iand hx hb dX4_nextFirst_10 ?_
  refine lv_topi (fun v2 ev2 => ?_)
  have tv2 : 0 ≤ v2.toInt ∧ v2.toInt ≤ 63 := by rw [ev2]; exact pi_and63 _
  refine pa_i M V (c_is_4 S) (by rw [c_n_4 S]; exact pi_in (by omega)) dX4_nextFirst_11 ?_
  refine lv_topi (fun v3 ev3 => ?_)
  exact pe_i M V rfl rfl hr hlk rfl ⟨rfl, I, A.wk (by decide)⟩ ⟨Nat.le_refl _, Nat.le_refl _⟩ dX4_nextFirst_12
theorem dX4_nextSecond_0 : decode cX4_nextSecond 0 = .ok (.aload_n 0, 1) := by decide +kernel
theorem dX4_nextSecond_1 : decode cX4_nextSecond 1 = .ok (.getfield 16, 3) := by decide +kernel
theorem dX4_nextSecond_4 : decode cX4_nextSecond 4 = .ok (.aload_n 0, 1) := by decide +kernel
theorem dX4_nextSecond_5 : decode cX4_nextSecond 5 = .ok (.getfield 23, 3) := by decide +kernel
theorem dX4_nextSecond_8 : decode cX4_nextSecond 8 = .ok (.bipush 63, 2) := by decide +kernel
theorem dX4_nextSecond_10 : decode cX4_nextSecond 10 = .ok (.iand, 1) := by decide +kernel
theorem dX4_nextSecond_11 : decode cX4_nextSecond 11 = .ok (.iaload, 1) := by decide +kernel
theorem dX4_nextSecond_12 : decode cX4_nextSecond 12 = .ok (.ireturn, 1) := by decide +kernel
set_option maxHeartbeats 4000000 in
set_option maxRecDepth 100000 in
theorem m_X4_nextSecond (l : Launch) {Z : pZ} (S : pSh Z) {h : pH} (I : Iv Z h)  : pMet l yX4_nextSecond cX4_nextSecond 1 (some .int) 0 0 0 0 Z h [.ref (zB Z + 2)] (pQi Z (fun r Z1 h1 => Z = Z1 ∧ Iv Z h1 ∧ agrD [] h h1)) := by
  refine pOfW (lv := [(0, .ref (zB Z + 2))]) (by decide) (Nat.le_of_ble_eq_true rfl) rfl ?_
  intro p e s m below meth c ls M hr hlk hnm V hl
  have hx := M.1.1
  have hb := M.1.2.1
  have A : agrD [] h h := agrD.rf
  refine lv_aload_n hx hb dX4_nextSecond_0 rfl (lv_at hl 0 rfl) ?_
  refine pg_r M V 4 2 (c_is_2 S) pC4 fk4_2 (c_r_2_2 S) lkF_X4_16 dX4_nextSecond_1 ?_
  refine lv_aload_n hx hb dX4_nextSecond_4 rfl (lv_at hl 0 rfl) ?_
  refine pg_i M V 4 3 (c_is_2 S) pC4 fk4_3 lkF_X4_23 dX4_nextSecond_5 ?_
  refine lv_topi (fun v1 ev1 => ?_)
  refine lv_bipush (v := 63) hx hb dX4_nextSecond_8 (by decide) ?_
  refine lv_iand hx hb dX4_nextSecond_10 ?_
  refine lv_topi (fun v2 ev2 => ?_)
  have tv2 : 0 ≤ v2.toInt ∧ v2.toInt ≤ 63 := by rw [ev2]; exact pi_and63 _
  refine pa_i M V (c_is_5 S) (by rw [c_n_5 S]; exact pi_in (by omega)) dX4_nextSecond_11 ?_
  refine lv_topi (fun v3 ev3 => ?_)
  exact pe_i M V rfl rfl hr hlk rfl ⟨rfl, I, A.wk (by decide)⟩ ⟨Nat.le_refl _, Nat.le_refl _⟩ dX4_nextSecond_12
theorem dX4_drop_0 : decode cX4_drop 0 = .ok (.aload_n 0, 1) := by decide +kernel
theorem dX4_drop_1 : decode cX4_drop 1 = .ok (.getfield 19, 3) := by decide +kernel
theorem dX4_drop_4 : decode cX4_drop 4 = .ok (.ifCond .le 26, 3) := by decide +kernel
theorem dX4_drop_7 : decode cX4_drop 7 = .ok (.aload_n 0, 1) := by decide +kernel
theorem dX4_drop_8 : decode cX4_drop 8 = .ok (.aload_n 0, 1) := by decide +kernel
theorem dX4_drop_9 : decode cX4_drop 9 = .ok (.getfield 23, 3) := by decide +kernel
theorem dX4_drop_12 : decode cX4_drop 12 = .ok (.iconst 1, 1) := by decide +kernel
theorem dX4_drop_13 : decode cX4_drop 13 = .ok (.iadd, 1) := by decide +kernel
theorem dX4_drop_14 : decode cX4_drop 14 = .ok (.bipush 63, 2) := by decide +kernel
theorem dX4_drop_16 : decode cX4_drop 16 = .ok (.iand, 1) := by decide +kernel
theorem dX4_drop_17 : decode cX4_drop 17 = .ok (.putfield 23, 3) := by decide +kernel
theorem dX4_drop_20 : decode cX4_drop 20 = .ok (.aload_n 0, 1) := by decide +kernel
theorem dX4_drop_21 : decode cX4_drop 21 = .ok (.dup, 1) := by decide +kernel
theorem dX4_drop_22 : decode cX4_drop 22 = .ok (.getfield 19, 3) := by decide +kernel
theorem dX4_drop_25 : decode cX4_drop 25 = .ok (.iconst 1, 1) := by decide +kernel
theorem dX4_drop_26 : decode cX4_drop 26 = .ok (.isub, 1) := by decide +kernel
theorem dX4_drop_27 : decode cX4_drop 27 = .ok (.putfield 19, 3) := by decide +kernel
theorem dX4_drop_30 : decode cX4_drop 30 = .ok (.return_, 1) := by decide +kernel
set_option maxHeartbeats 4000000 in
set_option maxRecDepth 100000 in
theorem m_X4_drop (l : Launch) {Z : pZ} (S : pSh Z) {h : pH} (I : Iv Z h)  : pMet l yX4_drop cX4_drop 1 none 0 0 0 0 Z h [.ref (zB Z + 2)] (pQv Z (fun Z1 h1 => Z = Z1 ∧ Iv Z h1 ∧ agrD [(2, 3), (2, 4)] h h1 ∧ ((h1 2 4).toInt ≤ (h 2 4).toInt + 0))) := by
  refine pOfW (lv := [(0, .ref (zB Z + 2))]) (by decide) (Nat.le_of_ble_eq_true rfl) rfl ?_
  intro p e s m below meth c ls M hr hlk hnm V hl
  have hx := M.1.1
  have hb := M.1.2.1
  have A : agrD [] h h := agrD.rf
  refine lv_aload_n hx hb dX4_drop_0 rfl (lv_at hl 0 rfl) ?_
  refine pg_i M V 4 4 (c_is_2 S) pC4 fk4_4 lkF_X4_19 dX4_drop_1 ?_
  refine lv_topi (fun v1 ev1 => ?_)
  have tv1 : 0 ≤ v1.toInt ∧ v1.toInt ≤ 64 := by rw [ev1]; exact I.get (c_is_2 S) 4
  refine lv_if_le (tgt := 30) hx hb dX4_drop_4 (by decide) (fun c_4 => ?_) (fun c_4 => ?_)
  · skip
    have k_0 : (0 : Int32).toInt = 0 := rfl
    have c_4 := pi_le.mp c_4
    exact pe_v M V rfl rfl hr hlk ⟨rfl, I, A.wk (by decide), (show (h 2 4).toInt ≤ (h 2 4).toInt + 0 by omega)⟩ ⟨Nat.le_refl _, Nat.le_refl _⟩ dX4_drop_30
  · skip
    have k_0 : (0 : Int32).toInt = 0 := rfl
    have c_4 := pi_le' c_4
    refine lv_aload_n hx hb dX4_drop_7 rfl (lv_at hl 0 rfl) ?_
    refine lv_aload_n hx hb dX4_drop_8 rfl (lv_at hl 0 rfl) ?_
    refine pg_i M V 4 3 (c_is_2 S) pC4 fk4_3 lkF_X4_23 dX4_drop_9 ?_
    refine lv_topi (fun v2 ev2 => ?_)
    refine lv_iconst (v := 1) hx hb dX4_drop_12 (by decide) ?_
    refine lv_iadd hx hb dX4_drop_13 ?_
    refine lv_topi (fun v3 ev3 => ?_)
    refine lv_bipush (v := 63) hx hb dX4_drop_14 (by decide) ?_
    refine lv_iand hx hb dX4_drop_16 ?_
    refine lv_topi (fun v4 ev4 => ?_)
    refine pp_i M V 4 3 (c_is_2 S) pC4 fk4_3 rfl lkF_X4_23 ⟨rfl, rfl⟩ dX4_drop_17 (fun H locs V => ?_)
    have A := A.wk (l3 := [(2, 3)]) (by decide)
    have A := A.up (o := 2) (k := 3) (v := v4) (by decide)
    have I := I.up (k := 3) (v := v4) (c_is_2 S) (pi_full _)
    refine lv_aload_n hx hb dX4_drop_20 rfl (lv_at hl 0 rfl) ?_
    refine lv_dup hx hb dX4_drop_21 rfl ?_
    refine pg_iv M V 4 4 (v := v1) (c_is_2 S) pC4 fk4_4 ev1.symm lkF_X4_19 dX4_drop_22 ?_
    refine lv_iconst (v := 1) hx hb dX4_drop_25 (by decide) ?_
    refine lv_isub hx hb dX4_drop_26 ?_
    refine lv_topi (fun v5 ev5 => ?_)
    refine pp_i M V 4 4 (c_is_2 S) pC4 fk4_4 rfl lkF_X4_19 ⟨rfl, rfl⟩ dX4_drop_27 (fun H locs V => ?_)
    have A := A.wk (l3 := [(2, 3), (2, 4)]) (by decide)
    have A := A.up (o := 2) (k := 4) (v := v5) (by decide)
    have k_1 : (1 : Int32).toInt = 1 := rfl
    have tv5 : v5.toInt = v1.toInt - 1 := by rw [ev5]; have z9 := pi_sub (x := v1) (y := (1 : Int32)); rw [k_1] at z9; exact z9 (by omega)
    have I := I.up (k := 4) (v := v5) (c_is_2 S) (show (0 : Int) ≤ v5.toInt ∧ v5.toInt ≤ (64 : Int) by omega)
    exact pe_v M V rfl rfl hr hlk ⟨rfl, I, A.wk (by decide), (show v5.toInt ≤ (h 2 4).toInt + 0 by have z8 := congrArg Int32.toInt ev1; omega)⟩ ⟨Nat.le_refl _, Nat.le_refl _⟩ dX4_drop_30
