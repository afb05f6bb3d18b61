theorem dX11_field_0 : decode cX11_field 0 = .ok (.aload_n 0, 1) := by decide +kernel
theorem dX11_field_1 : decode cX11_field 1 = .ok (.iload_n 1, 1) := by decide +kernel
theorem dX11_field_2 : decode cX11_field 2 = .ok (.invokestatic 171, 3) := by decide +kernel
theorem dX11_field_5 : decode cX11_field 5 = .ok (.ifCond .eq 18, 3) := by decide +kernel
theorem dX11_field_8 : decode cX11_field 8 = .ok (.iload_n 2, 1) := by decide +kernel
theorem dX11_field_9 : decode cX11_field 9 = .ok (.iconst 1, 1) := by decide +kernel
theorem dX11_field_10 : decode cX11_field 10 = .ok (.sipush 200, 3) := by decide +kernel
theorem dX11_field_13 : decode cX11_field 13 = .ok (.invokestatic 71, 3) := by decide +kernel
theorem dX11_field_16 : decode cX11_field 16 = .ok (.ifCond .eq 7, 3) := by decide +kernel
theorem dX11_field_19 : decode cX11_field 19 = .ok (.iconst 1, 1) := by decide +kernel
theorem dX11_field_20 : decode cX11_field 20 = .ok (.goto 4, 3) := by decide +kernel
theorem dX11_field_23 : decode cX11_field 23 = .ok (.iconst 0, 1) := by decide +kernel
theorem dX11_field_24 : decode cX11_field 24 = .ok (.invokevirtual 231, 3) := by decide +kernel
theorem dX11_field_27 : decode cX11_field 27 = .ok (.aload_n 0, 1) := by decide +kernel
theorem dX11_field_28 : decode cX11_field 28 = .ok (.getfield 33, 3) := by decide +kernel
theorem dX11_field_31 : decode cX11_field 31 = .ok (.iload_n 1, 1) := by decide +kernel
theorem dX11_field_32 : decode cX11_field 32 = .ok (.invokevirtual 234, 3) := by decide +kernel
theorem dX11_field_35 : decode cX11_field 35 = .ok (.istore_n 3, 1) := by decide +kernel
theorem dX11_field_36 : decode cX11_field 36 = .ok (.aload_n 0, 1) := by decide +kernel
theorem dX11_field_37 : decode cX11_field 37 = .ok (.iload_n 3, 1) := by decide +kernel
theorem dX11_field_38 : decode cX11_field 38 = .ok (.iload_n 2, 1) := by decide +kernel
theorem dX11_field_39 : decode cX11_field 39 = .ok (.invokevirtual 238, 3) := by decide +kernel
theorem dX11_field_42 : decode cX11_field 42 = .ok (.pop, 1) := by decide +kernel
theorem dX11_field_43 : decode cX11_field 43 = .ok (.aload_n 0, 1) := by decide +kernel
theorem dX11_field_44 : decode cX11_field 44 = .ok (.getfield 40, 3) := by decide +kernel
theorem dX11_field_47 : decode cX11_field 47 = .ok (.getfield 260, 3) := by decide +kernel
theorem dX11_field_50 : decode cX11_field 50 = .ok (.iload_n 3, 1) := by decide +kernel
theorem dX11_field_51 : decode cX11_field 51 = .ok (.if_icmp .ne 15, 3) := by decide +kernel
theorem dX11_field_54 : decode cX11_field 54 = .ok (.aload_n 0, 1) := by decide +kernel
theorem dX11_field_55 : decode cX11_field 55 = .ok (.getfield 47, 3) := by decide +kernel
theorem dX11_field_58 : decode cX11_field 58 = .ok (.iload_n 3, 1) := by decide +kernel
theorem dX11_field_59 : decode cX11_field 59 = .ok (.aload_n 0, 1) := by decide +kernel
theorem dX11_field_60 : decode cX11_field 60 = .ok (.getfield 10, 3) := by decide +kernel
theorem dX11_field_63 : decode cX11_field 63 = .ok (.invokevirtual 263, 3) := by decide +kernel
theorem dX11_field_66 : decode cX11_field 66 = .ok (.aload_n 0, 1) := by decide +kernel
theorem dX11_field_67 : decode cX11_field 67 = .ok (.iload_n 3, 1) := by decide +kernel
theorem dX11_field_68 : decode cX11_field 68 = .ok (.invokevirtual 241, 3) := by decide +kernel
theorem dX11_field_71 : decode cX11_field 71 = .ok (.aload_n 0, 1) := by decide +kernel
theorem dX11_field_72 : decode cX11_field 72 = .ok (.getfield 47, 3) := by decide +kernel
theorem dX11_field_75 : decode cX11_field 75 = .ok (.iload_n 3, 1) := by decide +kernel
theorem dX11_field_76 : decode cX11_field 76 = .ok (.invokevirtual 266, 3) := by decide +kernel
theorem dX11_field_79 : decode cX11_field 79 = .ok (.istore 4, 2) := by decide +kernel
theorem dX11_field_81 : decode cX11_field 81 = .ok (.iconst 0, 1) := by decide +kernel
theorem dX11_field_82 : decode cX11_field 82 = .ok (.istore 5, 2) := by decide +kernel
theorem dX11_field_84 : decode cX11_field 84 = .ok (.iload 5, 2) := by decide +kernel
theorem dX11_field_86 : decode cX11_field 86 = .ok (.iload 4, 2) := by decide +kernel
theorem dX11_field_88 : decode cX11_field 88 = .ok (.if_icmp .ge 25, 3) := by decide +kernel
theorem dX11_field_91 : decode cX11_field 91 = .ok (.aload_n 0, 1) := by decide +kernel
theorem dX11_field_92 : decode cX11_field 92 = .ok (.iload 5, 2) := by decide +kernel
theorem dX11_field_94 : decode cX11_field 94 = .ok (.aload_n 0, 1) := by decide +kernel
theorem dX11_field_95 : decode cX11_field 95 = .ok (.getfield 47, 3) := by decide +kernel
theorem dX11_field_98 : decode cX11_field 98 = .ok (.iload_n 3, 1) := by decide +kernel
theorem dX11_field_99 : decode cX11_field 99 = .ok (.iload 5, 2) := by decide +kernel
theorem dX11_field_101 : decode cX11_field 101 = .ok (.invokevirtual 269, 3) := by decide +kernel
theorem dX11_field_104 : decode cX11_field 104 = .ok (.invokevirtual 273, 3) := by decide +kernel
theorem dX11_field_107 : decode cX11_field 107 = .ok (.iinc 5 1, 3) := by decide +kernel
theorem dX11_field_110 : decode cX11_field 110 = .ok (.goto (-26), 3) := by decide +kernel
theorem dX11_field_113 : decode cX11_field 113 = .ok (.iload 4, 2) := by decide +kernel
theorem dX11_field_115 : decode cX11_field 115 = .ok (.ireturn, 1) := by decide +kernel
set_option maxHeartbeats 4000000 in
set_option maxRecDepth 100000 in
theorem m_X11_field (l : Launch) (hl9 : l.stackTraces = false) {Z : pZ} (S : pSh Z) {h : pH} (I : Iv Z h) (label : Int32) (width : Int32) (K : pSk Z) (L : pLk Z h) (hq3 : (h 129 3).toInt ≤ 8900) : xMet l yX11_field cX11_field 6 (some .int) 8 (gmc Z) (gms Z) 147 Z h [.ref (zB Z + 0), .int label, .int width] (gQi Z (fun r Z1 h1 k n => pGr Z Z1 ∧ pSk Z1 ∧ Iv Z1 h1 ∧ agrD [(0, 11), (122, 1000), (123, 1000), (124, 1000), (125, 1000), (126, 1000), (127, 1000), (128, 1000), (129, 2), (129, 3), (0, 10), (22, 5), (36, 4), (36, 5), (10, 3), (10, 4), (10, 5), (10, 6)] h h1 ∧ (k ≤ pPh Z1 - pPh Z ∧ n ≤ 2 * (pPh Z1 - pPh Z) ∧ pPh Z ≤ pPh Z1) ∧ pLk Z1 h1 ∧ ((h1 129 2).toInt ≤ (h 129 2).toInt + 13) ∧ ((h1 129 3).toInt ≤ (h 129 3).toInt + 13))) (gX Z (fun E Z1 h1 k n => (E = xIA ∨ E = xIS) ∧ pGr Z Z1 ∧ pSk Z1 ∧ Iv Z1 h1 ∧ agrD [(0, 11), (122, 1000), (123, 1000), (124, 1000), (125, 1000), (126, 1000), (127, 1000), (128, 1000), (129, 2), (129, 3), (0, 10), (22, 5), (36, 4), (36, 5), (10, 3), (10, 4), (10, 5), (10, 6)] h h1 ∧ (k ≤ pPh Z1 - pPh Z + 1 ∧ n ≤ 2 * (pPh Z1 - pPh Z) + 6 ∧ pPh Z ≤ pPh Z1) ∧ pLk Z1 h1 ∧ ((h1 129 2).toInt ≤ (h 129 2).toInt + 13) ∧ ((h1 129 3).toInt ≤ (h 129 3).toInt + 13))) := by
  refine xOfW (lv := [(0, .ref (zB Z + 0)), (1, .int label), (2, .int width)]) (by decide) (Nat.le_of_ble_eq_true rfl) rfl ?_
  intro p e s m below meth c ls M hr hlk hnm V hl hct X
  have hx := M.1.1
  have hb := M.1.2.1
  have A : agrD [] h h := agrD.rf
  have hP0 : pPh Z ≤ pPh Z := Nat.le_refl _
  have hPm := K.ph
  have GR : pGr Z Z := pGr.rf
  have J_84 : ∀ (n9 : Nat) (x84_3 : Int32) (x84_4 : Int32) (x84_5 : Int32) (yJ : pY) (hJ : pH) (H : Heap) (locs : List Loc) (ls : Array Slot), pGr Z (gW Z yJ) → pSk (gW Z yJ) → pPh Z ≤ pPh (gW Z yJ) → pV (gW Z yJ) hJ s.heap H locs → Iv (gW Z yJ) hJ → pLk (gW Z yJ) hJ → agrD [(0, 11), (122, 1000), (123, 5), (124, 1000), (126, 1000), (127, 1000), (128, 1000), (129, 2), (129, 3)] h hJ → lv_has ls 6 [(0, .ref (zB Z + 0)), (1, .int label), (2, .int width), (3, .int x84_3), (4, .int x84_4), (5, .int x84_5)] → (0 ≤ x84_4.toInt ∧ x84_4.toInt ≤ 12) → (0 ≤ x84_5.toInt ∧ x84_5.toInt ≤ 12) → ((hJ 129 2).toInt ≤ (h 129 2).toInt + 1 + x84_5.toInt ∧ (hJ 129 3).toInt ≤ (h 129 3).toInt + 1 + x84_5.toInt) → (12 - x84_5.toInt).toNat < n9 → W p l e (pRm 8 (gmc Z) (gms Z) 147) s m ([.ref (zB Z + 0), .int label, .int width] : List Value).toArray below meth c H locs (pPh (gW Z yJ) - pPh Z) (2 * (pPh (gW Z yJ) - pPh Z)) (vx_MQ below (gQi Z (fun r Z1 h1 k n => pGr Z Z1 ∧ pSk Z1 ∧ Iv Z1 h1 ∧ agrD [(0, 11), (122, 1000), (123, 1000), (124, 1000), (125, 1000), (126, 1000), (127, 1000), (128, 1000), (129, 2), (129, 3), (0, 10), (22, 5), (36, 4), (36, 5), (10, 3), (10, 4), (10, 5), (10, 6)] h h1 ∧ (k ≤ pPh Z1 - pPh Z ∧ n ≤ 2 * (pPh Z1 - pPh Z) ∧ pPh Z ≤ pPh Z1) ∧ pLk Z1 h1 ∧ ((h1 129 2).toInt ≤ (h 129 2).toInt + 13) ∧ ((h1 129 3).toInt ≤ (h 129 3).toInt + 13))) (gX Z (fun E Z1 h1 k n => (E = xIA ∨ E = xIS) ∧ pGr Z Z1 ∧ pSk Z1 ∧ Iv Z1 h1 ∧ agrD [(0, 11), (122, 1000), (123, 1000), (124, 1000), (125, 1000), (126, 1000), (127, 1000), (128, 1000), (129, 2), (129, 3), (0, 10), (22, 5), (36, 4), (36, 5), (10, 3), (10, 4), (10, 5), (10, 6)] h h1 ∧ (k ≤ pPh Z1 - pPh Z + 1 ∧ n ≤ 2 * (pPh Z1 - pPh Z) + 6 ∧ pPh Z ≤ pPh Z1) ∧ pLk Z1 h1 ∧ ((h1 129 2).toInt ≤ (h 129 2).toInt + 13) ∧ ((h1 129 3).toInt ≤ (h 129 3).toInt + 13))) ([.ref (zB Z + 0), .int label, .int width] : List Value).toArray s (gmc Z) (gms Z) (pA (zB Z))) (F0 m 84 ls []) := by
    intro n9
    induction n9 with
    | zero => intro x84_3 x84_4 x84_5 yJ hJ H locs ls GR K hP0 V I L A hl g_84_4 g_84_5 cq hm9; exact absurd hm9 (Nat.not_lt_zero _)
    | succ n9 ih_84 =>
      intro x84_3 x84_4 x84_5 yJ hJ H locs ls GR K hP0 V I L A hl g_84_4 g_84_5 cq hm9
      have S := S.gr (Z1 := (gW Z yJ)) rfl GR
      have M := pM.to (gW Z yJ) rfl M
      have hPm := K.ph
      refine lv_iload hx hb dX11_field_84 (lv_at hl 5 rfl) ?_
      refine lv_iload hx hb dX11_field_86 (lv_at hl 4 rfl) ?_
      refine lv_icmp_ge (tgt := 113) hx hb dX11_field_88 (by decide) (fun c_88 => ?_) (fun c_88 => ?_)
      · skip
        have c_88 := pi_le.mp c_88
        refine lv_iload hx hb dX11_field_113 (lv_at hl 4 rfl) ?_
        exact vx_ret (ge_i (Z := Z) (Z' := (gW Z yJ)) M V rfl rfl hr hlk rfl ⟨GR, K, I, A.wk (by decide), ⟨by omega, by omega, hP0⟩, L, (show (hJ 129 2).toInt ≤ (h 129 2).toInt + 13 by omega), (show (hJ 129 3).toInt ≤ (h 129 3).toInt + 13 by omega)⟩ (g_re (by omega) (by omega) hPm) dX11_field_115)
      · skip
        have c_88 := pi_le' c_88
        refine lv_aload_n hx hb dX11_field_91 rfl (lv_at hl 0 rfl) ?_
        refine lv_iload hx hb dX11_field_92 (lv_at hl 5 rfl) ?_
        refine lv_aload_n hx hb dX11_field_94 rfl (lv_at hl 0 rfl) ?_
        refine pg_r (Z := (gW Z yJ)) M V 11 5 (c_is_0 S) pC11 fk11_5 (c_r_0_5 S) lkF_X11_47 dX11_field_95 ?_
        refine lv_iload_n hx hb dX11_field_98 rfl (lv_at hl 3 rfl) ?_
        refine lv_iload hx hb dX11_field_99 (lv_at hl 5 rfl) ?_
        refine pk_i (pr_V (Z := (gW Z yJ)) M V (m_X10_letterOf l S I x84_3 x84_5 ) km_X10_letterOf (c_is_123 S) pC10 lkM_X11_269 rfl hl.1 rfl (Nat.le_of_ble_eq_true rfl) ⟨Nat.le_of_ble_eq_true rfl, Nat.le_of_ble_eq_true rfl⟩ (g_r0 (by omega) (by omega)) dX11_field_101) V (fun r1 Zr1 hr1 H locs pr1 _ _ V => ?_)
        obtain ⟨rfl, I, pA_r1⟩ := pr1
        have A := A.tr pA_r1 (by decide)
        have L := L.congr (pA_r1.get 129 2 (by decide)) (pA_r1.get 129 3 (by decide))
        have w_r1_129_2 : (hr1 129 2).toInt = (hJ 129 2).toInt := congrArg Int32.toInt (pA_r1.get 129 2 (by decide))
        have w_r1_129_3 : (hr1 129 3).toInt = (hJ 129 3).toInt := congrArg Int32.toInt (pA_r1.get 129 3 (by decide))
        refine gz_v (Z := (gW Z yJ)) Z rfl rfl (pr_V (Z := (gW Z yJ)) M V (m_X11_drawGlyph l S I x84_5 r1 K L (by omega)) km_X11_drawGlyph (c_is_0 S) pC11 lkM_X11_273 rfl hl.1 rfl (Nat.le_of_ble_eq_true rfl) ⟨Nat.le_of_ble_eq_true rfl, Nat.le_of_ble_eq_true rfl⟩ (g_rg (by omega) (by omega) hP0 hPm) dX11_field_104) V (fun yr2 hr2 kr2 nr2 H locs pr2 V => ?_)
        obtain ⟨gr2, K, I, pA_r2, br2, L, fr2_0, fr2_1⟩ := pr2
        have A := A.tr pA_r2 (by decide)
        have S := S.gr (Z1 := (gW Z yr2)) rfl gr2
        have M := pM.to (gW Z yr2) rfl M
        have GR := GR.tr gr2
        have hP0 : pPh Z ≤ pPh (gW Z yr2) := by omega
        have hPm := K.ph
        refine W.widen (k := pPh (gW Z yr2) - pPh Z) (n := 2 * (pPh (gW Z yr2) - pPh Z)) (by omega) (by omega) ?_
        obtain ⟨v3, ev3⟩ : ∃ y : Int32, y = x84_5 + 1 := ⟨_, rfl⟩
        refine lv_iinc (v := v3) (lv' := [(5, .int v3), (0, .ref (zB Z + 0)), (1, .int label), (2, .int width), (3, .int x84_3), (4, .int x84_4)]) hx hb dX11_field_107 hl (k := 5) rfl (by rw [ev3]; rfl) (by decide) rfl (fun ls hl => ?_)
        refine lv_goto (tgt := 84) hx hb dX11_field_110 (by decide) ?_
        have k_1 : (1 : Int32).toInt = 1 := rfl
        have tv3 : v3.toInt = x84_5.toInt + 1 := by rw [ev3]; have z9 := pi_add (x := x84_5) (y := (1 : Int32)); rw [k_1] at z9; exact z9 (by omega)
        exact ih_84 x84_3 x84_4 v3 _ _ _ _ _ GR K hP0 V I L (A.wk (by decide)) (lv_sub hl [1, 2, 3, 4, 5, 0] rfl) (by omega) (by omega) (by omega) (by omega) 
  have J_66 : ∀ (x66_3 : Int32) (hJ : pH) (H : Heap) (locs : List Loc) (ls : Array Slot), pV Z hJ s.heap H locs → Iv Z hJ → pLk Z hJ → agrD [(0, 11), (122, 1000), (123, 5), (124, 1000), (126, 1000), (127, 1000), (128, 1000)] h hJ → lv_has ls 6 [(0, .ref (zB Z + 0)), (1, .int label), (2, .int width), (3, .int x66_3)] → W p l e (pRm 8 (gmc Z) (gms Z) 147) s m ([.ref (zB Z + 0), .int label, .int width] : List Value).toArray below meth c H locs (pPh Z - pPh Z) (2 * (pPh Z - pPh Z)) (vx_MQ below (gQi Z (fun r Z1 h1 k n => pGr Z Z1 ∧ pSk Z1 ∧ Iv Z1 h1 ∧ agrD [(0, 11), (122, 1000), (123, 1000), (124, 1000), (125, 1000), (126, 1000), (127, 1000), (128, 1000), (129, 2), (129, 3), (0, 10), (22, 5), (36, 4), (36, 5), (10, 3), (10, 4), (10, 5), (10, 6)] h h1 ∧ (k ≤ pPh Z1 - pPh Z ∧ n ≤ 2 * (pPh Z1 - pPh Z) ∧ pPh Z ≤ pPh Z1) ∧ pLk Z1 h1 ∧ ((h1 129 2).toInt ≤ (h 129 2).toInt + 13) ∧ ((h1 129 3).toInt ≤ (h 129 3).toInt + 13))) (gX Z (fun E Z1 h1 k n => (E = xIA ∨ E = xIS) ∧ pGr Z Z1 ∧ pSk Z1 ∧ Iv Z1 h1 ∧ agrD [(0, 11), (122, 1000), (123, 1000), (124, 1000), (125, 1000), (126, 1000), (127, 1000), (128, 1000), (129, 2), (129, 3), (0, 10), (22, 5), (36, 4), (36, 5), (10, 3), (10, 4), (10, 5), (10, 6)] h h1 ∧ (k ≤ pPh Z1 - pPh Z + 1 ∧ n ≤ 2 * (pPh Z1 - pPh Z) + 6 ∧ pPh Z ≤ pPh Z1) ∧ pLk Z1 h1 ∧ ((h1 129 2).toInt ≤ (h 129 2).toInt + 13) ∧ ((h1 129 3).toInt ≤ (h 129 3).toInt + 13))) ([.ref (zB Z + 0), .int label, .int width] : List Value).toArray s (gmc Z) (gms Z) (pA (zB Z))) (F0 m 66 ls []) := by
    intro x66_3 hJ H locs ls V I L A hl
    have wJ_129_2 : (hJ 129 2).toInt = (h 129 2).toInt := congrArg Int32.toInt (A.get 129 2 (by decide))
    have wJ_129_3 : (hJ 129 3).toInt = (h 129 3).toInt := congrArg Int32.toInt (A.get 129 3 (by decide))
    refine lv_aload_n hx hb dX11_field_66 rfl (lv_at hl 0 rfl) ?_
    refine lv_iload_n hx hb dX11_field_67 rfl (lv_at hl 3 rfl) ?_
    refine gz_v Z rfl rfl (pr_V M V (m_X11_drawItem l S I x66_3 K L (by omega)) km_X11_drawItem (c_is_0 S) pC11 lkM_X11_241 rfl hl.1 rfl (Nat.le_of_ble_eq_true rfl) ⟨Nat.le_of_ble_eq_true rfl, Nat.le_of_ble_eq_true rfl⟩ (g_rg (by omega) (by omega) hP0 hPm) dX11_field_68) V (fun yr4 hr4 kr4 nr4 H locs pr4 V => ?_)
    obtain ⟨gr4, K, I, pA_r4, br4, L, fr4_0, fr4_1⟩ := pr4
    have A := A.wk (l3 := [(0, 11), (122, 1000), (123, 5), (124, 1000), (126, 1000), (127, 1000), (128, 1000), (129, 2), (129, 3)]) (by decide)
    have A := A.tr pA_r4 (by decide)
    have S := S.gr (Z1 := (gW Z yr4)) rfl gr4
    have M := pM.to (gW Z yr4) rfl M
    have GR := GR.tr gr4
    have hP0 : pPh Z ≤ pPh (gW Z yr4) := by omega
    have hPm := K.ph
    refine W.widen (k := pPh (gW Z yr4) - pPh Z) (n := 2 * (pPh (gW Z yr4) - pPh Z)) (by omega) (by omega) ?_
    refine lv_aload_n hx hb dX11_field_71 rfl (lv_at hl 0 rfl) ?_
    refine pg_r (Z := (gW Z yr4)) M V 11 5 (c_is_0 S) pC11 fk11_5 (c_r_0_5 S) lkF_X11_47 dX11_field_72 ?_
    refine lv_iload_n hx hb dX11_field_75 rfl (lv_at hl 3 rfl) ?_
    refine pk_i (pr_V (Z := (gW Z yr4)) M V (m_X10_lengthOf l S I x66_3 ) km_X10_lengthOf (c_is_123 S) pC10 lkM_X11_266 rfl hl.1 rfl (Nat.le_of_ble_eq_true rfl) ⟨Nat.le_of_ble_eq_true rfl, Nat.le_of_ble_eq_true rfl⟩ (g_r0 (by omega) (by omega)) dX11_field_76) V (fun r5 Zr5 hr5 H locs pr5 _ _ V => ?_)
    obtain ⟨rfl, I, pA_r5, fr5_0⟩ := pr5
    have A := A.tr pA_r5 (by decide)
    have L := L.congr (pA_r5.get 129 2 (by decide)) (pA_r5.get 129 3 (by decide))
    have w_r5_129_2 : (hr5 129 2).toInt = (hr4 129 2).toInt := congrArg Int32.toInt (pA_r5.get 129 2 (by decide))
    have w_r5_129_3 : (hr5 129 3).toInt = (hr4 129 3).toInt := congrArg Int32.toInt (pA_r5.get 129 3 (by decide))
    refine lv_istore (lv' := [(4, .int r5), (0, .ref (zB Z + 0)), (1, .int label), (2, .int width), (3, .int x66_3)]) hx hb dX11_field_79 hl (by decide) rfl (fun ls hl => ?_)
    refine lv_iconst (v := 0) hx hb dX11_field_81 (by decide) ?_
    refine lv_istore (lv' := [(5, .int (0 : Int32)), (4, .int r5), (0, .ref (zB Z + 0)), (1, .int label), (2, .int width), (3, .int x66_3)]) hx hb dX11_field_82 hl (by decide) rfl (fun ls hl => ?_)
    have k_0 : (0 : Int32).toInt = 0 := rfl
    exact J_84 _ x66_3 r5 (0 : Int32) _ _ _ _ _ GR K hP0 V I L (A.wk (by decide)) (lv_sub hl [2, 3, 4, 5, 1, 0] rfl) (by omega) (by omega) (by omega) (Nat.lt_succ_self _) 
  have J_24 : ∀ (y24_0 : Int32) (hJ : pH) (H : Heap) (locs : List Loc) (ls : Array Slot), pV Z hJ s.heap H locs → Iv Z hJ → pLk Z hJ → agrD [] h hJ → lv_has ls 6 [(0, .ref (zB Z + 0)), (1, .int label), (2, .int width)] → (0 ≤ y24_0.toInt ∧ y24_0.toInt ≤ 1) → W p l e (pRm 8 (gmc Z) (gms Z) 147) s m ([.ref (zB Z + 0), .int label, .int width] : List Value).toArray below meth c H locs (pPh Z - pPh Z) (2 * (pPh Z - pPh Z)) (vx_MQ below (gQi Z (fun r Z1 h1 k n => pGr Z Z1 ∧ pSk Z1 ∧ Iv Z1 h1 ∧ agrD [(0, 11), (122, 1000), (123, 1000), (124, 1000), (125, 1000), (126, 1000), (127, 1000), (128, 1000), (129, 2), (129, 3), (0, 10), (22, 5), (36, 4), (36, 5), (10, 3), (10, 4), (10, 5), (10, 6)] h h1 ∧ (k ≤ pPh Z1 - pPh Z ∧ n ≤ 2 * (pPh Z1 - pPh Z) ∧ pPh Z ≤ pPh Z1) ∧ pLk Z1 h1 ∧ ((h1 129 2).toInt ≤ (h 129 2).toInt + 13) ∧ ((h1 129 3).toInt ≤ (h 129 3).toInt + 13))) (gX Z (fun E Z1 h1 k n => (E = xIA ∨ E = xIS) ∧ pGr Z Z1 ∧ pSk Z1 ∧ Iv Z1 h1 ∧ agrD [(0, 11), (122, 1000), (123, 1000), (124, 1000), (125, 1000), (126, 1000), (127, 1000), (128, 1000), (129, 2), (129, 3), (0, 10), (22, 5), (36, 4), (36, 5), (10, 3), (10, 4), (10, 5), (10, 6)] h h1 ∧ (k ≤ pPh Z1 - pPh Z + 1 ∧ n ≤ 2 * (pPh Z1 - pPh Z) + 6 ∧ pPh Z ≤ pPh Z1) ∧ pLk Z1 h1 ∧ ((h1 129 2).toInt ≤ (h 129 2).toInt + 13) ∧ ((h1 129 3).toInt ≤ (h 129 3).toInt + 13))) ([.ref (zB Z + 0), .int label, .int width] : List Value).toArray s (gmc Z) (gms Z) (pA (zB Z))) (F0 m 24 ls [.int y24_0, .ref (zB Z + 0)]) := by
    intro y24_0 hJ H locs ls V I L A hl gs_24_0
    have wJ_129_2 : (hJ 129 2).toInt = (h 129 2).toInt := congrArg Int32.toInt (A.get 129 2 (by decide))
    have wJ_129_3 : (hJ 129 3).toInt = (h 129 3).toInt := congrArg Int32.toInt (A.get 129 3 (by decide))
    refine xz_v Z rfl rfl (xr_V M V X (m_X11_requireItem l hl9 S I y24_0) km_X11_requireItem (c_is_0 S) pC11 lkM_X11_231 rfl hl.1 rfl (Nat.le_of_ble_eq_true rfl) ⟨Nat.le_of_ble_eq_true rfl, Nat.le_of_ble_eq_true rfl⟩ (g_rk (by omega) (by omega)) dX11_field_24) V (fun E ce q9 yr6 hr6 H locs pr6 V w1 w2 w3 => ?_) (fun yr6 hr6 kr6 nr6 H locs pr6 V => ?_)
    · obtain ⟨hE, e2, I, pA_r6⟩ := pr6
      rw [← e2] at V
      have A := A.wk (l3 := [(0, 10), (22, 5), (36, 4), (36, 5), (122, 1000), (10, 3), (10, 4), (10, 5), (10, 6)]) (by decide)
      have A := A.tr pA_r6 (by decide)
      have L := L.congr (pA_r6.get 129 2 (by decide)) (pA_r6.get 129 3 (by decide))
      have w_r6_129_2 : (hr6 129 2).toInt = (hJ 129 2).toInt := congrArg Int32.toInt (pA_r6.get 129 2 (by decide))
      have w_r6_129_3 : (hr6 129 3).toInt = (hJ 129 3).toInt := congrArg Int32.toInt (pA_r6.get 129 3 (by decide))
      exact xe_out (Z' := Z) V rfl rfl hct hlk w1 w2 w3 ⟨hE, GR, K, I, A.wk (by decide), ⟨by omega, by omega, hP0⟩, L, (show (hr6 129 2).toInt ≤ (h 129 2).toInt + 13 by omega), (show (hr6 129 3).toInt ≤ (h 129 3).toInt + 13 by omega)⟩ (g_rx (by omega) (by omega) hPm)
    · obtain ⟨e2, rfl, rfl, rfl, fr6⟩ := pr6
      rw [← e2] at V
      refine lv_aload_n hx hb dX11_field_27 rfl (lv_at hl 0 rfl) ?_
      refine pg_r M V 11 3 (c_is_0 S) pC11 fk11_3 (c_r_0_3 S) lkF_X11_33 dX11_field_28 ?_
      refine lv_iload_n hx hb dX11_field_31 rfl (lv_at hl 1 rfl) ?_
      refine pk_i (pr_V M V (m_X8_idOf l S I label ) km_X8_idOf (c_is_36 S) pC8 lkM_X11_234 rfl hl.1 rfl (Nat.le_of_ble_eq_true rfl) ⟨Nat.le_of_ble_eq_true rfl, Nat.le_of_ble_eq_true rfl⟩ (g_r0 (by omega) (by omega)) dX11_field_32) V (fun r7 Zr7 hr7 H locs pr7 _ _ V => ?_)
      obtain ⟨rfl, I, pA_r7⟩ := pr7
      have A := A.tr pA_r7 (by decide)
      have L := L.congr (pA_r7.get 129 2 (by decide)) (pA_r7.get 129 3 (by decide))
      have w_r7_129_2 : (hr7 129 2).toInt = (hJ 129 2).toInt := congrArg Int32.toInt (pA_r7.get 129 2 (by decide))
      have w_r7_129_3 : (hr7 129 3).toInt = (hJ 129 3).toInt := congrArg Int32.toInt (pA_r7.get 129 3 (by decide))
      refine lv_istore_n (lv' := [(3, .int r7), (0, .ref (zB Z + 0)), (1, .int label), (2, .int width)]) hx hb dX11_field_35 rfl hl (by decide) rfl (fun ls hl => ?_)
      refine lv_aload_n hx hb dX11_field_36 rfl (lv_at hl 1 rfl) ?_
      refine lv_iload_n hx hb dX11_field_37 rfl (lv_at hl 0 rfl) ?_
      refine lv_iload_n hx hb dX11_field_38 rfl (lv_at hl 3 rfl) ?_
      refine pk_i (pr_V M V (m_X11_tellBehaving l S I r7 width ) km_X11_tellBehaving (c_is_0 S) pC11 lkM_X11_238 rfl hl.1 rfl (Nat.le_of_ble_eq_true rfl) ⟨Nat.le_of_ble_eq_true rfl, Nat.le_of_ble_eq_true rfl⟩ (g_r0 (by omega) (by omega)) dX11_field_39) V (fun r8 Zr8 hr8 H locs pr8 _ _ V => ?_)
      obtain ⟨rfl, I, pA_r8, fr8_0⟩ := pr8
      have A := A.wk (l3 := [(0, 11), (122, 1000)]) (by decide)
      have A := A.tr pA_r8 (by decide)
      have L := L.congr (pA_r8.get 129 2 (by decide)) (pA_r8.get 129 3 (by decide))
      have w_r8_129_2 : (hr8 129 2).toInt = (hr7 129 2).toInt := congrArg Int32.toInt (pA_r8.get 129 2 (by decide))
      have w_r8_129_3 : (hr8 129 3).toInt = (hr7 129 3).toInt := congrArg Int32.toInt (pA_r8.get 129 3 (by decide))
      refine lv_pop hx hb dX11_field_42 rfl ?_
      refine lv_aload_n hx hb dX11_field_43 rfl (lv_at hl 1 rfl) ?_
      refine pg_r M V 11 4 (c_is_0 S) pC11 fk11_4 (c_r_0_4 S) lkF_X11_40 dX11_field_44 ?_
      refine pg_i M V 1 2 (c_is_122 S) pC1 fk1_2 lkF_X11_260 dX11_field_47 ?_
      refine lv_topi (fun v9 ev9 => ?_)
      refine lv_iload_n hx hb dX11_field_50 rfl (lv_at hl 0 rfl) ?_
      refine lv_icmp_ne (tgt := 66) hx hb dX11_field_51 (by decide) (fun c_51 => ?_) (fun c_51 => ?_)
      · skip
        have c_51 := pi_ne c_51
        exact J_66 r7 _ _ _ _ V I L (A.wk (by decide)) (lv_sub hl [1, 2, 3, 0] rfl) 
      · skip
        have c_51 := pi_eq.mp c_51
        refine lv_aload_n hx hb dX11_field_54 rfl (lv_at hl 1 rfl) ?_
        refine pg_r M V 11 5 (c_is_0 S) pC11 fk11_5 (c_r_0_5 S) lkF_X11_47 dX11_field_55 ?_
        refine lv_iload_n hx hb dX11_field_58 rfl (lv_at hl 0 rfl) ?_
        refine lv_aload_n hx hb dX11_field_59 rfl (lv_at hl 1 rfl) ?_
        refine pg_r M V 11 0 (c_is_0 S) pC11 fk11_0 (c_r_0_0 S) lkF_X11_10 dX11_field_60 ?_
        refine pk_v (pr_V M V (m_X10_edit l S I r7  ) km_X10_edit (c_is_123 S) pC10 lkM_X11_263 rfl hl.1 rfl (Nat.le_of_ble_eq_true rfl) ⟨Nat.le_of_ble_eq_true rfl, Nat.le_of_ble_eq_true rfl⟩ (g_r0 (by omega) (by omega)) dX11_field_63) V (fun Zr10 hr10 H locs pr10 _ _ V => ?_)
        obtain ⟨rfl, I, pA_r10⟩ := pr10
        have A := A.wk (l3 := [(0, 11), (122, 1000), (123, 5), (124, 1000), (126, 1000), (127, 1000), (128, 1000)]) (by decide)
        have A := A.tr pA_r10 (by decide)
        have L := L.congr (pA_r10.get 129 2 (by decide)) (pA_r10.get 129 3 (by decide))
        have w_r10_129_2 : (hr10 129 2).toInt = (hr8 129 2).toInt := congrArg Int32.toInt (pA_r10.get 129 2 (by decide))
        have w_r10_129_3 : (hr10 129 3).toInt = (hr8 129 3).toInt := congrArg Int32.toInt (pA_r10.get 129 3 (by decide))
        exact J_66 r7 _ _ _ _ V I L (A.wk (by decide)) (lv_sub hl [1, 2, 3, 0] rfl) 
  have J_23 : ∀ (hJ : pH) (H : Heap) (locs : List Loc) (ls : Array Slot), pV Z hJ s.heap H locs → Iv Z hJ → pLk Z hJ → agrD [] h hJ → lv_has ls 6 [(0, .ref (zB Z + 0)), (1, .int label), (2, .int width)] → W p l e (pRm 8 (gmc Z) (gms Z) 147) s m ([.ref (zB Z + 0), .int label, .int width] : List Value).toArray below meth c H locs (pPh Z - pPh Z) (2 * (pPh Z - pPh Z)) (vx_MQ below (gQi Z (fun r Z1 h1 k n => pGr Z Z1 ∧ pSk Z1 ∧ Iv Z1 h1 ∧ agrD [(0, 11), (122, 1000), (123, 1000), (124, 1000), (125, 1000), (126, 1000), (127, 1000), (128, 1000), (129, 2), (129, 3), (0, 10), (22, 5), (36, 4), (36, 5), (10, 3), (10, 4), (10, 5), (10, 6)] h h1 ∧ (k ≤ pPh Z1 - pPh Z ∧ n ≤ 2 * (pPh Z1 - pPh Z) ∧ pPh Z ≤ pPh Z1) ∧ pLk Z1 h1 ∧ ((h1 129 2).toInt ≤ (h 129 2).toInt + 13) ∧ ((h1 129 3).toInt ≤ (h 129 3).toInt + 13))) (gX Z (fun E Z1 h1 k n => (E = xIA ∨ E = xIS) ∧ pGr Z Z1 ∧ pSk Z1 ∧ Iv Z1 h1 ∧ agrD [(0, 11), (122, 1000), (123, 1000), (124, 1000), (125, 1000), (126, 1000), (127, 1000), (128, 1000), (129, 2), (129, 3), (0, 10), (22, 5), (36, 4), (36, 5), (10, 3), (10, 4), (10, 5), (10, 6)] h h1 ∧ (k ≤ pPh Z1 - pPh Z + 1 ∧ n ≤ 2 * (pPh Z1 - pPh Z) + 6 ∧ pPh Z ≤ pPh Z1) ∧ pLk Z1 h1 ∧ ((h1 129 2).toInt ≤ (h 129 2).toInt + 13) ∧ ((h1 129 3).toInt ≤ (h 129 3).toInt + 13))) ([.ref (zB Z + 0), .int label, .int width] : List Value).toArray s (gmc Z) (gms Z) (pA (zB Z))) (F0 m 23 ls [.ref (zB Z + 0)]) := by
    intro hJ H locs ls V I L A hl
    have wJ_129_2 : (hJ 129 2).toInt = (h 129 2).toInt := congrArg Int32.toInt (A.get 129 2 (by decide))
    have wJ_129_3 : (hJ 129 3).toInt = (h 129 3).toInt := congrArg Int32.toInt (A.get 129 3 (by decide))
    refine lv_iconst (v := 0) hx hb dX11_field_23 (by decide) ?_
    have k_0 : (0 : Int32).toInt = 0 := rfl
    exact J_24 (0 : Int32) _ _ _ _ V I L (A.wk (by decide)) (lv_sub hl [0, 1, 2] rfl) (by omega) 
  refine W.widen (k := pPh Z - pPh Z) (n := 2 * (pPh Z - pPh Z)) (Nat.zero_le _) (Nat.zero_le _) ?_
  refine lv_aload_n hx hb dX11_field_0 rfl (lv_at hl 0 rfl) ?_
  refine lv_iload_n hx hb dX11_field_1 rfl (lv_at hl 1 rfl) ?_
  refine pk_i (pr_S M V (m_X11_isLabel l (Z := Z) (h := _) label) km_X11_isLabel lkM_X11_171 rfl hl.1 rfl (Nat.le_of_ble_eq_true rfl) ⟨Nat.le_of_ble_eq_true rfl, Nat.le_of_ble_eq_true rfl⟩ (g_r0 (by omega) (by omega)) dX11_field_2) V (fun r11 Zr11 hr11 H locs pr11 _ _ V => ?_)
  obtain ⟨rfl, rfl, fr11_0⟩ := pr11
  refine lv_if_eq (tgt := 23) hx hb dX11_field_5 (by decide) (fun c_5 => ?_) (fun c_5 => ?_)
  · skip
    have k_0 : (0 : Int32).toInt = 0 := rfl
    have c_5 := pi_eq.mp c_5
    exact J_23 _ _ _ _ V I L (A.wk (by decide)) (lv_sub hl [0, 1, 2] rfl) 
  · skip
    have k_0 : (0 : Int32).toInt = 0 := rfl
    have c_5 := pi_ne c_5
    refine lv_iload_n hx hb dX11_field_8 rfl (lv_at hl 2 rfl) ?_
    refine lv_iconst (v := 1) hx hb dX11_field_9 (by decide) ?_
    refine lv_sipush (v := 200) hx hb dX11_field_10 (by decide) ?_
    have k_1 : (1 : Int32).toInt = 1 := rfl
    have k_200 : (200 : Int32).toInt = 200 := rfl
    refine pk_i (pr_S M V (m_X11_isWithin l (Z := Z) (h := _) width (1 : Int32) (200 : Int32)) km_X11_isWithin lkM_X11_71 rfl hl.1 rfl (Nat.le_of_ble_eq_true rfl) ⟨Nat.le_of_ble_eq_true rfl, Nat.le_of_ble_eq_true rfl⟩ (g_r0 (by omega) (by omega)) dX11_field_13) V (fun r12 Zr12 hr12 H locs pr12 _ _ V => ?_)
    obtain ⟨rfl, rfl, fr12_0⟩ := pr12
    refine lv_if_eq (tgt := 23) hx hb dX11_field_16 (by decide) (fun c_16 => ?_) (fun c_16 => ?_)
    · skip
      have c_16 := pi_eq.mp c_16
      exact J_23 _ _ _ _ V I L (A.wk (by decide)) (lv_sub hl [0, 1, 2] rfl) 
    · skip
      have c_16 := pi_ne c_16
      refine lv_iconst (v := 1) hx hb dX11_field_19 (by decide) ?_
      refine lv_goto (tgt := 24) hx hb dX11_field_20 (by decide) ?_
      exact J_24 (1 : Int32) _ _ _ _ V I L (A.wk (by decide)) (lv_sub hl [0, 1, 2] rfl) (by omega) 
